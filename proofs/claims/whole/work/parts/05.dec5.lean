theorem dX12_pour_129 : decode cX12_pour 129 = .ok (.iload 4, 2) := by decide +kernel
theorem dX12_pour_131 : decode cX12_pour 131 = .ok (.iadd, 1) := by decide +kernel
theorem dX12_pour_132 : decode cX12_pour 132 = .ok (.iastore, 1) := by decide +kernel
theorem dX12_pour_133 : decode cX12_pour 133 = .ok (.aload_n 0, 1) := by decide +kernel
theorem dX12_pour_134 : decode cX12_pour 134 = .ok (.dup, 1) := by decide +kernel
theorem dX12_pour_135 : decode cX12_pour 135 = .ok (.getfield 440, 3) := by decide +kernel
theorem dX12_pour_138 : decode cX12_pour 138 = .ok (.iconst 1, 1) := by decide +kernel
theorem dX12_pour_139 : decode cX12_pour 139 = .ok (.iadd, 1) := by decide +kernel
theorem dX12_pour_140 : decode cX12_pour 140 = .ok (.putfield 440, 3) := by decide +kernel
theorem dX12_pour_143 : decode cX12_pour 143 = .ok (.iload 4, 2) := by decide +kernel
theorem dX12_pour_145 : decode cX12_pour 145 = .ok (.ireturn, 1) := by decide +kernel
theorem dX12_fails__0 : decode cX12_fails_ 0 = .ok (.aload_n 0, 1) := by decide +kernel
theorem dX12_fails__1 : decode cX12_fails_ 1 = .ok (.iload_n 1, 1) := by decide +kernel
theorem dX12_fails__2 : decode cX12_fails_ 2 = .ok (.putfield 456, 3) := by decide +kernel
theorem dX12_fails__5 : decode cX12_fails_ 5 = .ok (.iload_n 2, 1) := by decide +kernel
theorem dX12_fails__6 : decode cX12_fails_ 6 = .ok (.ireturn, 1) := by decide +kernel
theorem dX12_runBody_0 : decode cX12_runBody 0 = .ok (.aload_n 0, 1) := by decide +kernel
theorem dX12_runBody_1 : decode cX12_runBody 1 = .ok (.getfield 458, 3) := by decide +kernel
theorem dX12_runBody_4 : decode cX12_runBody 4 = .ok (.bipush 12, 2) := by decide +kernel
theorem dX12_runBody_6 : decode cX12_runBody 6 = .ok (.if_icmp .ne 5, 3) := by decide +kernel
theorem dX12_runBody_9 : decode cX12_runBody 9 = .ok (.iconst 3, 1) := by decide +kernel
theorem dX12_runBody_10 : decode cX12_runBody 10 = .ok (.ireturn, 1) := by decide +kernel
theorem dX12_runBody_11 : decode cX12_runBody 11 = .ok (.aload_n 0, 1) := by decide +kernel
theorem dX12_runBody_12 : decode cX12_runBody 12 = .ok (.getfield 143, 3) := by decide +kernel
theorem dX12_runBody_15 : decode cX12_runBody 15 = .ok (.aload_n 0, 1) := by decide +kernel
theorem dX12_runBody_16 : decode cX12_runBody 16 = .ok (.getfield 461, 3) := by decide +kernel
theorem dX12_runBody_19 : decode cX12_runBody 19 = .ok (.iload_n 1, 1) := by decide +kernel
theorem dX12_runBody_20 : decode cX12_runBody 20 = .ok (.iastore, 1) := by decide +kernel
theorem dX12_runBody_21 : decode cX12_runBody 21 = .ok (.aload_n 0, 1) := by decide +kernel
theorem dX12_runBody_22 : decode cX12_runBody 22 = .ok (.getfield 146, 3) := by decide +kernel
theorem dX12_runBody_25 : decode cX12_runBody 25 = .ok (.aload_n 0, 1) := by decide +kernel
theorem dX12_runBody_26 : decode cX12_runBody 26 = .ok (.getfield 461, 3) := by decide +kernel
theorem dX12_runBody_29 : decode cX12_runBody 29 = .ok (.iload_n 2, 1) := by decide +kernel
theorem dX12_runBody_30 : decode cX12_runBody 30 = .ok (.iastore, 1) := by decide +kernel
theorem dX12_runBody_31 : decode cX12_runBody 31 = .ok (.aload_n 0, 1) := by decide +kernel
theorem dX12_runBody_32 : decode cX12_runBody 32 = .ok (.getfield 149, 3) := by decide +kernel
theorem dX12_runBody_35 : decode cX12_runBody 35 = .ok (.aload_n 0, 1) := by decide +kernel
theorem dX12_runBody_36 : decode cX12_runBody 36 = .ok (.getfield 461, 3) := by decide +kernel
theorem dX12_runBody_39 : decode cX12_runBody 39 = .ok (.aload_n 0, 1) := by decide +kernel
theorem dX12_runBody_40 : decode cX12_runBody 40 = .ok (.getfield 458, 3) := by decide +kernel
theorem dX12_runBody_43 : decode cX12_runBody 43 = .ok (.iastore, 1) := by decide +kernel
theorem dX12_runBody_44 : decode cX12_runBody 44 = .ok (.aload_n 0, 1) := by decide +kernel
theorem dX12_runBody_45 : decode cX12_runBody 45 = .ok (.dup, 1) := by decide +kernel
theorem dX12_runBody_46 : decode cX12_runBody 46 = .ok (.getfield 461, 3) := by decide +kernel
theorem dX12_runBody_49 : decode cX12_runBody 49 = .ok (.iconst 1, 1) := by decide +kernel
theorem dX12_runBody_50 : decode cX12_runBody 50 = .ok (.iadd, 1) := by decide +kernel
theorem dX12_runBody_51 : decode cX12_runBody 51 = .ok (.putfield 461, 3) := by decide +kernel
theorem dX12_runBody_54 : decode cX12_runBody 54 = .ok (.aload_n 0, 1) := by decide +kernel
theorem dX12_runBody_55 : decode cX12_runBody 55 = .ok (.dup, 1) := by decide +kernel
theorem dX12_runBody_56 : decode cX12_runBody 56 = .ok (.getfield 458, 3) := by decide +kernel
theorem dX12_runBody_59 : decode cX12_runBody 59 = .ok (.iconst 1, 1) := by decide +kernel
theorem dX12_runBody_60 : decode cX12_runBody 60 = .ok (.iadd, 1) := by decide +kernel
theorem dX12_runBody_61 : decode cX12_runBody 61 = .ok (.putfield 458, 3) := by decide +kernel
theorem dX12_runBody_64 : decode cX12_runBody 64 = .ok (.aload_n 0, 1) := by decide +kernel
theorem dX12_runBody_65 : decode cX12_runBody 65 = .ok (.aload_n 0, 1) := by decide +kernel
theorem dX12_runBody_66 : decode cX12_runBody 66 = .ok (.getfield 42, 3) := by decide +kernel
theorem dX12_runBody_69 : decode cX12_runBody 69 = .ok (.bipush 6, 2) := by decide +kernel
theorem dX12_runBody_71 : decode cX12_runBody 71 = .ok (.iload_n 1, 1) := by decide +kernel
theorem dX12_runBody_72 : decode cX12_runBody 72 = .ok (.imul, 1) := by decide +kernel
theorem dX12_runBody_73 : decode cX12_runBody 73 = .ok (.iload_n 2, 1) := by decide +kernel
theorem dX12_runBody_74 : decode cX12_runBody 74 = .ok (.iadd, 1) := by decide +kernel
theorem dX12_runBody_75 : decode cX12_runBody 75 = .ok (.iaload, 1) := by decide +kernel
theorem dX12_runBody_76 : decode cX12_runBody 76 = .ok (.iload_n 1, 1) := by decide +kernel
theorem dX12_runBody_77 : decode cX12_runBody 77 = .ok (.iload_n 2, 1) := by decide +kernel
theorem dX12_runBody_78 : decode cX12_runBody 78 = .ok (.invokevirtual 464, 3) := by decide +kernel
theorem dX12_runBody_81 : decode cX12_runBody 81 = .ok (.istore_n 3, 1) := by decide +kernel
theorem dX12_runBody_82 : decode cX12_runBody 82 = .ok (.aload_n 0, 1) := by decide +kernel
theorem dX12_runBody_83 : decode cX12_runBody 83 = .ok (.dup, 1) := by decide +kernel
theorem dX12_runBody_84 : decode cX12_runBody 84 = .ok (.getfield 458, 3) := by decide +kernel
theorem dX12_runBody_87 : decode cX12_runBody 87 = .ok (.iconst 1, 1) := by decide +kernel
theorem dX12_runBody_88 : decode cX12_runBody 88 = .ok (.isub, 1) := by decide +kernel
theorem dX12_runBody_89 : decode cX12_runBody 89 = .ok (.putfield 458, 3) := by decide +kernel
theorem dX12_runBody_92 : decode cX12_runBody 92 = .ok (.iload_n 3, 1) := by decide +kernel
theorem dX12_runBody_93 : decode cX12_runBody 93 = .ok (.ireturn, 1) := by decide +kernel
theorem dX12_runAll_0 : decode cX12_runAll 0 = .ok (.iload_n 1, 1) := by decide +kernel
theorem dX12_runAll_1 : decode cX12_runAll 1 = .ok (.istore 4, 2) := by decide +kernel
theorem dX12_runAll_3 : decode cX12_runAll 3 = .ok (.iload 4, 2) := by decide +kernel
theorem dX12_runAll_5 : decode cX12_runAll 5 = .ok (.ifCond .lt 55, 3) := by decide +kernel
theorem dX12_runAll_8 : decode cX12_runAll 8 = .ok (.aload_n 0, 1) := by decide +kernel
theorem dX12_runAll_9 : decode cX12_runAll 9 = .ok (.getfield 467, 3) := by decide +kernel
theorem dX12_runAll_12 : decode cX12_runAll 12 = .ok (.sipush 400, 3) := by decide +kernel
theorem dX12_runAll_15 : decode cX12_runAll 15 = .ok (.if_icmp .ne 5, 3) := by decide +kernel
theorem dX12_runAll_18 : decode cX12_runAll 18 = .ok (.iconst 3, 1) := by decide +kernel
theorem dX12_runAll_19 : decode cX12_runAll 19 = .ok (.ireturn, 1) := by decide +kernel
theorem dX12_runAll_20 : decode cX12_runAll 20 = .ok (.aload_n 0, 1) := by decide +kernel
theorem dX12_runAll_21 : decode cX12_runAll 21 = .ok (.dup, 1) := by decide +kernel
theorem dX12_runAll_22 : decode cX12_runAll 22 = .ok (.getfield 467, 3) := by decide +kernel
theorem dX12_runAll_25 : decode cX12_runAll 25 = .ok (.iconst 1, 1) := by decide +kernel
theorem dX12_runAll_26 : decode cX12_runAll 26 = .ok (.iadd, 1) := by decide +kernel
theorem dX12_runAll_27 : decode cX12_runAll 27 = .ok (.putfield 467, 3) := by decide +kernel
theorem dX12_runAll_30 : decode cX12_runAll 30 = .ok (.aload_n 0, 1) := by decide +kernel
theorem dX12_runAll_31 : decode cX12_runAll 31 = .ok (.iload 4, 2) := by decide +kernel
theorem dX12_runAll_33 : decode cX12_runAll 33 = .ok (.iload_n 2, 1) := by decide +kernel
theorem dX12_runAll_34 : decode cX12_runAll 34 = .ok (.iload_n 3, 1) := by decide +kernel
theorem dX12_runAll_35 : decode cX12_runAll 35 = .ok (.invokevirtual 470, 3) := by decide +kernel
theorem dX12_runAll_38 : decode cX12_runAll 38 = .ok (.istore 5, 2) := by decide +kernel
theorem dX12_runAll_40 : decode cX12_runAll 40 = .ok (.iload 5, 2) := by decide +kernel
theorem dX12_runAll_42 : decode cX12_runAll 42 = .ok (.ifCond .eq 6, 3) := by decide +kernel
theorem dX12_runAll_45 : decode cX12_runAll 45 = .ok (.iload 5, 2) := by decide +kernel
theorem dX12_runAll_47 : decode cX12_runAll 47 = .ok (.ireturn, 1) := by decide +kernel
theorem dX12_runAll_48 : decode cX12_runAll 48 = .ok (.aload_n 0, 1) := by decide +kernel
theorem dX12_runAll_49 : decode cX12_runAll 49 = .ok (.getfield 60, 3) := by decide +kernel
theorem dX12_runAll_52 : decode cX12_runAll 52 = .ok (.iload 4, 2) := by decide +kernel
theorem dX12_runAll_54 : decode cX12_runAll 54 = .ok (.iaload, 1) := by decide +kernel
theorem dX12_runAll_55 : decode cX12_runAll 55 = .ok (.istore 4, 2) := by decide +kernel
theorem dX12_runAll_57 : decode cX12_runAll 57 = .ok (.goto (-54), 3) := by decide +kernel
theorem dX12_runAll_60 : decode cX12_runAll 60 = .ok (.iconst 0, 1) := by decide +kernel
theorem dX12_runAll_61 : decode cX12_runAll 61 = .ok (.ireturn, 1) := by decide +kernel
theorem dX12_run_0 : decode cX12_run 0 = .ok (.aload_n 0, 1) := by decide +kernel
theorem dX12_run_1 : decode cX12_run 1 = .ok (.getfield 51, 3) := by decide +kernel
theorem dX12_run_4 : decode cX12_run 4 = .ok (.iload_n 1, 1) := by decide +kernel
theorem dX12_run_5 : decode cX12_run 5 = .ok (.iaload, 1) := by decide +kernel
theorem dX12_run_6 : decode cX12_run 6 = .ok (.iconst (-1), 1) := by decide +kernel
theorem dX12_run_7 : decode cX12_run 7 = .ok (.if_icmp .ne 10, 3) := by decide +kernel
theorem dX12_run_10 : decode cX12_run 10 = .ok (.aload_n 0, 1) := by decide +kernel
theorem dX12_run_11 : decode cX12_run 11 = .ok (.getfield 473, 3) := by decide +kernel
theorem dX12_run_14 : decode cX12_run 14 = .ok (.goto 9, 3) := by decide +kernel
theorem dX12_run_17 : decode cX12_run 17 = .ok (.aload_n 0, 1) := by decide +kernel
theorem dX12_run_18 : decode cX12_run 18 = .ok (.getfield 51, 3) := by decide +kernel
theorem dX12_run_21 : decode cX12_run 21 = .ok (.iload_n 1, 1) := by decide +kernel
theorem dX12_run_22 : decode cX12_run 22 = .ok (.iaload, 1) := by decide +kernel
theorem dX12_run_23 : decode cX12_run 23 = .ok (.istore 4, 2) := by decide +kernel
theorem dX12_run_25 : decode cX12_run 25 = .ok (.aload_n 0, 1) := by decide +kernel
theorem dX12_run_26 : decode cX12_run 26 = .ok (.getfield 48, 3) := by decide +kernel
theorem dX12_run_29 : decode cX12_run 29 = .ok (.iload_n 1, 1) := by decide +kernel
theorem dX12_run_30 : decode cX12_run 30 = .ok (.iaload, 1) := by decide +kernel
theorem dX12_run_31 : decode cX12_run 31 = .ok (.tableswitch 201 1 9 #[49, 67, 97, 120, 120, 120, 133, 141, 170], 49) := by decide +kernel
theorem dX12_run_80 : decode cX12_run 80 = .ok (.aload_n 0, 1) := by decide +kernel
theorem dX12_run_81 : decode cX12_run 81 = .ok (.aload_n 0, 1) := by decide +kernel
theorem dX12_run_82 : decode cX12_run 82 = .ok (.iload_n 2, 1) := by decide +kernel
theorem dX12_run_83 : decode cX12_run 83 = .ok (.iload_n 3, 1) := by decide +kernel
theorem dX12_run_84 : decode cX12_run 84 = .ok (.aload_n 0, 1) := by decide +kernel
theorem dX12_run_85 : decode cX12_run 85 = .ok (.getfield 26, 3) := by decide +kernel
theorem dX12_run_88 : decode cX12_run 88 = .ok (.iload_n 2, 1) := by decide +kernel
theorem dX12_run_89 : decode cX12_run 89 = .ok (.iaload, 1) := by decide +kernel
theorem dX12_run_90 : decode cX12_run 90 = .ok (.invokevirtual 419, 3) := by decide +kernel
theorem dX12_run_93 : decode cX12_run 93 = .ok (.iload_n 3, 1) := by decide +kernel
theorem dX12_run_94 : decode cX12_run 94 = .ok (.invokevirtual 476, 3) := by decide +kernel
theorem dX12_run_97 : decode cX12_run 97 = .ok (.ireturn, 1) := by decide +kernel
theorem dX12_run_98 : decode cX12_run 98 = .ok (.aload_n 0, 1) := by decide +kernel
theorem dX12_run_99 : decode cX12_run 99 = .ok (.aload_n 0, 1) := by decide +kernel
theorem dX12_run_100 : decode cX12_run 100 = .ok (.aload_n 0, 1) := by decide +kernel
theorem dX12_run_101 : decode cX12_run 101 = .ok (.iload_n 2, 1) := by decide +kernel
theorem dX12_run_102 : decode cX12_run 102 = .ok (.iload 4, 2) := by decide +kernel
theorem dX12_run_104 : decode cX12_run 104 = .ok (.iload_n 2, 1) := by decide +kernel
theorem dX12_run_105 : decode cX12_run 105 = .ok (.invokevirtual 419, 3) := by decide +kernel
theorem dX12_run_108 : decode cX12_run 108 = .ok (.iload 4, 2) := by decide +kernel
theorem dX12_run_110 : decode cX12_run 110 = .ok (.aload_n 0, 1) := by decide +kernel
theorem dX12_run_111 : decode cX12_run 111 = .ok (.getfield 109, 3) := by decide +kernel
theorem dX12_run_114 : decode cX12_run 114 = .ok (.aload_n 0, 1) := by decide +kernel
theorem dX12_run_115 : decode cX12_run 115 = .ok (.getfield 479, 3) := by decide +kernel
theorem dX12_run_118 : decode cX12_run 118 = .ok (.iaload, 1) := by decide +kernel
theorem dX12_run_119 : decode cX12_run 119 = .ok (.invokevirtual 434, 3) := by decide +kernel
theorem dX12_run_122 : decode cX12_run 122 = .ok (.iload 4, 2) := by decide +kernel
theorem dX12_run_124 : decode cX12_run 124 = .ok (.invokevirtual 476, 3) := by decide +kernel
theorem dX12_run_127 : decode cX12_run 127 = .ok (.ireturn, 1) := by decide +kernel
theorem dX12_run_128 : decode cX12_run 128 = .ok (.aload_n 0, 1) := by decide +kernel
theorem dX12_run_129 : decode cX12_run 129 = .ok (.getfield 152, 3) := by decide +kernel
theorem dX12_run_132 : decode cX12_run 132 = .ok (.aload_n 0, 1) := by decide +kernel
theorem dX12_run_133 : decode cX12_run 133 = .ok (.getfield 482, 3) := by decide +kernel
theorem dX12_run_136 : decode cX12_run 136 = .ok (.iload 4, 2) := by decide +kernel
theorem dX12_run_138 : decode cX12_run 138 = .ok (.iastore, 1) := by decide +kernel
theorem dX12_run_139 : decode cX12_run 139 = .ok (.aload_n 0, 1) := by decide +kernel
theorem dX12_run_140 : decode cX12_run 140 = .ok (.dup, 1) := by decide +kernel
theorem dX12_run_141 : decode cX12_run 141 = .ok (.getfield 482, 3) := by decide +kernel
theorem dX12_run_144 : decode cX12_run 144 = .ok (.iconst 1, 1) := by decide +kernel
theorem dX12_run_145 : decode cX12_run 145 = .ok (.iadd, 1) := by decide +kernel
theorem dX12_run_146 : decode cX12_run 146 = .ok (.putfield 482, 3) := by decide +kernel
theorem dX12_run_149 : decode cX12_run 149 = .ok (.iconst 0, 1) := by decide +kernel
theorem dX12_run_150 : decode cX12_run 150 = .ok (.ireturn, 1) := by decide +kernel
theorem dX12_run_151 : decode cX12_run 151 = .ok (.aload_n 0, 1) := by decide +kernel
theorem dX12_run_152 : decode cX12_run 152 = .ok (.aload_n 0, 1) := by decide +kernel
theorem dX12_run_153 : decode cX12_run 153 = .ok (.getfield 48, 3) := by decide +kernel
theorem dX12_run_156 : decode cX12_run 156 = .ok (.iload_n 1, 1) := by decide +kernel
theorem dX12_run_157 : decode cX12_run 157 = .ok (.iaload, 1) := by decide +kernel
theorem dX12_run_158 : decode cX12_run 158 = .ok (.iload 4, 2) := by decide +kernel
theorem dX12_run_160 : decode cX12_run 160 = .ok (.invokevirtual 485, 3) := by decide +kernel
theorem dX12_run_163 : decode cX12_run 163 = .ok (.ireturn, 1) := by decide +kernel
theorem dX12_run_164 : decode cX12_run 164 = .ok (.aload_n 0, 1) := by decide +kernel
theorem dX12_run_165 : decode cX12_run 165 = .ok (.iload 4, 2) := by decide +kernel
theorem dX12_run_167 : decode cX12_run 167 = .ok (.iconst 1, 1) := by decide +kernel
theorem dX12_run_168 : decode cX12_run 168 = .ok (.invokevirtual 488, 3) := by decide +kernel
theorem dX12_run_171 : decode cX12_run 171 = .ok (.ireturn, 1) := by decide +kernel
theorem dX12_run_172 : decode cX12_run 172 = .ok (.aload_n 0, 1) := by decide +kernel
theorem dX12_run_173 : decode cX12_run 173 = .ok (.getfield 490, 3) := by decide +kernel
theorem dX12_run_176 : decode cX12_run 176 = .ok (.ifCond .eq 13, 3) := by decide +kernel
theorem dX12_run_179 : decode cX12_run 179 = .ok (.aload_n 0, 1) := by decide +kernel
theorem dX12_run_180 : decode cX12_run 180 = .ok (.iload 4, 2) := by decide +kernel
theorem dX12_run_182 : decode cX12_run 182 = .ok (.iconst 2, 1) := by decide +kernel
theorem dX12_run_183 : decode cX12_run 183 = .ok (.invokevirtual 488, 3) := by decide +kernel
theorem dX12_run_186 : decode cX12_run 186 = .ok (.goto 14, 3) := by decide +kernel
theorem dX12_run_189 : decode cX12_run 189 = .ok (.aload_n 0, 1) := by decide +kernel
theorem dX12_run_190 : decode cX12_run 190 = .ok (.iload 4, 2) := by decide +kernel
theorem dX12_run_192 : decode cX12_run 192 = .ok (.sipush 2000, 3) := by decide +kernel
theorem dX12_run_195 : decode cX12_run 195 = .ok (.iadd, 1) := by decide +kernel
theorem dX12_run_196 : decode cX12_run 196 = .ok (.iconst 1, 1) := by decide +kernel
theorem dX12_run_197 : decode cX12_run 197 = .ok (.invokevirtual 488, 3) := by decide +kernel
theorem dX12_run_200 : decode cX12_run 200 = .ok (.ireturn, 1) := by decide +kernel
theorem dX12_run_201 : decode cX12_run 201 = .ok (.aload_n 0, 1) := by decide +kernel
theorem dX12_run_202 : decode cX12_run 202 = .ok (.aload_n 0, 1) := by decide +kernel
theorem dX12_run_203 : decode cX12_run 203 = .ok (.getfield 473, 3) := by decide +kernel
theorem dX12_run_206 : decode cX12_run 206 = .ok (.iload 4, 2) := by decide +kernel
theorem dX12_run_208 : decode cX12_run 208 = .ok (.if_icmp .ge 12, 3) := by decide +kernel
theorem dX12_run_211 : decode cX12_run 211 = .ok (.aload_n 0, 1) := by decide +kernel
theorem dX12_run_212 : decode cX12_run 212 = .ok (.getfield 54, 3) := by decide +kernel
theorem dX12_run_215 : decode cX12_run 215 = .ok (.iload_n 1, 1) := by decide +kernel
theorem dX12_run_216 : decode cX12_run 216 = .ok (.iaload, 1) := by decide +kernel
theorem dX12_run_217 : decode cX12_run 217 = .ok (.goto 9, 3) := by decide +kernel
theorem dX12_run_220 : decode cX12_run 220 = .ok (.aload_n 0, 1) := by decide +kernel
theorem dX12_run_221 : decode cX12_run 221 = .ok (.getfield 57, 3) := by decide +kernel
theorem dX12_run_224 : decode cX12_run 224 = .ok (.iload_n 1, 1) := by decide +kernel
theorem dX12_run_225 : decode cX12_run 225 = .ok (.iaload, 1) := by decide +kernel
theorem dX12_run_226 : decode cX12_run 226 = .ok (.iload_n 2, 1) := by decide +kernel
theorem dX12_run_227 : decode cX12_run 227 = .ok (.iload_n 3, 1) := by decide +kernel
theorem dX12_run_228 : decode cX12_run 228 = .ok (.invokevirtual 464, 3) := by decide +kernel
theorem dX12_run_231 : decode cX12_run 231 = .ok (.ireturn, 1) := by decide +kernel
theorem dX12_run_232 : decode cX12_run 232 = .ok (.aload_n 0, 1) := by decide +kernel
theorem dX12_run_233 : decode cX12_run 233 = .ok (.aload_n 0, 1) := by decide +kernel
theorem dX12_run_234 : decode cX12_run 234 = .ok (.getfield 54, 3) := by decide +kernel
theorem dX12_run_237 : decode cX12_run 237 = .ok (.iload_n 1, 1) := by decide +kernel
theorem dX12_run_238 : decode cX12_run 238 = .ok (.iaload, 1) := by decide +kernel
theorem dX12_run_239 : decode cX12_run 239 = .ok (.iload_n 2, 1) := by decide +kernel
theorem dX12_run_240 : decode cX12_run 240 = .ok (.iload_n 3, 1) := by decide +kernel
theorem dX12_run_241 : decode cX12_run 241 = .ok (.invokevirtual 464, 3) := by decide +kernel
theorem dX12_run_244 : decode cX12_run 244 = .ok (.istore 5, 2) := by decide +kernel
theorem dX12_run_246 : decode cX12_run 246 = .ok (.iload 5, 2) := by decide +kernel
theorem dX12_run_248 : decode cX12_run 248 = .ok (.iconst 1, 1) := by decide +kernel
theorem dX12_run_249 : decode cX12_run 249 = .ok (.if_icmp .ne 18, 3) := by decide +kernel
theorem dX12_run_252 : decode cX12_run 252 = .ok (.aload_n 0, 1) := by decide +kernel
theorem dX12_run_253 : decode cX12_run 253 = .ok (.aload_n 0, 1) := by decide +kernel
theorem dX12_run_254 : decode cX12_run 254 = .ok (.getfield 57, 3) := by decide +kernel
theorem dX12_run_257 : decode cX12_run 257 = .ok (.iload_n 1, 1) := by decide +kernel
theorem dX12_run_258 : decode cX12_run 258 = .ok (.iaload, 1) := by decide +kernel
theorem dX12_run_259 : decode cX12_run 259 = .ok (.iload_n 2, 1) := by decide +kernel
theorem dX12_run_260 : decode cX12_run 260 = .ok (.iload_n 3, 1) := by decide +kernel
theorem dX12_run_261 : decode cX12_run 261 = .ok (.invokevirtual 464, 3) := by decide +kernel
theorem dX12_run_264 : decode cX12_run 264 = .ok (.goto 5, 3) := by decide +kernel
theorem dX12_run_267 : decode cX12_run 267 = .ok (.iload 5, 2) := by decide +kernel
theorem dX12_run_269 : decode cX12_run 269 = .ok (.ireturn, 1) := by decide +kernel
theorem dX12_runMatter_0 : decode cX12_runMatter 0 = .ok (.iload_n 1, 1) := by decide +kernel
theorem dX12_runMatter_1 : decode cX12_runMatter 1 = .ok (.iconst 4, 1) := by decide +kernel
theorem dX12_runMatter_2 : decode cX12_runMatter 2 = .ok (.if_icmp .ne 62, 3) := by decide +kernel
theorem dX12_runMatter_5 : decode cX12_runMatter 5 = .ok (.aload_n 0, 1) := by decide +kernel
theorem dX12_runMatter_6 : decode cX12_runMatter 6 = .ok (.getfield 115, 3) := by decide +kernel
theorem dX12_runMatter_9 : decode cX12_runMatter 9 = .ok (.aload_n 0, 1) := by decide +kernel
theorem dX12_runMatter_10 : decode cX12_runMatter 10 = .ok (.getfield 479, 3) := by decide +kernel
theorem dX12_runMatter_13 : decode cX12_runMatter 13 = .ok (.iaload, 1) := by decide +kernel
theorem dX12_runMatter_14 : decode cX12_runMatter 14 = .ok (.iload_n 2, 1) := by decide +kernel
theorem dX12_runMatter_15 : decode cX12_runMatter 15 = .ok (.iadd, 1) := by decide +kernel
theorem dX12_runMatter_16 : decode cX12_runMatter 16 = .ok (.aload_n 0, 1) := by decide +kernel
theorem dX12_runMatter_17 : decode cX12_runMatter 17 = .ok (.getfield 112, 3) := by decide +kernel
theorem dX12_runMatter_20 : decode cX12_runMatter 20 = .ok (.aload_n 0, 1) := by decide +kernel
theorem dX12_runMatter_21 : decode cX12_runMatter 21 = .ok (.getfield 479, 3) := by decide +kernel
theorem dX12_runMatter_24 : decode cX12_runMatter 24 = .ok (.iaload, 1) := by decide +kernel
theorem dX12_runMatter_25 : decode cX12_runMatter 25 = .ok (.if_icmp .le 12, 3) := by decide +kernel
theorem dX12_runMatter_28 : decode cX12_runMatter 28 = .ok (.aload_n 0, 1) := by decide +kernel
theorem dX12_runMatter_29 : decode cX12_runMatter 29 = .ok (.sipush 1001, 3) := by decide +kernel
theorem dX12_runMatter_32 : decode cX12_runMatter 32 = .ok (.iconst 1, 1) := by decide +kernel
theorem dX12_runMatter_33 : decode cX12_runMatter 33 = .ok (.invokevirtual 488, 3) := by decide +kernel
theorem dX12_runMatter_36 : decode cX12_runMatter 36 = .ok (.ireturn, 1) := by decide +kernel
theorem dX12_runMatter_37 : decode cX12_runMatter 37 = .ok (.aload_n 0, 1) := by decide +kernel
theorem dX12_runMatter_38 : decode cX12_runMatter 38 = .ok (.getfield 115, 3) := by decide +kernel
theorem dX12_runMatter_41 : decode cX12_runMatter 41 = .ok (.aload_n 0, 1) := by decide +kernel
theorem dX12_runMatter_42 : decode cX12_runMatter 42 = .ok (.getfield 479, 3) := by decide +kernel
theorem dX12_runMatter_45 : decode cX12_runMatter 45 = .ok (.dup2, 1) := by decide +kernel
theorem dX12_runMatter_46 : decode cX12_runMatter 46 = .ok (.iaload, 1) := by decide +kernel
theorem dX12_runMatter_47 : decode cX12_runMatter 47 = .ok (.iload_n 2, 1) := by decide +kernel
theorem dX12_runMatter_48 : decode cX12_runMatter 48 = .ok (.iadd, 1) := by decide +kernel
theorem dX12_runMatter_49 : decode cX12_runMatter 49 = .ok (.iastore, 1) := by decide +kernel
theorem dX12_runMatter_50 : decode cX12_runMatter 50 = .ok (.aload_n 0, 1) := by decide +kernel
theorem dX12_runMatter_51 : decode cX12_runMatter 51 = .ok (.getfield 121, 3) := by decide +kernel
theorem dX12_runMatter_54 : decode cX12_runMatter 54 = .ok (.iconst 1, 1) := by decide +kernel
theorem dX12_runMatter_55 : decode cX12_runMatter 55 = .ok (.dup2, 1) := by decide +kernel
theorem dX12_runMatter_56 : decode cX12_runMatter 56 = .ok (.laload, 1) := by decide +kernel
theorem dX12_runMatter_57 : decode cX12_runMatter 57 = .ok (.iload_n 2, 1) := by decide +kernel
theorem dX12_runMatter_58 : decode cX12_runMatter 58 = .ok (.i2l, 1) := by decide +kernel
theorem dX12_runMatter_59 : decode cX12_runMatter 59 = .ok (.ladd, 1) := by decide +kernel
theorem dX12_runMatter_60 : decode cX12_runMatter 60 = .ok (.lastore, 1) := by decide +kernel
theorem dX12_runMatter_61 : decode cX12_runMatter 61 = .ok (.goto 107, 3) := by decide +kernel
theorem dX12_runMatter_64 : decode cX12_runMatter 64 = .ok (.iload_n 1, 1) := by decide +kernel
theorem dX12_runMatter_65 : decode cX12_runMatter 65 = .ok (.iconst 5, 1) := by decide +kernel
theorem dX12_runMatter_66 : decode cX12_runMatter 66 = .ok (.if_icmp .ne 52, 3) := by decide +kernel
theorem dX12_runMatter_69 : decode cX12_runMatter 69 = .ok (.iload_n 2, 1) := by decide +kernel
theorem dX12_runMatter_70 : decode cX12_runMatter 70 = .ok (.aload_n 0, 1) := by decide +kernel
theorem dX12_runMatter_71 : decode cX12_runMatter 71 = .ok (.getfield 115, 3) := by decide +kernel
theorem dX12_runMatter_74 : decode cX12_runMatter 74 = .ok (.aload_n 0, 1) := by decide +kernel
theorem dX12_runMatter_75 : decode cX12_runMatter 75 = .ok (.getfield 479, 3) := by decide +kernel
theorem dX12_runMatter_78 : decode cX12_runMatter 78 = .ok (.iaload, 1) := by decide +kernel
theorem dX12_runMatter_79 : decode cX12_runMatter 79 = .ok (.if_icmp .le 12, 3) := by decide +kernel
theorem dX12_runMatter_82 : decode cX12_runMatter 82 = .ok (.aload_n 0, 1) := by decide +kernel
theorem dX12_runMatter_83 : decode cX12_runMatter 83 = .ok (.sipush 1000, 3) := by decide +kernel
theorem dX12_runMatter_86 : decode cX12_runMatter 86 = .ok (.iconst 1, 1) := by decide +kernel
theorem dX12_runMatter_87 : decode cX12_runMatter 87 = .ok (.invokevirtual 488, 3) := by decide +kernel
theorem dX12_runMatter_90 : decode cX12_runMatter 90 = .ok (.ireturn, 1) := by decide +kernel
theorem dX12_runMatter_91 : decode cX12_runMatter 91 = .ok (.aload_n 0, 1) := by decide +kernel
theorem dX12_runMatter_92 : decode cX12_runMatter 92 = .ok (.getfield 115, 3) := by decide +kernel
theorem dX12_runMatter_95 : decode cX12_runMatter 95 = .ok (.aload_n 0, 1) := by decide +kernel
theorem dX12_runMatter_96 : decode cX12_runMatter 96 = .ok (.getfield 479, 3) := by decide +kernel
theorem dX12_runMatter_99 : decode cX12_runMatter 99 = .ok (.dup2, 1) := by decide +kernel
theorem dX12_runMatter_100 : decode cX12_runMatter 100 = .ok (.iaload, 1) := by decide +kernel
theorem dX12_runMatter_101 : decode cX12_runMatter 101 = .ok (.iload_n 2, 1) := by decide +kernel
theorem dX12_runMatter_102 : decode cX12_runMatter 102 = .ok (.isub, 1) := by decide +kernel
theorem dX12_runMatter_103 : decode cX12_runMatter 103 = .ok (.iastore, 1) := by decide +kernel
theorem dX12_runMatter_104 : decode cX12_runMatter 104 = .ok (.aload_n 0, 1) := by decide +kernel
theorem dX12_runMatter_105 : decode cX12_runMatter 105 = .ok (.getfield 121, 3) := by decide +kernel
theorem dX12_runMatter_108 : decode cX12_runMatter 108 = .ok (.iconst 2, 1) := by decide +kernel
theorem dX12_runMatter_109 : decode cX12_runMatter 109 = .ok (.dup2, 1) := by decide +kernel
theorem dX12_runMatter_110 : decode cX12_runMatter 110 = .ok (.laload, 1) := by decide +kernel
theorem dX12_runMatter_111 : decode cX12_runMatter 111 = .ok (.iload_n 2, 1) := by decide +kernel
theorem dX12_runMatter_112 : decode cX12_runMatter 112 = .ok (.i2l, 1) := by decide +kernel
theorem dX12_runMatter_113 : decode cX12_runMatter 113 = .ok (.ladd, 1) := by decide +kernel
theorem dX12_runMatter_114 : decode cX12_runMatter 114 = .ok (.lastore, 1) := by decide +kernel
theorem dX12_runMatter_115 : decode cX12_runMatter 115 = .ok (.goto 53, 3) := by decide +kernel
theorem dX12_runMatter_118 : decode cX12_runMatter 118 = .ok (.aload_n 0, 1) := by decide +kernel
theorem dX12_runMatter_119 : decode cX12_runMatter 119 = .ok (.getfield 118, 3) := by decide +kernel
theorem dX12_runMatter_122 : decode cX12_runMatter 122 = .ok (.aload_n 0, 1) := by decide +kernel
theorem dX12_runMatter_123 : decode cX12_runMatter 123 = .ok (.getfield 479, 3) := by decide +kernel
theorem dX12_runMatter_126 : decode cX12_runMatter 126 = .ok (.iaload, 1) := by decide +kernel
theorem dX12_runMatter_127 : decode cX12_runMatter 127 = .ok (.iload_n 2, 1) := by decide +kernel
theorem dX12_runMatter_128 : decode cX12_runMatter 128 = .ok (.iadd, 1) := by decide +kernel
theorem dX12_runMatter_129 : decode cX12_runMatter 129 = .ok (.ldc_w 448, 3) := by decide +kernel
theorem dX12_runMatter_132 : decode cX12_runMatter 132 = .ok (.if_icmp .le 12, 3) := by decide +kernel
theorem dX12_runMatter_135 : decode cX12_runMatter 135 = .ok (.aload_n 0, 1) := by decide +kernel
theorem dX12_runMatter_136 : decode cX12_runMatter 136 = .ok (.sipush 1002, 3) := by decide +kernel
theorem dX12_runMatter_139 : decode cX12_runMatter 139 = .ok (.iconst 1, 1) := by decide +kernel
theorem dX12_runMatter_140 : decode cX12_runMatter 140 = .ok (.invokevirtual 488, 3) := by decide +kernel
theorem dX12_runMatter_143 : decode cX12_runMatter 143 = .ok (.ireturn, 1) := by decide +kernel
theorem dX12_runMatter_144 : decode cX12_runMatter 144 = .ok (.aload_n 0, 1) := by decide +kernel
theorem dX12_runMatter_145 : decode cX12_runMatter 145 = .ok (.getfield 118, 3) := by decide +kernel
theorem dX12_runMatter_148 : decode cX12_runMatter 148 = .ok (.aload_n 0, 1) := by decide +kernel
theorem dX12_runMatter_149 : decode cX12_runMatter 149 = .ok (.getfield 479, 3) := by decide +kernel
theorem dX12_runMatter_152 : decode cX12_runMatter 152 = .ok (.dup2, 1) := by decide +kernel
theorem dX12_runMatter_153 : decode cX12_runMatter 153 = .ok (.iaload, 1) := by decide +kernel
theorem dX12_runMatter_154 : decode cX12_runMatter 154 = .ok (.iload_n 2, 1) := by decide +kernel
theorem dX12_runMatter_155 : decode cX12_runMatter 155 = .ok (.iadd, 1) := by decide +kernel
theorem dX12_runMatter_156 : decode cX12_runMatter 156 = .ok (.iastore, 1) := by decide +kernel
theorem dX12_runMatter_157 : decode cX12_runMatter 157 = .ok (.aload_n 0, 1) := by decide +kernel
theorem dX12_runMatter_158 : decode cX12_runMatter 158 = .ok (.getfield 121, 3) := by decide +kernel
theorem dX12_runMatter_161 : decode cX12_runMatter 161 = .ok (.iconst 4, 1) := by decide +kernel
theorem dX12_runMatter_162 : decode cX12_runMatter 162 = .ok (.dup2, 1) := by decide +kernel
theorem dX12_runMatter_163 : decode cX12_runMatter 163 = .ok (.laload, 1) := by decide +kernel
theorem dX12_runMatter_164 : decode cX12_runMatter 164 = .ok (.iload_n 2, 1) := by decide +kernel
theorem dX12_runMatter_165 : decode cX12_runMatter 165 = .ok (.i2l, 1) := by decide +kernel
theorem dX12_runMatter_166 : decode cX12_runMatter 166 = .ok (.ladd, 1) := by decide +kernel
theorem dX12_runMatter_167 : decode cX12_runMatter 167 = .ok (.lastore, 1) := by decide +kernel
theorem dX12_runMatter_168 : decode cX12_runMatter 168 = .ok (.iconst 0, 1) := by decide +kernel
theorem dX12_runMatter_169 : decode cX12_runMatter 169 = .ok (.ireturn, 1) := by decide +kernel
theorem dX12_runHook_0 : decode cX12_runHook 0 = .ok (.aload_n 0, 1) := by decide +kernel
theorem dX12_runHook_1 : decode cX12_runHook 1 = .ok (.aload_n 0, 1) := by decide +kernel
theorem dX12_runHook_2 : decode cX12_runHook 2 = .ok (.iconst 0, 1) := by decide +kernel
theorem dX12_runHook_3 : decode cX12_runHook 3 = .ok (.iload_n 1, 1) := by decide +kernel
theorem dX12_runHook_4 : decode cX12_runHook 4 = .ok (.aload_n 0, 1) := by decide +kernel
theorem dX12_runHook_5 : decode cX12_runHook 5 = .ok (.getfield 109, 3) := by decide +kernel
theorem dX12_runHook_8 : decode cX12_runHook 8 = .ok (.aload_n 0, 1) := by decide +kernel
theorem dX12_runHook_9 : decode cX12_runHook 9 = .ok (.getfield 479, 3) := by decide +kernel
theorem dX12_runHook_12 : decode cX12_runHook 12 = .ok (.iaload, 1) := by decide +kernel
theorem dX12_runHook_13 : decode cX12_runHook 13 = .ok (.invokevirtual 434, 3) := by decide +kernel
theorem dX12_runHook_16 : decode cX12_runHook 16 = .ok (.iload_n 1, 1) := by decide +kernel
theorem dX12_runHook_17 : decode cX12_runHook 17 = .ok (.invokevirtual 476, 3) := by decide +kernel
theorem dX12_runHook_20 : decode cX12_runHook 20 = .ok (.ireturn, 1) := by decide +kernel
theorem dX12_act_0 : decode cX12_act 0 = .ok (.aload_n 0, 1) := by decide +kernel
theorem dX12_act_1 : decode cX12_act 1 = .ok (.iload_n 1, 1) := by decide +kernel
theorem dX12_act_2 : decode cX12_act 2 = .ok (.invokevirtual 445, 3) := by decide +kernel
theorem dX12_act_5 : decode cX12_act 5 = .ok (.ifCond .eq 14, 3) := by decide +kernel
theorem dX12_act_8 : decode cX12_act 8 = .ok (.iload_n 2, 1) := by decide +kernel
theorem dX12_act_9 : decode cX12_act 9 = .ok (.ifCond .lt 10, 3) := by decide +kernel
theorem dX12_act_12 : decode cX12_act 12 = .ok (.iload_n 2, 1) := by decide +kernel
theorem dX12_act_13 : decode cX12_act 13 = .ok (.sipush 999, 3) := by decide +kernel
theorem dX12_act_16 : decode cX12_act 16 = .ok (.if_icmp .le 9, 3) := by decide +kernel
theorem dX12_act_19 : decode cX12_act 19 = .ok (.aload_n 0, 1) := by decide +kernel
theorem dX12_act_20 : decode cX12_act 20 = .ok (.iconst (-1), 1) := by decide +kernel
theorem dX12_act_21 : decode cX12_act 21 = .ok (.invokevirtual 189, 3) := by decide +kernel
theorem dX12_act_24 : decode cX12_act 24 = .ok (.ireturn, 1) := by decide +kernel
theorem dX12_act_25 : decode cX12_act 25 = .ok (.aload_n 0, 1) := by decide +kernel
theorem dX12_act_26 : decode cX12_act 26 = .ok (.iload_n 1, 1) := by decide +kernel
theorem dX12_act_27 : decode cX12_act 27 = .ok (.putfield 479, 3) := by decide +kernel
theorem dX12_act_30 : decode cX12_act 30 = .ok (.aload_n 0, 1) := by decide +kernel
theorem dX12_act_31 : decode cX12_act 31 = .ok (.iload_n 2, 1) := by decide +kernel
theorem dX12_act_32 : decode cX12_act 32 = .ok (.putfield 473, 3) := by decide +kernel
theorem dX12_act_35 : decode cX12_act 35 = .ok (.aload_n 0, 1) := by decide +kernel
theorem dX12_act_36 : decode cX12_act 36 = .ok (.iconst 0, 1) := by decide +kernel
theorem dX12_act_37 : decode cX12_act 37 = .ok (.putfield 458, 3) := by decide +kernel
theorem dX12_act_40 : decode cX12_act 40 = .ok (.aload_n 0, 1) := by decide +kernel
theorem dX12_act_41 : decode cX12_act 41 = .ok (.iconst 0, 1) := by decide +kernel
theorem dX12_act_42 : decode cX12_act 42 = .ok (.putfield 467, 3) := by decide +kernel
theorem dX12_act_45 : decode cX12_act 45 = .ok (.aload_n 0, 1) := by decide +kernel
theorem dX12_act_46 : decode cX12_act 46 = .ok (.iconst 0, 1) := by decide +kernel
theorem dX12_act_47 : decode cX12_act 47 = .ok (.putfield 461, 3) := by decide +kernel
theorem dX12_act_50 : decode cX12_act 50 = .ok (.aload_n 0, 1) := by decide +kernel
theorem dX12_act_51 : decode cX12_act 51 = .ok (.iconst 0, 1) := by decide +kernel
theorem dX12_act_52 : decode cX12_act 52 = .ok (.putfield 482, 3) := by decide +kernel
theorem dX12_act_55 : decode cX12_act 55 = .ok (.aload_n 0, 1) := by decide +kernel
theorem dX12_act_56 : decode cX12_act 56 = .ok (.iconst 0, 1) := by decide +kernel
theorem dX12_act_57 : decode cX12_act 57 = .ok (.putfield 493, 3) := by decide +kernel
theorem dX12_act_60 : decode cX12_act 60 = .ok (.aload_n 0, 1) := by decide +kernel
theorem dX12_act_61 : decode cX12_act 61 = .ok (.iconst 0, 1) := by decide +kernel
theorem dX12_act_62 : decode cX12_act 62 = .ok (.iload_n 1, 1) := by decide +kernel
theorem dX12_act_63 : decode cX12_act 63 = .ok (.iload_n 2, 1) := by decide +kernel
theorem dX12_act_64 : decode cX12_act 64 = .ok (.iload_n 1, 1) := by decide +kernel
theorem dX12_act_65 : decode cX12_act 65 = .ok (.invokevirtual 453, 3) := by decide +kernel
theorem dX12_act_68 : decode cX12_act 68 = .ok (.aload_n 0, 1) := by decide +kernel
theorem dX12_act_69 : decode cX12_act 69 = .ok (.iconst 1, 1) := by decide +kernel
theorem dX12_act_70 : decode cX12_act 70 = .ok (.putfield 490, 3) := by decide +kernel
theorem dX12_act_73 : decode cX12_act 73 = .ok (.aload_n 0, 1) := by decide +kernel
theorem dX12_act_74 : decode cX12_act 74 = .ok (.iconst 0, 1) := by decide +kernel
theorem dX12_act_75 : decode cX12_act 75 = .ok (.invokevirtual 496, 3) := by decide +kernel
theorem dX12_act_78 : decode cX12_act 78 = .ok (.istore_n 3, 1) := by decide +kernel
theorem dX12_act_79 : decode cX12_act 79 = .ok (.aload_n 0, 1) := by decide +kernel
theorem dX12_act_80 : decode cX12_act 80 = .ok (.iconst 0, 1) := by decide +kernel
theorem dX12_act_81 : decode cX12_act 81 = .ok (.putfield 490, 3) := by decide +kernel
theorem dX12_act_84 : decode cX12_act 84 = .ok (.iload_n 3, 1) := by decide +kernel
theorem dX12_act_85 : decode cX12_act 85 = .ok (.iconst 2, 1) := by decide +kernel
theorem dX12_act_86 : decode cX12_act 86 = .ok (.if_icmp .ne 17, 3) := by decide +kernel
theorem dX12_act_89 : decode cX12_act 89 = .ok (.aload_n 0, 1) := by decide +kernel
theorem dX12_act_90 : decode cX12_act 90 = .ok (.invokevirtual 499, 3) := by decide +kernel
theorem dX12_act_93 : decode cX12_act 93 = .ok (.aload_n 0, 1) := by decide +kernel
theorem dX12_act_94 : decode cX12_act 94 = .ok (.aload_n 0, 1) := by decide +kernel
theorem dX12_act_95 : decode cX12_act 95 = .ok (.getfield 456, 3) := by decide +kernel
theorem dX12_act_98 : decode cX12_act 98 = .ok (.putfield 493, 3) := by decide +kernel
theorem dX12_act_101 : decode cX12_act 101 = .ok (.iconst 1, 1) := by decide +kernel
theorem dX12_act_102 : decode cX12_act 102 = .ok (.ireturn, 1) := by decide +kernel
theorem dX12_act_103 : decode cX12_act 103 = .ok (.iconst 1, 1) := by decide +kernel
theorem dX12_act_104 : decode cX12_act 104 = .ok (.istore 4, 2) := by decide +kernel
theorem dX12_act_106 : decode cX12_act 106 = .ok (.iload 4, 2) := by decide +kernel
theorem dX12_act_108 : decode cX12_act 108 = .ok (.iconst 5, 1) := by decide +kernel
theorem dX12_act_109 : decode cX12_act 109 = .ok (.if_icmp .ge 20, 3) := by decide +kernel
theorem dX12_act_112 : decode cX12_act 112 = .ok (.iload_n 3, 1) := by decide +kernel
theorem dX12_act_113 : decode cX12_act 113 = .ok (.ifCond .ne 16, 3) := by decide +kernel
theorem dX12_act_116 : decode cX12_act 116 = .ok (.aload_n 0, 1) := by decide +kernel
theorem dX12_act_117 : decode cX12_act 117 = .ok (.iload 4, 2) := by decide +kernel
theorem dX12_act_119 : decode cX12_act 119 = .ok (.invokevirtual 496, 3) := by decide +kernel
theorem dX12_act_122 : decode cX12_act 122 = .ok (.istore_n 3, 1) := by decide +kernel
theorem dX12_act_123 : decode cX12_act 123 = .ok (.iinc 4 1, 3) := by decide +kernel
theorem dX12_act_126 : decode cX12_act 126 = .ok (.goto (-20), 3) := by decide +kernel
theorem dX12_act_129 : decode cX12_act 129 = .ok (.aload_n 0, 1) := by decide +kernel
theorem dX12_act_130 : decode cX12_act 130 = .ok (.getfield 456, 3) := by decide +kernel
theorem dX12_act_133 : decode cX12_act 133 = .ok (.istore 4, 2) := by decide +kernel
theorem dX12_act_135 : decode cX12_act 135 = .ok (.iload_n 3, 1) := by decide +kernel
theorem dX12_act_136 : decode cX12_act 136 = .ok (.iconst 3, 1) := by decide +kernel
theorem dX12_act_137 : decode cX12_act 137 = .ok (.if_icmp .eq 51, 3) := by decide +kernel
theorem dX12_act_140 : decode cX12_act 140 = .ok (.aload_n 0, 1) := by decide +kernel
theorem dX12_act_141 : decode cX12_act 141 = .ok (.iconst 0, 1) := by decide +kernel
theorem dX12_act_142 : decode cX12_act 142 = .ok (.putfield 458, 3) := by decide +kernel
theorem dX12_act_145 : decode cX12_act 145 = .ok (.aload_n 0, 1) := by decide +kernel
theorem dX12_act_146 : decode cX12_act 146 = .ok (.iconst 5, 1) := by decide +kernel
theorem dX12_act_147 : decode cX12_act 147 = .ok (.invokevirtual 496, 3) := by decide +kernel
theorem dX12_act_150 : decode cX12_act 150 = .ok (.istore 5, 2) := by decide +kernel
theorem dX12_act_152 : decode cX12_act 152 = .ok (.iload 5, 2) := by decide +kernel
theorem dX12_act_154 : decode cX12_act 154 = .ok (.ifCond .eq 13, 3) := by decide +kernel
theorem dX12_act_157 : decode cX12_act 157 = .ok (.iload_n 3, 1) := by decide +kernel
theorem dX12_act_158 : decode cX12_act 158 = .ok (.ifCond .ne 9, 3) := by decide +kernel
theorem dX12_act_161 : decode cX12_act 161 = .ok (.aload_n 0, 1) := by decide +kernel
theorem dX12_act_162 : decode cX12_act 162 = .ok (.getfield 456, 3) := by decide +kernel
theorem dX12_act_165 : decode cX12_act 165 = .ok (.istore 4, 2) := by decide +kernel
theorem dX12_act_167 : decode cX12_act 167 = .ok (.iload 5, 2) := by decide +kernel
theorem dX12_act_169 : decode cX12_act 169 = .ok (.iconst 3, 1) := by decide +kernel
theorem dX12_act_170 : decode cX12_act 170 = .ok (.if_icmp .ne 7, 3) := by decide +kernel
theorem dX12_act_173 : decode cX12_act 173 = .ok (.iconst 3, 1) := by decide +kernel
theorem dX12_act_174 : decode cX12_act 174 = .ok (.goto 13, 3) := by decide +kernel
theorem dX12_act_177 : decode cX12_act 177 = .ok (.iload_n 3, 1) := by decide +kernel
theorem dX12_act_178 : decode cX12_act 178 = .ok (.ifCond .ne 8, 3) := by decide +kernel
theorem dX12_act_181 : decode cX12_act 181 = .ok (.iload 5, 2) := by decide +kernel
theorem dX12_act_183 : decode cX12_act 183 = .ok (.goto 4, 3) := by decide +kernel
theorem dX12_act_186 : decode cX12_act 186 = .ok (.iload_n 3, 1) := by decide +kernel
theorem dX12_act_187 : decode cX12_act 187 = .ok (.istore_n 3, 1) := by decide +kernel
theorem dX12_act_188 : decode cX12_act 188 = .ok (.iload_n 3, 1) := by decide +kernel
theorem dX12_act_189 : decode cX12_act 189 = .ok (.ifCond .ne 15, 3) := by decide +kernel
theorem dX12_act_192 : decode cX12_act 192 = .ok (.aload_n 0, 1) := by decide +kernel
theorem dX12_act_193 : decode cX12_act 193 = .ok (.dup, 1) := by decide +kernel
theorem dX12_act_194 : decode cX12_act 194 = .ok (.getfield 440, 3) := by decide +kernel
theorem dX12_act_197 : decode cX12_act 197 = .ok (.iconst 1, 1) := by decide +kernel
theorem dX12_act_198 : decode cX12_act 198 = .ok (.iadd, 1) := by decide +kernel
theorem dX12_act_199 : decode cX12_act 199 = .ok (.putfield 440, 3) := by decide +kernel
theorem dX12_act_202 : decode cX12_act 202 = .ok (.iconst 0, 1) := by decide +kernel
theorem dX12_act_203 : decode cX12_act 203 = .ok (.ireturn, 1) := by decide +kernel
theorem dX12_act_204 : decode cX12_act 204 = .ok (.aload_n 0, 1) := by decide +kernel
theorem dX12_act_205 : decode cX12_act 205 = .ok (.invokevirtual 499, 3) := by decide +kernel
theorem dX12_act_208 : decode cX12_act 208 = .ok (.aload_n 0, 1) := by decide +kernel
theorem dX12_act_209 : decode cX12_act 209 = .ok (.iload_n 3, 1) := by decide +kernel
theorem dX12_act_210 : decode cX12_act 210 = .ok (.iconst 3, 1) := by decide +kernel
theorem dX12_act_211 : decode cX12_act 211 = .ok (.if_icmp .ne 7, 3) := by decide +kernel
theorem dX12_act_214 : decode cX12_act 214 = .ok (.iconst 0, 1) := by decide +kernel
theorem dX12_act_215 : decode cX12_act 215 = .ok (.goto 5, 3) := by decide +kernel
theorem dX12_act_218 : decode cX12_act 218 = .ok (.iload 4, 2) := by decide +kernel
theorem dX12_act_220 : decode cX12_act 220 = .ok (.putfield 493, 3) := by decide +kernel
theorem dX12_act_223 : decode cX12_act 223 = .ok (.iload_n 3, 1) := by decide +kernel
theorem dX12_act_224 : decode cX12_act 224 = .ok (.iconst 3, 1) := by decide +kernel
theorem dX12_act_225 : decode cX12_act 225 = .ok (.if_icmp .ne 7, 3) := by decide +kernel
theorem dX12_act_228 : decode cX12_act 228 = .ok (.iconst 3, 1) := by decide +kernel
theorem dX12_act_229 : decode cX12_act 229 = .ok (.goto 4, 3) := by decide +kernel
theorem dX12_act_232 : decode cX12_act 232 = .ok (.iconst 2, 1) := by decide +kernel
theorem dX12_act_233 : decode cX12_act 233 = .ok (.ireturn, 1) := by decide +kernel
theorem dX12_outcome_0 : decode cX12_outcome 0 = .ok (.iload_n 1, 1) := by decide +kernel
theorem dX12_outcome_1 : decode cX12_outcome 1 = .ok (.ifCond .ne 10, 3) := by decide +kernel
theorem dX12_outcome_4 : decode cX12_outcome 4 = .ok (.aload_n 0, 1) := by decide +kernel
theorem dX12_outcome_5 : decode cX12_outcome 5 = .ok (.getfield 493, 3) := by decide +kernel
theorem dX12_outcome_8 : decode cX12_outcome 8 = .ok (.goto 44, 3) := by decide +kernel
theorem dX12_outcome_11 : decode cX12_outcome 11 = .ok (.iload_n 1, 1) := by decide +kernel
theorem dX12_outcome_12 : decode cX12_outcome 12 = .ok (.iconst 1, 1) := by decide +kernel
theorem dX12_outcome_13 : decode cX12_outcome 13 = .ok (.if_icmp .ne 10, 3) := by decide +kernel
theorem dX12_outcome_16 : decode cX12_outcome 16 = .ok (.aload_n 0, 1) := by decide +kernel
theorem dX12_outcome_17 : decode cX12_outcome 17 = .ok (.getfield 461, 3) := by decide +kernel
theorem dX12_outcome_20 : decode cX12_outcome 20 = .ok (.goto 32, 3) := by decide +kernel
theorem dX12_outcome_23 : decode cX12_outcome 23 = .ok (.iload_n 1, 1) := by decide +kernel
theorem dX12_outcome_24 : decode cX12_outcome 24 = .ok (.iconst 2, 1) := by decide +kernel
theorem dX12_outcome_25 : decode cX12_outcome 25 = .ok (.if_icmp .ne 10, 3) := by decide +kernel
theorem dX12_outcome_28 : decode cX12_outcome 28 = .ok (.aload_n 0, 1) := by decide +kernel
theorem dX12_outcome_29 : decode cX12_outcome 29 = .ok (.getfield 482, 3) := by decide +kernel
theorem dX12_outcome_32 : decode cX12_outcome 32 = .ok (.goto 20, 3) := by decide +kernel
theorem dX12_outcome_35 : decode cX12_outcome 35 = .ok (.iload_n 1, 1) := by decide +kernel
theorem dX12_outcome_36 : decode cX12_outcome 36 = .ok (.iconst 3, 1) := by decide +kernel
theorem dX12_outcome_37 : decode cX12_outcome 37 = .ok (.if_icmp .ne 10, 3) := by decide +kernel
theorem dX12_outcome_40 : decode cX12_outcome 40 = .ok (.aload_n 0, 1) := by decide +kernel
theorem dX12_outcome_41 : decode cX12_outcome 41 = .ok (.getfield 467, 3) := by decide +kernel
theorem dX12_outcome_44 : decode cX12_outcome 44 = .ok (.goto 8, 3) := by decide +kernel
theorem dX12_outcome_47 : decode cX12_outcome 47 = .ok (.aload_n 0, 1) := by decide +kernel
theorem dX12_outcome_48 : decode cX12_outcome 48 = .ok (.iconst (-1), 1) := by decide +kernel
theorem dX12_outcome_49 : decode cX12_outcome 49 = .ok (.invokevirtual 189, 3) := by decide +kernel
theorem dX12_outcome_52 : decode cX12_outcome 52 = .ok (.ireturn, 1) := by decide +kernel
theorem dX12_ran_0 : decode cX12_ran 0 = .ok (.iload_n 1, 1) := by decide +kernel
theorem dX12_ran_1 : decode cX12_ran 1 = .ok (.ifCond .lt 20, 3) := by decide +kernel
theorem dX12_ran_4 : decode cX12_ran 4 = .ok (.iload_n 1, 1) := by decide +kernel
theorem dX12_ran_5 : decode cX12_ran 5 = .ok (.aload_n 0, 1) := by decide +kernel
theorem dX12_ran_6 : decode cX12_ran 6 = .ok (.getfield 461, 3) := by decide +kernel
theorem dX12_ran_9 : decode cX12_ran 9 = .ok (.if_icmp .ge 12, 3) := by decide +kernel
theorem dX12_ran_12 : decode cX12_ran 12 = .ok (.iload_n 2, 1) := by decide +kernel
theorem dX12_ran_13 : decode cX12_ran 13 = .ok (.ifCond .lt 8, 3) := by decide +kernel
theorem dX12_ran_16 : decode cX12_ran 16 = .ok (.iload_n 2, 1) := by decide +kernel
theorem dX12_ran_17 : decode cX12_ran 17 = .ok (.iconst 2, 1) := by decide +kernel
theorem dX12_ran_18 : decode cX12_ran 18 = .ok (.if_icmp .le 9, 3) := by decide +kernel
theorem dX12_ran_21 : decode cX12_ran 21 = .ok (.aload_n 0, 1) := by decide +kernel
theorem dX12_ran_22 : decode cX12_ran 22 = .ok (.iconst (-1), 1) := by decide +kernel
theorem dX12_ran_23 : decode cX12_ran 23 = .ok (.invokevirtual 189, 3) := by decide +kernel
theorem dX12_ran_26 : decode cX12_ran 26 = .ok (.ireturn, 1) := by decide +kernel
theorem dX12_ran_27 : decode cX12_ran 27 = .ok (.iload_n 2, 1) := by decide +kernel
theorem dX12_ran_28 : decode cX12_ran 28 = .ok (.ifCond .ne 12, 3) := by decide +kernel
theorem dX12_ran_31 : decode cX12_ran 31 = .ok (.aload_n 0, 1) := by decide +kernel
theorem dX12_ran_32 : decode cX12_ran 32 = .ok (.getfield 143, 3) := by decide +kernel
theorem dX12_ran_35 : decode cX12_ran 35 = .ok (.iload_n 1, 1) := by decide +kernel
theorem dX12_ran_36 : decode cX12_ran 36 = .ok (.iaload, 1) := by decide +kernel
theorem dX12_ran_37 : decode cX12_ran 37 = .ok (.goto 23, 3) := by decide +kernel
theorem dX12_ran_40 : decode cX12_ran 40 = .ok (.iload_n 2, 1) := by decide +kernel
theorem dX12_ran_41 : decode cX12_ran 41 = .ok (.iconst 1, 1) := by decide +kernel
theorem dX12_ran_42 : decode cX12_ran 42 = .ok (.if_icmp .ne 12, 3) := by decide +kernel
theorem dX12_ran_45 : decode cX12_ran 45 = .ok (.aload_n 0, 1) := by decide +kernel
theorem dX12_ran_46 : decode cX12_ran 46 = .ok (.getfield 146, 3) := by decide +kernel
theorem dX12_ran_49 : decode cX12_ran 49 = .ok (.iload_n 1, 1) := by decide +kernel
theorem dX12_ran_50 : decode cX12_ran 50 = .ok (.iaload, 1) := by decide +kernel
theorem dX12_ran_51 : decode cX12_ran 51 = .ok (.goto 9, 3) := by decide +kernel
theorem dX12_ran_54 : decode cX12_ran 54 = .ok (.aload_n 0, 1) := by decide +kernel
theorem dX12_ran_55 : decode cX12_ran 55 = .ok (.getfield 149, 3) := by decide +kernel
theorem dX12_ran_58 : decode cX12_ran 58 = .ok (.iload_n 1, 1) := by decide +kernel
theorem dX12_ran_59 : decode cX12_ran 59 = .ok (.iaload, 1) := by decide +kernel
theorem dX12_ran_60 : decode cX12_ran 60 = .ok (.ireturn, 1) := by decide +kernel
theorem dX12_said_0 : decode cX12_said 0 = .ok (.iload_n 1, 1) := by decide +kernel
theorem dX12_said_1 : decode cX12_said 1 = .ok (.ifCond .lt 20, 3) := by decide +kernel
theorem dX12_said_4 : decode cX12_said 4 = .ok (.iload_n 1, 1) := by decide +kernel
theorem dX12_said_5 : decode cX12_said 5 = .ok (.aload_n 0, 1) := by decide +kernel
theorem dX12_said_6 : decode cX12_said 6 = .ok (.getfield 482, 3) := by decide +kernel
theorem dX12_said_9 : decode cX12_said 9 = .ok (.if_icmp .ge 12, 3) := by decide +kernel
theorem dX12_said_12 : decode cX12_said 12 = .ok (.aload_n 0, 1) := by decide +kernel
theorem dX12_said_13 : decode cX12_said 13 = .ok (.getfield 152, 3) := by decide +kernel
theorem dX12_said_16 : decode cX12_said 16 = .ok (.iload_n 1, 1) := by decide +kernel
theorem dX12_said_17 : decode cX12_said 17 = .ok (.iaload, 1) := by decide +kernel
theorem dX12_said_18 : decode cX12_said 18 = .ok (.goto 8, 3) := by decide +kernel
theorem dX12_said_21 : decode cX12_said 21 = .ok (.aload_n 0, 1) := by decide +kernel
theorem dX12_said_22 : decode cX12_said 22 = .ok (.iconst (-1), 1) := by decide +kernel
theorem dX12_said_23 : decode cX12_said 23 = .ok (.invokevirtual 189, 3) := by decide +kernel
theorem dX12_said_26 : decode cX12_said 26 = .ok (.ireturn, 1) := by decide +kernel
theorem dX12_apparatus_0 : decode cX12_apparatus 0 = .ok (.aload_n 0, 1) := by decide +kernel
theorem dX12_apparatus_1 : decode cX12_apparatus 1 = .ok (.iload_n 1, 1) := by decide +kernel
theorem dX12_apparatus_2 : decode cX12_apparatus 2 = .ok (.invokevirtual 445, 3) := by decide +kernel
theorem dX12_apparatus_5 : decode cX12_apparatus 5 = .ok (.ifCond .eq 12, 3) := by decide +kernel
theorem dX12_apparatus_8 : decode cX12_apparatus 8 = .ok (.iload_n 2, 1) := by decide +kernel
theorem dX12_apparatus_9 : decode cX12_apparatus 9 = .ok (.ifCond .lt 8, 3) := by decide +kernel
theorem dX12_apparatus_12 : decode cX12_apparatus 12 = .ok (.iload_n 2, 1) := by decide +kernel
theorem dX12_apparatus_13 : decode cX12_apparatus 13 = .ok (.iconst 3, 1) := by decide +kernel
theorem dX12_apparatus_14 : decode cX12_apparatus 14 = .ok (.if_icmp .le 9, 3) := by decide +kernel
theorem dX12_apparatus_17 : decode cX12_apparatus 17 = .ok (.aload_n 0, 1) := by decide +kernel
theorem dX12_apparatus_18 : decode cX12_apparatus 18 = .ok (.iconst (-1), 1) := by decide +kernel
theorem dX12_apparatus_19 : decode cX12_apparatus 19 = .ok (.invokevirtual 189, 3) := by decide +kernel
theorem dX12_apparatus_22 : decode cX12_apparatus 22 = .ok (.ireturn, 1) := by decide +kernel
theorem dX12_apparatus_23 : decode cX12_apparatus 23 = .ok (.iload_n 2, 1) := by decide +kernel
theorem dX12_apparatus_24 : decode cX12_apparatus 24 = .ok (.ifCond .ne 12, 3) := by decide +kernel
theorem dX12_apparatus_27 : decode cX12_apparatus 27 = .ok (.aload_n 0, 1) := by decide +kernel
theorem dX12_apparatus_28 : decode cX12_apparatus 28 = .ok (.getfield 109, 3) := by decide +kernel
theorem dX12_apparatus_31 : decode cX12_apparatus 31 = .ok (.iload_n 1, 1) := by decide +kernel
theorem dX12_apparatus_32 : decode cX12_apparatus 32 = .ok (.iaload, 1) := by decide +kernel
theorem dX12_apparatus_33 : decode cX12_apparatus 33 = .ok (.goto 37, 3) := by decide +kernel
theorem dX12_apparatus_36 : decode cX12_apparatus 36 = .ok (.iload_n 2, 1) := by decide +kernel
theorem dX12_apparatus_37 : decode cX12_apparatus 37 = .ok (.iconst 1, 1) := by decide +kernel
theorem dX12_apparatus_38 : decode cX12_apparatus 38 = .ok (.if_icmp .ne 12, 3) := by decide +kernel
theorem dX12_apparatus_41 : decode cX12_apparatus 41 = .ok (.aload_n 0, 1) := by decide +kernel
theorem dX12_apparatus_42 : decode cX12_apparatus 42 = .ok (.getfield 112, 3) := by decide +kernel
theorem dX12_apparatus_45 : decode cX12_apparatus 45 = .ok (.iload_n 1, 1) := by decide +kernel
theorem dX12_apparatus_46 : decode cX12_apparatus 46 = .ok (.iaload, 1) := by decide +kernel
theorem dX12_apparatus_47 : decode cX12_apparatus 47 = .ok (.goto 23, 3) := by decide +kernel
theorem dX12_apparatus_50 : decode cX12_apparatus 50 = .ok (.iload_n 2, 1) := by decide +kernel
theorem dX12_apparatus_51 : decode cX12_apparatus 51 = .ok (.iconst 2, 1) := by decide +kernel
theorem dX12_apparatus_52 : decode cX12_apparatus 52 = .ok (.if_icmp .ne 12, 3) := by decide +kernel
theorem dX12_apparatus_55 : decode cX12_apparatus 55 = .ok (.aload_n 0, 1) := by decide +kernel
theorem dX12_apparatus_56 : decode cX12_apparatus 56 = .ok (.getfield 115, 3) := by decide +kernel
theorem dX12_apparatus_59 : decode cX12_apparatus 59 = .ok (.iload_n 1, 1) := by decide +kernel
theorem dX12_apparatus_60 : decode cX12_apparatus 60 = .ok (.iaload, 1) := by decide +kernel
theorem dX12_apparatus_61 : decode cX12_apparatus 61 = .ok (.goto 9, 3) := by decide +kernel
theorem dX12_apparatus_64 : decode cX12_apparatus 64 = .ok (.aload_n 0, 1) := by decide +kernel
theorem dX12_apparatus_65 : decode cX12_apparatus 65 = .ok (.getfield 118, 3) := by decide +kernel
theorem dX12_apparatus_68 : decode cX12_apparatus 68 = .ok (.iload_n 1, 1) := by decide +kernel
theorem dX12_apparatus_69 : decode cX12_apparatus 69 = .ok (.iaload, 1) := by decide +kernel
theorem dX12_apparatus_70 : decode cX12_apparatus 70 = .ok (.ireturn, 1) := by decide +kernel
theorem dX12_all_0 : decode cX12_all 0 = .ok (.iload_n 1, 1) := by decide +kernel
theorem dX12_all_1 : decode cX12_all 1 = .ok (.ifCond .lt 9, 3) := by decide +kernel
theorem dX12_all_4 : decode cX12_all 4 = .ok (.iload_n 1, 1) := by decide +kernel
theorem dX12_all_5 : decode cX12_all 5 = .ok (.bipush 6, 2) := by decide +kernel
theorem dX12_all_7 : decode cX12_all 7 = .ok (.if_icmp .le 10, 3) := by decide +kernel
theorem dX12_all_10 : decode cX12_all 10 = .ok (.aload_n 0, 1) := by decide +kernel
theorem dX12_all_11 : decode cX12_all 11 = .ok (.iconst (-1), 1) := by decide +kernel
theorem dX12_all_12 : decode cX12_all 12 = .ok (.invokevirtual 189, 3) := by decide +kernel
theorem dX12_all_15 : decode cX12_all 15 = .ok (.i2l, 1) := by decide +kernel
theorem dX12_all_16 : decode cX12_all 16 = .ok (.lreturn, 1) := by decide +kernel
theorem dX12_all_17 : decode cX12_all 17 = .ok (.lconst 0, 1) := by decide +kernel
theorem dX12_all_18 : decode cX12_all 18 = .ok (.lstore_n 2, 1) := by decide +kernel
theorem dX12_all_19 : decode cX12_all 19 = .ok (.iconst 0, 1) := by decide +kernel
theorem dX12_all_20 : decode cX12_all 20 = .ok (.istore 4, 2) := by decide +kernel
theorem dX12_all_22 : decode cX12_all 22 = .ok (.iload 4, 2) := by decide +kernel
theorem dX12_all_24 : decode cX12_all 24 = .ok (.aload_n 0, 1) := by decide +kernel
theorem dX12_all_25 : decode cX12_all 25 = .ok (.getfield 437, 3) := by decide +kernel
theorem dX12_all_28 : decode cX12_all 28 = .ok (.if_icmp .ge 44, 3) := by decide +kernel
theorem dX12_all_31 : decode cX12_all 31 = .ok (.iload_n 1, 1) := by decide +kernel
theorem dX12_all_32 : decode cX12_all 32 = .ok (.ifCond .eq 8, 3) := by decide +kernel
theorem dX12_all_35 : decode cX12_all 35 = .ok (.iload_n 1, 1) := by decide +kernel
theorem dX12_all_36 : decode cX12_all 36 = .ok (.iconst 4, 1) := by decide +kernel
theorem dX12_all_37 : decode cX12_all 37 = .ok (.if_icmp .ne 35, 3) := by decide +kernel
theorem dX12_all_40 : decode cX12_all 40 = .ok (.lload_n 2, 1) := by decide +kernel
theorem dX12_all_41 : decode cX12_all 41 = .ok (.iload_n 1, 1) := by decide +kernel
theorem dX12_all_42 : decode cX12_all 42 = .ok (.ifCond .ne 14, 3) := by decide +kernel
theorem dX12_all_45 : decode cX12_all 45 = .ok (.aload_n 0, 1) := by decide +kernel
theorem dX12_all_46 : decode cX12_all 46 = .ok (.getfield 115, 3) := by decide +kernel
theorem dX12_all_49 : decode cX12_all 49 = .ok (.iload 4, 2) := by decide +kernel
theorem dX12_all_51 : decode cX12_all 51 = .ok (.iaload, 1) := by decide +kernel
theorem dX12_all_52 : decode cX12_all 52 = .ok (.i2l, 1) := by decide +kernel
theorem dX12_all_53 : decode cX12_all 53 = .ok (.goto 11, 3) := by decide +kernel
theorem dX12_all_56 : decode cX12_all 56 = .ok (.aload_n 0, 1) := by decide +kernel
theorem dX12_all_57 : decode cX12_all 57 = .ok (.getfield 118, 3) := by decide +kernel
theorem dX12_all_60 : decode cX12_all 60 = .ok (.iload 4, 2) := by decide +kernel
theorem dX12_all_62 : decode cX12_all 62 = .ok (.iaload, 1) := by decide +kernel
theorem dX12_all_63 : decode cX12_all 63 = .ok (.i2l, 1) := by decide +kernel
theorem dX12_all_64 : decode cX12_all 64 = .ok (.ladd, 1) := by decide +kernel
theorem dX12_all_65 : decode cX12_all 65 = .ok (.lstore_n 2, 1) := by decide +kernel
theorem dX12_all_66 : decode cX12_all 66 = .ok (.iinc 4 1, 3) := by decide +kernel
theorem dX12_all_69 : decode cX12_all 69 = .ok (.goto (-47), 3) := by decide +kernel
theorem dX12_all_72 : decode cX12_all 72 = .ok (.iload_n 1, 1) := by decide +kernel
theorem dX12_all_73 : decode cX12_all 73 = .ok (.ifCond .eq 8, 3) := by decide +kernel
theorem dX12_all_76 : decode cX12_all 76 = .ok (.iload_n 1, 1) := by decide +kernel
theorem dX12_all_77 : decode cX12_all 77 = .ok (.iconst 4, 1) := by decide +kernel
theorem dX12_all_78 : decode cX12_all 78 = .ok (.if_icmp .ne 7, 3) := by decide +kernel
theorem dX12_all_81 : decode cX12_all 81 = .ok (.lload_n 2, 1) := by decide +kernel
theorem dX12_all_82 : decode cX12_all 82 = .ok (.goto 27, 3) := by decide +kernel
theorem dX12_all_85 : decode cX12_all 85 = .ok (.iload_n 1, 1) := by decide +kernel
theorem dX12_all_86 : decode cX12_all 86 = .ok (.iconst 4, 1) := by decide +kernel
theorem dX12_all_87 : decode cX12_all 87 = .ok (.if_icmp .ge 14, 3) := by decide +kernel
theorem dX12_all_90 : decode cX12_all 90 = .ok (.aload_n 0, 1) := by decide +kernel
theorem dX12_all_91 : decode cX12_all 91 = .ok (.getfield 121, 3) := by decide +kernel
theorem dX12_all_94 : decode cX12_all 94 = .ok (.iload_n 1, 1) := by decide +kernel
theorem dX12_all_95 : decode cX12_all 95 = .ok (.iconst 1, 1) := by decide +kernel
theorem dX12_all_96 : decode cX12_all 96 = .ok (.isub, 1) := by decide +kernel
theorem dX12_all_97 : decode cX12_all 97 = .ok (.laload, 1) := by decide +kernel
theorem dX12_all_98 : decode cX12_all 98 = .ok (.goto 11, 3) := by decide +kernel
theorem dX12_all_101 : decode cX12_all 101 = .ok (.aload_n 0, 1) := by decide +kernel
theorem dX12_all_102 : decode cX12_all 102 = .ok (.getfield 121, 3) := by decide +kernel
theorem dX12_all_105 : decode cX12_all 105 = .ok (.iload_n 1, 1) := by decide +kernel
theorem dX12_all_106 : decode cX12_all 106 = .ok (.iconst 2, 1) := by decide +kernel
theorem dX12_all_107 : decode cX12_all 107 = .ok (.isub, 1) := by decide +kernel
theorem dX12_all_108 : decode cX12_all 108 = .ok (.laload, 1) := by decide +kernel
theorem dX12_all_109 : decode cX12_all 109 = .ok (.lreturn, 1) := by decide +kernel
theorem dX12_record_0 : decode cX12_record 0 = .ok (.iload_n 1, 1) := by decide +kernel
theorem dX12_record_1 : decode cX12_record 1 = .ok (.ifCond .lt 20, 3) := by decide +kernel
theorem dX12_record_4 : decode cX12_record 4 = .ok (.iload_n 1, 1) := by decide +kernel
theorem dX12_record_5 : decode cX12_record 5 = .ok (.aload_n 0, 1) := by decide +kernel
theorem dX12_record_6 : decode cX12_record 6 = .ok (.getfield 440, 3) := by decide +kernel
theorem dX12_record_9 : decode cX12_record 9 = .ok (.if_icmp .ge 12, 3) := by decide +kernel
theorem dX12_record_12 : decode cX12_record 12 = .ok (.iload_n 2, 1) := by decide +kernel
theorem dX12_record_13 : decode cX12_record 13 = .ok (.ifCond .lt 8, 3) := by decide +kernel
theorem dX12_record_16 : decode cX12_record 16 = .ok (.iload_n 2, 1) := by decide +kernel
theorem dX12_record_17 : decode cX12_record 17 = .ok (.iconst 2, 1) := by decide +kernel
theorem dX12_record_18 : decode cX12_record 18 = .ok (.if_icmp .le 9, 3) := by decide +kernel
theorem dX12_record_21 : decode cX12_record 21 = .ok (.aload_n 0, 1) := by decide +kernel
theorem dX12_record_22 : decode cX12_record 22 = .ok (.iconst (-1), 1) := by decide +kernel
theorem dX12_record_23 : decode cX12_record 23 = .ok (.invokevirtual 189, 3) := by decide +kernel
theorem dX12_record_26 : decode cX12_record 26 = .ok (.ireturn, 1) := by decide +kernel
theorem dX12_record_27 : decode cX12_record 27 = .ok (.iload_n 2, 1) := by decide +kernel
theorem dX12_record_28 : decode cX12_record 28 = .ok (.ifCond .ne 12, 3) := by decide +kernel
theorem dX12_record_31 : decode cX12_record 31 = .ok (.aload_n 0, 1) := by decide +kernel
theorem dX12_record_32 : decode cX12_record 32 = .ok (.getfield 125, 3) := by decide +kernel
theorem dX12_record_35 : decode cX12_record 35 = .ok (.iload_n 1, 1) := by decide +kernel
theorem dX12_record_36 : decode cX12_record 36 = .ok (.iaload, 1) := by decide +kernel
theorem dX12_record_37 : decode cX12_record 37 = .ok (.goto 23, 3) := by decide +kernel
theorem dX12_record_40 : decode cX12_record 40 = .ok (.iload_n 2, 1) := by decide +kernel
theorem dX12_record_41 : decode cX12_record 41 = .ok (.iconst 1, 1) := by decide +kernel
theorem dX12_record_42 : decode cX12_record 42 = .ok (.if_icmp .ne 12, 3) := by decide +kernel
theorem dX12_record_45 : decode cX12_record 45 = .ok (.aload_n 0, 1) := by decide +kernel
theorem dX12_record_46 : decode cX12_record 46 = .ok (.getfield 128, 3) := by decide +kernel
theorem dX12_record_49 : decode cX12_record 49 = .ok (.iload_n 1, 1) := by decide +kernel
theorem dX12_record_50 : decode cX12_record 50 = .ok (.iaload, 1) := by decide +kernel
theorem dX12_record_51 : decode cX12_record 51 = .ok (.goto 9, 3) := by decide +kernel
theorem dX12_record_54 : decode cX12_record 54 = .ok (.aload_n 0, 1) := by decide +kernel
theorem dX12_record_55 : decode cX12_record 55 = .ok (.getfield 131, 3) := by decide +kernel
theorem dX12_record_58 : decode cX12_record 58 = .ok (.iload_n 1, 1) := by decide +kernel
theorem dX12_record_59 : decode cX12_record 59 = .ok (.iaload, 1) := by decide +kernel
theorem dX12_record_60 : decode cX12_record 60 = .ok (.ireturn, 1) := by decide +kernel
theorem dX12_undo_0 : decode cX12_undo 0 = .ok (.aload_n 0, 1) := by decide +kernel
theorem dX12_undo_1 : decode cX12_undo 1 = .ok (.getfield 440, 3) := by decide +kernel
theorem dX12_undo_4 : decode cX12_undo 4 = .ok (.ifCond .ne 10, 3) := by decide +kernel
theorem dX12_undo_7 : decode cX12_undo 7 = .ok (.aload_n 0, 1) := by decide +kernel
theorem dX12_undo_8 : decode cX12_undo 8 = .ok (.bipush (-2), 2) := by decide +kernel
theorem dX12_undo_10 : decode cX12_undo 10 = .ok (.invokevirtual 189, 3) := by decide +kernel
theorem dX12_undo_13 : decode cX12_undo 13 = .ok (.ireturn, 1) := by decide +kernel
theorem dX12_undo_14 : decode cX12_undo 14 = .ok (.aload_n 0, 1) := by decide +kernel
theorem dX12_undo_15 : decode cX12_undo 15 = .ok (.dup, 1) := by decide +kernel
theorem dX12_undo_16 : decode cX12_undo 16 = .ok (.getfield 440, 3) := by decide +kernel
theorem dX12_undo_19 : decode cX12_undo 19 = .ok (.iconst 1, 1) := by decide +kernel
theorem dX12_undo_20 : decode cX12_undo 20 = .ok (.isub, 1) := by decide +kernel
theorem dX12_undo_21 : decode cX12_undo 21 = .ok (.putfield 440, 3) := by decide +kernel
theorem dX12_undo_24 : decode cX12_undo 24 = .ok (.aload_n 0, 1) := by decide +kernel
theorem dX12_undo_25 : decode cX12_undo 25 = .ok (.invokevirtual 499, 3) := by decide +kernel
theorem dX12_undo_28 : decode cX12_undo 28 = .ok (.aload_n 0, 1) := by decide +kernel
theorem dX12_undo_29 : decode cX12_undo 29 = .ok (.getfield 440, 3) := by decide +kernel
theorem dX12_undo_32 : decode cX12_undo 32 = .ok (.ireturn, 1) := by decide +kernel
theorem dX12_found_0 : decode cX12_found 0 = .ok (.iload_n 1, 1) := by decide +kernel
theorem dX12_found_1 : decode cX12_found 1 = .ok (.ifCond .ge 19, 3) := by decide +kernel
theorem dX12_found_4 : decode cX12_found 4 = .ok (.iload_n 1, 1) := by decide +kernel
theorem dX12_found_5 : decode cX12_found 5 = .ok (.bipush (-4), 2) := by decide +kernel
theorem dX12_found_7 : decode cX12_found 7 = .ok (.if_icmp .lt 13, 3) := by decide +kernel
theorem dX12_found_10 : decode cX12_found 10 = .ok (.aload_n 0, 1) := by decide +kernel
theorem dX12_found_11 : decode cX12_found 11 = .ok (.getfield 13, 3) := by decide +kernel
theorem dX12_found_14 : decode cX12_found 14 = .ok (.iload_n 1, 1) := by decide +kernel
theorem dX12_found_15 : decode cX12_found 15 = .ok (.ineg, 1) := by decide +kernel
theorem dX12_found_16 : decode cX12_found 16 = .ok (.iaload, 1) := by decide +kernel
theorem dX12_found_17 : decode cX12_found 17 = .ok (.goto 8, 3) := by decide +kernel
theorem dX12_found_20 : decode cX12_found 20 = .ok (.aload_n 0, 1) := by decide +kernel
theorem dX12_found_21 : decode cX12_found 21 = .ok (.iconst (-1), 1) := by decide +kernel
theorem dX12_found_22 : decode cX12_found 22 = .ok (.invokevirtual 189, 3) := by decide +kernel
theorem dX12_found_25 : decode cX12_found 25 = .ok (.ireturn, 1) := by decide +kernel
theorem dJ5_init_d00df_0 : decode cJ5_init_d00df 0 = .ok (.aload_n 0, 1) := by decide +kernel
theorem dJ5_init_d00df_1 : decode cJ5_init_d00df 1 = .ok (.invokespecial 3, 3) := by decide +kernel
theorem dJ5_init_d00df_4 : decode cJ5_init_d00df 4 = .ok (.getstatic 18, 3) := by decide +kernel
theorem dJ5_init_d00df_7 : decode cJ5_init_d00df 7 = .ok (.ifCond .eq 18, 3) := by decide +kernel
theorem dJ5_init_d00df_10 : decode cJ5_init_d00df 10 = .ok (.aload_n 0, 1) := by decide +kernel
theorem dJ5_init_d00df_11 : decode cJ5_init_d00df 11 = .ok (.iload_n 1, 1) := by decide +kernel
theorem dJ5_init_d00df_12 : decode cJ5_init_d00df 12 = .ok (.newarray .byte, 2) := by decide +kernel
theorem dJ5_init_d00df_14 : decode cJ5_init_d00df 14 = .ok (.putfield 15, 3) := by decide +kernel
theorem dJ5_init_d00df_17 : decode cJ5_init_d00df 17 = .ok (.aload_n 0, 1) := by decide +kernel
theorem dJ5_init_d00df_18 : decode cJ5_init_d00df 18 = .ok (.iconst 0, 1) := by decide +kernel
theorem dJ5_init_d00df_19 : decode cJ5_init_d00df 19 = .ok (.putfield 22, 3) := by decide +kernel
theorem dJ5_init_d00df_22 : decode cJ5_init_d00df 22 = .ok (.goto 16, 3) := by decide +kernel
theorem dJ5_init_d00df_25 : decode cJ5_init_d00df 25 = .ok (.aload_n 0, 1) := by decide +kernel
theorem dJ5_init_d00df_26 : decode cJ5_init_d00df 26 = .ok (.iload_n 1, 1) := by decide +kernel
theorem dJ5_init_d00df_27 : decode cJ5_init_d00df 27 = .ok (.invokestatic 26, 3) := by decide +kernel
theorem dJ5_init_d00df_30 : decode cJ5_init_d00df 30 = .ok (.putfield 15, 3) := by decide +kernel
theorem dJ5_init_d00df_33 : decode cJ5_init_d00df 33 = .ok (.aload_n 0, 1) := by decide +kernel
theorem dJ5_init_d00df_34 : decode cJ5_init_d00df 34 = .ok (.iconst 1, 1) := by decide +kernel
theorem dJ5_init_d00df_35 : decode cJ5_init_d00df 35 = .ok (.putfield 22, 3) := by decide +kernel
theorem dJ5_init_d00df_38 : decode cJ5_init_d00df 38 = .ok (.return_, 1) := by decide +kernel
theorem dJ5_length_8abf5_0 : decode cJ5_length_8abf5 0 = .ok (.aload_n 0, 1) := by decide +kernel
theorem dJ5_length_8abf5_1 : decode cJ5_length_8abf5 1 = .ok (.getfield 79, 3) := by decide +kernel
theorem dJ5_length_8abf5_4 : decode cJ5_length_8abf5 4 = .ok (.ireturn, 1) := by decide +kernel
theorem dJ5_ensureCapacityInternal_d00df_0 : decode cJ5_ensureCapacityInternal_d00df 0 = .ok (.aload_n 0, 1) := by decide +kernel
theorem dJ5_ensureCapacityInternal_d00df_1 : decode cJ5_ensureCapacityInternal_d00df 1 = .ok (.getfield 15, 3) := by decide +kernel
theorem dJ5_ensureCapacityInternal_d00df_4 : decode cJ5_ensureCapacityInternal_d00df 4 = .ok (.arraylength, 1) := by decide +kernel
theorem dJ5_ensureCapacityInternal_d00df_5 : decode cJ5_ensureCapacityInternal_d00df 5 = .ok (.aload_n 0, 1) := by decide +kernel
theorem dJ5_ensureCapacityInternal_d00df_6 : decode cJ5_ensureCapacityInternal_d00df 6 = .ok (.getfield 22, 3) := by decide +kernel
theorem dJ5_ensureCapacityInternal_d00df_9 : decode cJ5_ensureCapacityInternal_d00df 9 = .ok (.ishr, 1) := by decide +kernel
theorem dJ5_ensureCapacityInternal_d00df_10 : decode cJ5_ensureCapacityInternal_d00df 10 = .ok (.istore_n 2, 1) := by decide +kernel
theorem dJ5_ensureCapacityInternal_d00df_11 : decode cJ5_ensureCapacityInternal_d00df 11 = .ok (.iload_n 1, 1) := by decide +kernel
theorem dJ5_ensureCapacityInternal_d00df_12 : decode cJ5_ensureCapacityInternal_d00df 12 = .ok (.iload_n 2, 1) := by decide +kernel
theorem dJ5_ensureCapacityInternal_d00df_13 : decode cJ5_ensureCapacityInternal_d00df 13 = .ok (.isub, 1) := by decide +kernel
theorem dJ5_ensureCapacityInternal_d00df_14 : decode cJ5_ensureCapacityInternal_d00df 14 = .ok (.ifCond .le 24, 3) := by decide +kernel
theorem dJ5_ensureCapacityInternal_d00df_17 : decode cJ5_ensureCapacityInternal_d00df 17 = .ok (.aload_n 0, 1) := by decide +kernel
theorem dJ5_ensureCapacityInternal_d00df_18 : decode cJ5_ensureCapacityInternal_d00df 18 = .ok (.aload_n 0, 1) := by decide +kernel
theorem dJ5_ensureCapacityInternal_d00df_19 : decode cJ5_ensureCapacityInternal_d00df 19 = .ok (.getfield 15, 3) := by decide +kernel
theorem dJ5_ensureCapacityInternal_d00df_22 : decode cJ5_ensureCapacityInternal_d00df 22 = .ok (.aload_n 0, 1) := by decide +kernel
theorem dJ5_ensureCapacityInternal_d00df_23 : decode cJ5_ensureCapacityInternal_d00df 23 = .ok (.iload_n 1, 1) := by decide +kernel
theorem dJ5_ensureCapacityInternal_d00df_24 : decode cJ5_ensureCapacityInternal_d00df 24 = .ok (.invokevirtual 104, 3) := by decide +kernel
theorem dJ5_ensureCapacityInternal_d00df_27 : decode cJ5_ensureCapacityInternal_d00df 27 = .ok (.aload_n 0, 1) := by decide +kernel
theorem dJ5_ensureCapacityInternal_d00df_28 : decode cJ5_ensureCapacityInternal_d00df 28 = .ok (.getfield 22, 3) := by decide +kernel
theorem dJ5_ensureCapacityInternal_d00df_31 : decode cJ5_ensureCapacityInternal_d00df 31 = .ok (.ishl, 1) := by decide +kernel
theorem dJ5_ensureCapacityInternal_d00df_32 : decode cJ5_ensureCapacityInternal_d00df 32 = .ok (.invokestatic 108, 3) := by decide +kernel
theorem dJ5_ensureCapacityInternal_d00df_35 : decode cJ5_ensureCapacityInternal_d00df 35 = .ok (.putfield 15, 3) := by decide +kernel
theorem dJ5_ensureCapacityInternal_d00df_38 : decode cJ5_ensureCapacityInternal_d00df 38 = .ok (.return_, 1) := by decide +kernel
theorem dJ5_newCapacity_0f7a4_0 : decode cJ5_newCapacity_0f7a4 0 = .ok (.aload_n 0, 1) := by decide +kernel
theorem dJ5_newCapacity_0f7a4_1 : decode cJ5_newCapacity_0f7a4 1 = .ok (.getfield 15, 3) := by decide +kernel
theorem dJ5_newCapacity_0f7a4_4 : decode cJ5_newCapacity_0f7a4 4 = .ok (.arraylength, 1) := by decide +kernel
theorem dJ5_newCapacity_0f7a4_5 : decode cJ5_newCapacity_0f7a4 5 = .ok (.istore_n 2, 1) := by decide +kernel
theorem dJ5_newCapacity_0f7a4_6 : decode cJ5_newCapacity_0f7a4 6 = .ok (.iload_n 1, 1) := by decide +kernel
theorem dJ5_newCapacity_0f7a4_7 : decode cJ5_newCapacity_0f7a4 7 = .ok (.aload_n 0, 1) := by decide +kernel
theorem dJ5_newCapacity_0f7a4_8 : decode cJ5_newCapacity_0f7a4 8 = .ok (.getfield 22, 3) := by decide +kernel
theorem dJ5_newCapacity_0f7a4_11 : decode cJ5_newCapacity_0f7a4 11 = .ok (.ishl, 1) := by decide +kernel
theorem dJ5_newCapacity_0f7a4_12 : decode cJ5_newCapacity_0f7a4 12 = .ok (.istore_n 3, 1) := by decide +kernel
theorem dJ5_newCapacity_0f7a4_13 : decode cJ5_newCapacity_0f7a4 13 = .ok (.iload_n 3, 1) := by decide +kernel
theorem dJ5_newCapacity_0f7a4_14 : decode cJ5_newCapacity_0f7a4 14 = .ok (.iload_n 2, 1) := by decide +kernel
theorem dJ5_newCapacity_0f7a4_15 : decode cJ5_newCapacity_0f7a4 15 = .ok (.isub, 1) := by decide +kernel
theorem dJ5_newCapacity_0f7a4_16 : decode cJ5_newCapacity_0f7a4 16 = .ok (.istore 4, 2) := by decide +kernel
theorem dJ5_newCapacity_0f7a4_18 : decode cJ5_newCapacity_0f7a4 18 = .ok (.iload_n 2, 1) := by decide +kernel
theorem dJ5_newCapacity_0f7a4_19 : decode cJ5_newCapacity_0f7a4 19 = .ok (.iload 4, 2) := by decide +kernel
theorem dJ5_newCapacity_0f7a4_21 : decode cJ5_newCapacity_0f7a4 21 = .ok (.iload_n 2, 1) := by decide +kernel
theorem dJ5_newCapacity_0f7a4_22 : decode cJ5_newCapacity_0f7a4 22 = .ok (.iconst 2, 1) := by decide +kernel
theorem dJ5_newCapacity_0f7a4_23 : decode cJ5_newCapacity_0f7a4 23 = .ok (.aload_n 0, 1) := by decide +kernel
theorem dJ5_newCapacity_0f7a4_24 : decode cJ5_newCapacity_0f7a4 24 = .ok (.getfield 22, 3) := by decide +kernel
theorem dJ5_newCapacity_0f7a4_27 : decode cJ5_newCapacity_0f7a4 27 = .ok (.ishl, 1) := by decide +kernel
theorem dJ5_newCapacity_0f7a4_28 : decode cJ5_newCapacity_0f7a4 28 = .ok (.iadd, 1) := by decide +kernel
theorem dJ5_newCapacity_0f7a4_29 : decode cJ5_newCapacity_0f7a4 29 = .ok (.invokestatic 114, 3) := by decide +kernel
theorem dJ5_newCapacity_0f7a4_32 : decode cJ5_newCapacity_0f7a4 32 = .ok (.istore 5, 2) := by decide +kernel
theorem dJ5_newCapacity_0f7a4_34 : decode cJ5_newCapacity_0f7a4 34 = .ok (.iload 5, 2) := by decide +kernel
theorem dJ5_newCapacity_0f7a4_36 : decode cJ5_newCapacity_0f7a4 36 = .ok (.ldc 39, 2) := by decide +kernel
theorem dJ5_newCapacity_0f7a4_38 : decode cJ5_newCapacity_0f7a4 38 = .ok (.if_icmp .ne 13, 3) := by decide +kernel
theorem dJ5_newCapacity_0f7a4_41 : decode cJ5_newCapacity_0f7a4 41 = .ok (.new 120, 3) := by decide +kernel
theorem dJ5_newCapacity_0f7a4_44 : decode cJ5_newCapacity_0f7a4 44 = .ok (.dup, 1) := by decide +kernel
theorem dJ5_newCapacity_0f7a4_45 : decode cJ5_newCapacity_0f7a4 45 = .ok (.ldc 122, 2) := by decide +kernel
theorem dJ5_newCapacity_0f7a4_47 : decode cJ5_newCapacity_0f7a4 47 = .ok (.invokespecial 124, 3) := by decide +kernel
theorem dJ5_newCapacity_0f7a4_50 : decode cJ5_newCapacity_0f7a4 50 = .ok (.athrow, 1) := by decide +kernel
theorem dJ5_newCapacity_0f7a4_51 : decode cJ5_newCapacity_0f7a4 51 = .ok (.iload 5, 2) := by decide +kernel
theorem dJ5_newCapacity_0f7a4_53 : decode cJ5_newCapacity_0f7a4 53 = .ok (.aload_n 0, 1) := by decide +kernel
theorem dJ5_newCapacity_0f7a4_54 : decode cJ5_newCapacity_0f7a4 54 = .ok (.getfield 22, 3) := by decide +kernel
theorem dJ5_newCapacity_0f7a4_57 : decode cJ5_newCapacity_0f7a4 57 = .ok (.ishr, 1) := by decide +kernel
theorem dJ5_newCapacity_0f7a4_58 : decode cJ5_newCapacity_0f7a4 58 = .ok (.ireturn, 1) := by decide +kernel
theorem dJ5_inflate_da8c8_0 : decode cJ5_inflate_da8c8 0 = .ok (.aload_n 0, 1) := by decide +kernel
theorem dJ5_inflate_da8c8_1 : decode cJ5_inflate_da8c8 1 = .ok (.invokevirtual 83, 3) := by decide +kernel
theorem dJ5_inflate_da8c8_4 : decode cJ5_inflate_da8c8 4 = .ok (.ifCond .ne 4, 3) := by decide +kernel
theorem dJ5_inflate_da8c8_7 : decode cJ5_inflate_da8c8 7 = .ok (.return_, 1) := by decide +kernel
theorem dJ5_inflate_da8c8_8 : decode cJ5_inflate_da8c8 8 = .ok (.aload_n 0, 1) := by decide +kernel
theorem dJ5_inflate_da8c8_9 : decode cJ5_inflate_da8c8 9 = .ok (.getfield 15, 3) := by decide +kernel
theorem dJ5_inflate_da8c8_12 : decode cJ5_inflate_da8c8 12 = .ok (.arraylength, 1) := by decide +kernel
theorem dJ5_inflate_da8c8_13 : decode cJ5_inflate_da8c8 13 = .ok (.invokestatic 26, 3) := by decide +kernel
theorem dJ5_inflate_da8c8_16 : decode cJ5_inflate_da8c8 16 = .ok (.astore_n 1, 1) := by decide +kernel
theorem dJ5_inflate_da8c8_17 : decode cJ5_inflate_da8c8 17 = .ok (.aload_n 0, 1) := by decide +kernel
theorem dJ5_inflate_da8c8_18 : decode cJ5_inflate_da8c8 18 = .ok (.getfield 15, 3) := by decide +kernel
theorem dJ5_inflate_da8c8_21 : decode cJ5_inflate_da8c8 21 = .ok (.iconst 0, 1) := by decide +kernel
theorem dJ5_inflate_da8c8_22 : decode cJ5_inflate_da8c8 22 = .ok (.aload_n 1, 1) := by decide +kernel
theorem dJ5_inflate_da8c8_23 : decode cJ5_inflate_da8c8 23 = .ok (.iconst 0, 1) := by decide +kernel
theorem dJ5_inflate_da8c8_24 : decode cJ5_inflate_da8c8 24 = .ok (.aload_n 0, 1) := by decide +kernel
theorem dJ5_inflate_da8c8_25 : decode cJ5_inflate_da8c8 25 = .ok (.getfield 79, 3) := by decide +kernel
theorem dJ5_inflate_da8c8_28 : decode cJ5_inflate_da8c8 28 = .ok (.invokestatic 125, 3) := by decide +kernel
theorem dJ5_inflate_da8c8_31 : decode cJ5_inflate_da8c8 31 = .ok (.aload_n 0, 1) := by decide +kernel
theorem dJ5_inflate_da8c8_32 : decode cJ5_inflate_da8c8 32 = .ok (.aload_n 1, 1) := by decide +kernel
theorem dJ5_inflate_da8c8_33 : decode cJ5_inflate_da8c8 33 = .ok (.putfield 15, 3) := by decide +kernel
theorem dJ5_inflate_da8c8_36 : decode cJ5_inflate_da8c8 36 = .ok (.aload_n 0, 1) := by decide +kernel
theorem dJ5_inflate_da8c8_37 : decode cJ5_inflate_da8c8 37 = .ok (.iconst 1, 1) := by decide +kernel
theorem dJ5_inflate_da8c8_38 : decode cJ5_inflate_da8c8 38 = .ok (.putfield 22, 3) := by decide +kernel
theorem dJ5_inflate_da8c8_41 : decode cJ5_inflate_da8c8 41 = .ok (.return_, 1) := by decide +kernel
theorem dJ5_append_cf1ce_0 : decode cJ5_append_cf1ce 0 = .ok (.aload_n 1, 1) := by decide +kernel
theorem dJ5_append_cf1ce_1 : decode cJ5_append_cf1ce 1 = .ok (.ifnonnull 8, 3) := by decide +kernel
theorem dJ5_append_cf1ce_4 : decode cJ5_append_cf1ce 4 = .ok (.aload_n 0, 1) := by decide +kernel
theorem dJ5_append_cf1ce_5 : decode cJ5_append_cf1ce 5 = .ok (.invokevirtual 204, 3) := by decide +kernel
theorem dJ5_append_cf1ce_8 : decode cJ5_append_cf1ce 8 = .ok (.areturn, 1) := by decide +kernel
theorem dJ5_append_cf1ce_9 : decode cJ5_append_cf1ce 9 = .ok (.aload_n 1, 1) := by decide +kernel
theorem dJ5_append_cf1ce_10 : decode cJ5_append_cf1ce 10 = .ok (.invokevirtual 32, 3) := by decide +kernel
theorem dJ5_append_cf1ce_13 : decode cJ5_append_cf1ce 13 = .ok (.istore_n 2, 1) := by decide +kernel
theorem dJ5_append_cf1ce_14 : decode cJ5_append_cf1ce 14 = .ok (.aload_n 0, 1) := by decide +kernel
theorem dJ5_append_cf1ce_15 : decode cJ5_append_cf1ce 15 = .ok (.aload_n 0, 1) := by decide +kernel
theorem dJ5_append_cf1ce_16 : decode cJ5_append_cf1ce 16 = .ok (.getfield 79, 3) := by decide +kernel
theorem dJ5_append_cf1ce_19 : decode cJ5_append_cf1ce 19 = .ok (.iload_n 2, 1) := by decide +kernel
theorem dJ5_append_cf1ce_20 : decode cJ5_append_cf1ce 20 = .ok (.iadd, 1) := by decide +kernel
theorem dJ5_append_cf1ce_21 : decode cJ5_append_cf1ce 21 = .ok (.invokevirtual 100, 3) := by decide +kernel
theorem dJ5_append_cf1ce_24 : decode cJ5_append_cf1ce 24 = .ok (.aload_n 0, 1) := by decide +kernel
theorem dJ5_append_cf1ce_25 : decode cJ5_append_cf1ce 25 = .ok (.aload_n 0, 1) := by decide +kernel
theorem dJ5_append_cf1ce_26 : decode cJ5_append_cf1ce 26 = .ok (.getfield 79, 3) := by decide +kernel
theorem dJ5_append_cf1ce_29 : decode cJ5_append_cf1ce 29 = .ok (.aload_n 1, 1) := by decide +kernel
theorem dJ5_append_cf1ce_30 : decode cJ5_append_cf1ce 30 = .ok (.invokevirtual 208, 3) := by decide +kernel
theorem dJ5_append_cf1ce_33 : decode cJ5_append_cf1ce 33 = .ok (.aload_n 0, 1) := by decide +kernel
theorem dJ5_append_cf1ce_34 : decode cJ5_append_cf1ce 34 = .ok (.dup, 1) := by decide +kernel
theorem dJ5_append_cf1ce_35 : decode cJ5_append_cf1ce 35 = .ok (.getfield 79, 3) := by decide +kernel
theorem dJ5_append_cf1ce_38 : decode cJ5_append_cf1ce 38 = .ok (.iload_n 2, 1) := by decide +kernel
theorem dJ5_append_cf1ce_39 : decode cJ5_append_cf1ce 39 = .ok (.iadd, 1) := by decide +kernel
theorem dJ5_append_cf1ce_40 : decode cJ5_append_cf1ce 40 = .ok (.putfield 79, 3) := by decide +kernel
theorem dJ5_append_cf1ce_43 : decode cJ5_append_cf1ce 43 = .ok (.aload_n 0, 1) := by decide +kernel
theorem dJ5_append_cf1ce_44 : decode cJ5_append_cf1ce 44 = .ok (.areturn, 1) := by decide +kernel
theorem dJ5_appendNull_278bc_0 : decode cJ5_appendNull_278bc 0 = .ok (.aload_n 0, 1) := by decide +kernel
theorem dJ5_appendNull_278bc_1 : decode cJ5_appendNull_278bc 1 = .ok (.aload_n 0, 1) := by decide +kernel
theorem dJ5_appendNull_278bc_2 : decode cJ5_appendNull_278bc 2 = .ok (.getfield 79, 3) := by decide +kernel
theorem dJ5_appendNull_278bc_5 : decode cJ5_appendNull_278bc 5 = .ok (.iconst 4, 1) := by decide +kernel
theorem dJ5_appendNull_278bc_6 : decode cJ5_appendNull_278bc 6 = .ok (.iadd, 1) := by decide +kernel
theorem dJ5_appendNull_278bc_7 : decode cJ5_appendNull_278bc 7 = .ok (.invokevirtual 100, 3) := by decide +kernel
theorem dJ5_appendNull_278bc_10 : decode cJ5_appendNull_278bc 10 = .ok (.aload_n 0, 1) := by decide +kernel
theorem dJ5_appendNull_278bc_11 : decode cJ5_appendNull_278bc 11 = .ok (.getfield 79, 3) := by decide +kernel
theorem dJ5_appendNull_278bc_14 : decode cJ5_appendNull_278bc 14 = .ok (.istore_n 1, 1) := by decide +kernel
theorem dJ5_appendNull_278bc_15 : decode cJ5_appendNull_278bc 15 = .ok (.aload_n 0, 1) := by decide +kernel
theorem dJ5_appendNull_278bc_16 : decode cJ5_appendNull_278bc 16 = .ok (.getfield 15, 3) := by decide +kernel
theorem dJ5_appendNull_278bc_19 : decode cJ5_appendNull_278bc 19 = .ok (.astore_n 2, 1) := by decide +kernel
theorem dJ5_appendNull_278bc_20 : decode cJ5_appendNull_278bc 20 = .ok (.aload_n 0, 1) := by decide +kernel
theorem dJ5_appendNull_278bc_21 : decode cJ5_appendNull_278bc 21 = .ok (.invokevirtual 83, 3) := by decide +kernel
theorem dJ5_appendNull_278bc_24 : decode cJ5_appendNull_278bc 24 = .ok (.ifCond .eq 38, 3) := by decide +kernel
theorem dJ5_appendNull_278bc_27 : decode cJ5_appendNull_278bc 27 = .ok (.aload_n 2, 1) := by decide +kernel
theorem dJ5_appendNull_278bc_28 : decode cJ5_appendNull_278bc 28 = .ok (.iload_n 1, 1) := by decide +kernel
theorem dJ5_appendNull_278bc_29 : decode cJ5_appendNull_278bc 29 = .ok (.iinc 1 1, 3) := by decide +kernel
theorem dJ5_appendNull_278bc_32 : decode cJ5_appendNull_278bc 32 = .ok (.bipush 110, 2) := by decide +kernel
theorem dJ5_appendNull_278bc_34 : decode cJ5_appendNull_278bc 34 = .ok (.bastore, 1) := by decide +kernel
theorem dJ5_appendNull_278bc_35 : decode cJ5_appendNull_278bc 35 = .ok (.aload_n 2, 1) := by decide +kernel
theorem dJ5_appendNull_278bc_36 : decode cJ5_appendNull_278bc 36 = .ok (.iload_n 1, 1) := by decide +kernel
theorem dJ5_appendNull_278bc_37 : decode cJ5_appendNull_278bc 37 = .ok (.iinc 1 1, 3) := by decide +kernel
theorem dJ5_appendNull_278bc_40 : decode cJ5_appendNull_278bc 40 = .ok (.bipush 117, 2) := by decide +kernel
theorem dJ5_appendNull_278bc_42 : decode cJ5_appendNull_278bc 42 = .ok (.bastore, 1) := by decide +kernel
theorem dJ5_appendNull_278bc_43 : decode cJ5_appendNull_278bc 43 = .ok (.aload_n 2, 1) := by decide +kernel
theorem dJ5_appendNull_278bc_44 : decode cJ5_appendNull_278bc 44 = .ok (.iload_n 1, 1) := by decide +kernel
theorem dJ5_appendNull_278bc_45 : decode cJ5_appendNull_278bc 45 = .ok (.iinc 1 1, 3) := by decide +kernel
theorem dJ5_appendNull_278bc_48 : decode cJ5_appendNull_278bc 48 = .ok (.bipush 108, 2) := by decide +kernel
theorem dJ5_appendNull_278bc_50 : decode cJ5_appendNull_278bc 50 = .ok (.bastore, 1) := by decide +kernel
theorem dJ5_appendNull_278bc_51 : decode cJ5_appendNull_278bc 51 = .ok (.aload_n 2, 1) := by decide +kernel
theorem dJ5_appendNull_278bc_52 : decode cJ5_appendNull_278bc 52 = .ok (.iload_n 1, 1) := by decide +kernel
theorem dJ5_appendNull_278bc_53 : decode cJ5_appendNull_278bc 53 = .ok (.iinc 1 1, 3) := by decide +kernel
theorem dJ5_appendNull_278bc_56 : decode cJ5_appendNull_278bc 56 = .ok (.bipush 108, 2) := by decide +kernel
theorem dJ5_appendNull_278bc_58 : decode cJ5_appendNull_278bc 58 = .ok (.bastore, 1) := by decide +kernel
theorem dJ5_appendNull_278bc_59 : decode cJ5_appendNull_278bc 59 = .ok (.goto 17, 3) := by decide +kernel
theorem dJ5_appendNull_278bc_62 : decode cJ5_appendNull_278bc 62 = .ok (.aload_n 2, 1) := by decide +kernel
theorem dJ5_appendNull_278bc_63 : decode cJ5_appendNull_278bc 63 = .ok (.iload_n 1, 1) := by decide +kernel
theorem dJ5_appendNull_278bc_64 : decode cJ5_appendNull_278bc 64 = .ok (.bipush 110, 2) := by decide +kernel
theorem dJ5_appendNull_278bc_66 : decode cJ5_appendNull_278bc 66 = .ok (.bipush 117, 2) := by decide +kernel
theorem dJ5_appendNull_278bc_68 : decode cJ5_appendNull_278bc 68 = .ok (.bipush 108, 2) := by decide +kernel
theorem dJ5_appendNull_278bc_70 : decode cJ5_appendNull_278bc 70 = .ok (.bipush 108, 2) := by decide +kernel
theorem dJ5_appendNull_278bc_72 : decode cJ5_appendNull_278bc 72 = .ok (.invokestatic 226, 3) := by decide +kernel
theorem dJ5_appendNull_278bc_75 : decode cJ5_appendNull_278bc 75 = .ok (.istore_n 1, 1) := by decide +kernel
theorem dJ5_appendNull_278bc_76 : decode cJ5_appendNull_278bc 76 = .ok (.aload_n 0, 1) := by decide +kernel
theorem dJ5_appendNull_278bc_77 : decode cJ5_appendNull_278bc 77 = .ok (.iload_n 1, 1) := by decide +kernel
theorem dJ5_appendNull_278bc_78 : decode cJ5_appendNull_278bc 78 = .ok (.putfield 79, 3) := by decide +kernel
theorem dJ5_appendNull_278bc_81 : decode cJ5_appendNull_278bc 81 = .ok (.aload_n 0, 1) := by decide +kernel
theorem dJ5_appendNull_278bc_82 : decode cJ5_appendNull_278bc 82 = .ok (.areturn, 1) := by decide +kernel
theorem dJ5_append_3fe6f_0 : decode cJ5_append_3fe6f 0 = .ok (.aload_n 0, 1) := by decide +kernel
theorem dJ5_append_3fe6f_1 : decode cJ5_append_3fe6f 1 = .ok (.aload_n 0, 1) := by decide +kernel
theorem dJ5_append_3fe6f_2 : decode cJ5_append_3fe6f 2 = .ok (.getfield 79, 3) := by decide +kernel
theorem dJ5_append_3fe6f_5 : decode cJ5_append_3fe6f 5 = .ok (.iconst 1, 1) := by decide +kernel
theorem dJ5_append_3fe6f_6 : decode cJ5_append_3fe6f 6 = .ok (.iadd, 1) := by decide +kernel
theorem dJ5_append_3fe6f_7 : decode cJ5_append_3fe6f 7 = .ok (.invokevirtual 100, 3) := by decide +kernel
theorem dJ5_append_3fe6f_10 : decode cJ5_append_3fe6f 10 = .ok (.aload_n 0, 1) := by decide +kernel
theorem dJ5_append_3fe6f_11 : decode cJ5_append_3fe6f 11 = .ok (.invokevirtual 83, 3) := by decide +kernel
theorem dJ5_append_3fe6f_14 : decode cJ5_append_3fe6f 14 = .ok (.ifCond .eq 31, 3) := by decide +kernel
theorem dJ5_append_3fe6f_17 : decode cJ5_append_3fe6f 17 = .ok (.iload_n 1, 1) := by decide +kernel
theorem dJ5_append_3fe6f_18 : decode cJ5_append_3fe6f 18 = .ok (.invokestatic 191, 3) := by decide +kernel
theorem dJ5_append_3fe6f_21 : decode cJ5_append_3fe6f 21 = .ok (.ifCond .eq 24, 3) := by decide +kernel
theorem dJ5_append_3fe6f_24 : decode cJ5_append_3fe6f 24 = .ok (.aload_n 0, 1) := by decide +kernel
theorem dJ5_append_3fe6f_25 : decode cJ5_append_3fe6f 25 = .ok (.getfield 15, 3) := by decide +kernel
theorem dJ5_append_3fe6f_28 : decode cJ5_append_3fe6f 28 = .ok (.aload_n 0, 1) := by decide +kernel
theorem dJ5_append_3fe6f_29 : decode cJ5_append_3fe6f 29 = .ok (.dup, 1) := by decide +kernel
theorem dJ5_append_3fe6f_30 : decode cJ5_append_3fe6f 30 = .ok (.getfield 79, 3) := by decide +kernel
theorem dJ5_append_3fe6f_33 : decode cJ5_append_3fe6f 33 = .ok (.dup_x1, 1) := by decide +kernel
theorem dJ5_append_3fe6f_34 : decode cJ5_append_3fe6f 34 = .ok (.iconst 1, 1) := by decide +kernel
theorem dJ5_append_3fe6f_35 : decode cJ5_append_3fe6f 35 = .ok (.iadd, 1) := by decide +kernel
theorem dJ5_append_3fe6f_36 : decode cJ5_append_3fe6f 36 = .ok (.putfield 79, 3) := by decide +kernel
theorem dJ5_append_3fe6f_39 : decode cJ5_append_3fe6f 39 = .ok (.iload_n 1, 1) := by decide +kernel
theorem dJ5_append_3fe6f_40 : decode cJ5_append_3fe6f 40 = .ok (.i2b, 1) := by decide +kernel
theorem dJ5_append_3fe6f_41 : decode cJ5_append_3fe6f 41 = .ok (.bastore, 1) := by decide +kernel
theorem dJ5_append_3fe6f_42 : decode cJ5_append_3fe6f 42 = .ok (.goto 33, 3) := by decide +kernel
theorem dJ5_append_3fe6f_45 : decode cJ5_append_3fe6f 45 = .ok (.aload_n 0, 1) := by decide +kernel
theorem dJ5_append_3fe6f_46 : decode cJ5_append_3fe6f 46 = .ok (.invokevirtual 83, 3) := by decide +kernel
theorem dJ5_append_3fe6f_49 : decode cJ5_append_3fe6f 49 = .ok (.ifCond .eq 7, 3) := by decide +kernel
theorem dJ5_append_3fe6f_52 : decode cJ5_append_3fe6f 52 = .ok (.aload_n 0, 1) := by decide +kernel
theorem dJ5_append_3fe6f_53 : decode cJ5_append_3fe6f 53 = .ok (.invokevirtual 195, 3) := by decide +kernel
theorem dJ5_append_3fe6f_56 : decode cJ5_append_3fe6f 56 = .ok (.aload_n 0, 1) := by decide +kernel
theorem dJ5_append_3fe6f_57 : decode cJ5_append_3fe6f 57 = .ok (.getfield 15, 3) := by decide +kernel
theorem dJ5_append_3fe6f_60 : decode cJ5_append_3fe6f 60 = .ok (.aload_n 0, 1) := by decide +kernel
theorem dJ5_append_3fe6f_61 : decode cJ5_append_3fe6f 61 = .ok (.dup, 1) := by decide +kernel
theorem dJ5_append_3fe6f_62 : decode cJ5_append_3fe6f 62 = .ok (.getfield 79, 3) := by decide +kernel
theorem dJ5_append_3fe6f_65 : decode cJ5_append_3fe6f 65 = .ok (.dup_x1, 1) := by decide +kernel
theorem dJ5_append_3fe6f_66 : decode cJ5_append_3fe6f 66 = .ok (.iconst 1, 1) := by decide +kernel
theorem dJ5_append_3fe6f_67 : decode cJ5_append_3fe6f 67 = .ok (.iadd, 1) := by decide +kernel
theorem dJ5_append_3fe6f_68 : decode cJ5_append_3fe6f 68 = .ok (.putfield 79, 3) := by decide +kernel
theorem dJ5_append_3fe6f_71 : decode cJ5_append_3fe6f 71 = .ok (.iload_n 1, 1) := by decide +kernel
theorem dJ5_append_3fe6f_72 : decode cJ5_append_3fe6f 72 = .ok (.invokestatic 197, 3) := by decide +kernel
theorem dJ5_append_3fe6f_75 : decode cJ5_append_3fe6f 75 = .ok (.aload_n 0, 1) := by decide +kernel
theorem dJ5_append_3fe6f_76 : decode cJ5_append_3fe6f 76 = .ok (.areturn, 1) := by decide +kernel
theorem dJ5_getValue_6d5f1_0 : decode cJ5_getValue_6d5f1 0 = .ok (.aload_n 0, 1) := by decide +kernel
theorem dJ5_getValue_6d5f1_1 : decode cJ5_getValue_6d5f1 1 = .ok (.getfield 15, 3) := by decide +kernel
theorem dJ5_getValue_6d5f1_4 : decode cJ5_getValue_6d5f1 4 = .ok (.areturn, 1) := by decide +kernel
theorem dJ5_isLatin1_aae02_0 : decode cJ5_isLatin1_aae02 0 = .ok (.getstatic 18, 3) := by decide +kernel
theorem dJ5_isLatin1_aae02_3 : decode cJ5_isLatin1_aae02 3 = .ok (.ifCond .eq 14, 3) := by decide +kernel
theorem dJ5_isLatin1_aae02_6 : decode cJ5_isLatin1_aae02 6 = .ok (.aload_n 0, 1) := by decide +kernel
theorem dJ5_isLatin1_aae02_7 : decode cJ5_isLatin1_aae02 7 = .ok (.getfield 22, 3) := by decide +kernel
theorem dJ5_isLatin1_aae02_10 : decode cJ5_isLatin1_aae02 10 = .ok (.ifCond .ne 7, 3) := by decide +kernel
theorem dJ5_isLatin1_aae02_13 : decode cJ5_isLatin1_aae02 13 = .ok (.iconst 1, 1) := by decide +kernel
theorem dJ5_isLatin1_aae02_14 : decode cJ5_isLatin1_aae02 14 = .ok (.goto 4, 3) := by decide +kernel
theorem dJ5_isLatin1_aae02_17 : decode cJ5_isLatin1_aae02 17 = .ok (.iconst 0, 1) := by decide +kernel
theorem dJ5_isLatin1_aae02_18 : decode cJ5_isLatin1_aae02 18 = .ok (.ireturn, 1) := by decide +kernel
theorem dJ5_inflateIfNeededFor_a7421_0 : decode cJ5_inflateIfNeededFor_a7421 0 = .ok (.getstatic 18, 3) := by decide +kernel
theorem dJ5_inflateIfNeededFor_a7421_3 : decode cJ5_inflateIfNeededFor_a7421 3 = .ok (.ifCond .eq 18, 3) := by decide +kernel
theorem dJ5_inflateIfNeededFor_a7421_6 : decode cJ5_inflateIfNeededFor_a7421 6 = .ok (.aload_n 0, 1) := by decide +kernel
theorem dJ5_inflateIfNeededFor_a7421_7 : decode cJ5_inflateIfNeededFor_a7421 7 = .ok (.getfield 22, 3) := by decide +kernel
theorem dJ5_inflateIfNeededFor_a7421_10 : decode cJ5_inflateIfNeededFor_a7421 10 = .ok (.aload_n 1, 1) := by decide +kernel
theorem dJ5_inflateIfNeededFor_a7421_11 : decode cJ5_inflateIfNeededFor_a7421 11 = .ok (.invokevirtual 40, 3) := by decide +kernel
theorem dJ5_inflateIfNeededFor_a7421_14 : decode cJ5_inflateIfNeededFor_a7421 14 = .ok (.if_icmp .eq 7, 3) := by decide +kernel
theorem dJ5_inflateIfNeededFor_a7421_17 : decode cJ5_inflateIfNeededFor_a7421 17 = .ok (.aload_n 0, 1) := by decide +kernel
theorem dJ5_inflateIfNeededFor_a7421_18 : decode cJ5_inflateIfNeededFor_a7421 18 = .ok (.invokevirtual 195, 3) := by decide +kernel
theorem dJ5_inflateIfNeededFor_a7421_21 : decode cJ5_inflateIfNeededFor_a7421 21 = .ok (.return_, 1) := by decide +kernel
theorem dJ5_putStringAt_47b60_0 : decode cJ5_putStringAt_47b60 0 = .ok (.aload_n 0, 1) := by decide +kernel
theorem dJ5_putStringAt_47b60_1 : decode cJ5_putStringAt_47b60 1 = .ok (.aload_n 2, 1) := by decide +kernel
theorem dJ5_putStringAt_47b60_2 : decode cJ5_putStringAt_47b60 2 = .ok (.invokevirtual 397, 3) := by decide +kernel
theorem dJ5_putStringAt_47b60_5 : decode cJ5_putStringAt_47b60 5 = .ok (.aload_n 2, 1) := by decide +kernel
theorem dJ5_putStringAt_47b60_6 : decode cJ5_putStringAt_47b60 6 = .ok (.aload_n 0, 1) := by decide +kernel
theorem dJ5_putStringAt_47b60_7 : decode cJ5_putStringAt_47b60 7 = .ok (.getfield 15, 3) := by decide +kernel
theorem dJ5_putStringAt_47b60_10 : decode cJ5_putStringAt_47b60 10 = .ok (.iload_n 1, 1) := by decide +kernel
theorem dJ5_putStringAt_47b60_11 : decode cJ5_putStringAt_47b60 11 = .ok (.aload_n 0, 1) := by decide +kernel
theorem dJ5_putStringAt_47b60_12 : decode cJ5_putStringAt_47b60 12 = .ok (.getfield 22, 3) := by decide +kernel
theorem dJ5_putStringAt_47b60_15 : decode cJ5_putStringAt_47b60 15 = .ok (.invokevirtual 399, 3) := by decide +kernel
theorem dJ5_putStringAt_47b60_18 : decode cJ5_putStringAt_47b60 18 = .ok (.return_, 1) := by decide +kernel
theorem dJ0_init_81219_0 : decode cJ0_init_81219 0 = .ok (.aload_n 0, 1) := by decide +kernel
theorem dJ0_init_81219_1 : decode cJ0_init_81219 1 = .ok (.aload_n 1, 1) := by decide +kernel
theorem dJ0_init_81219_2 : decode cJ0_init_81219 2 = .ok (.aconst_null, 1) := by decide +kernel
theorem dJ0_init_81219_3 : decode cJ0_init_81219 3 = .ok (.invokespecial 489, 3) := by decide +kernel
theorem dJ0_init_81219_6 : decode cJ0_init_81219 6 = .ok (.return_, 1) := by decide +kernel
theorem dJ0_length_8abf5_0 : decode cJ0_length_8abf5 0 = .ok (.aload_n 0, 1) := by decide +kernel
theorem dJ0_length_8abf5_1 : decode cJ0_length_8abf5 1 = .ok (.getfield 9, 3) := by decide +kernel
theorem dJ0_length_8abf5_4 : decode cJ0_length_8abf5 4 = .ok (.arraylength, 1) := by decide +kernel
theorem dJ0_length_8abf5_5 : decode cJ0_length_8abf5 5 = .ok (.aload_n 0, 1) := by decide +kernel
theorem dJ0_length_8abf5_6 : decode cJ0_length_8abf5 6 = .ok (.invokevirtual 335, 3) := by decide +kernel
theorem dJ0_length_8abf5_9 : decode cJ0_length_8abf5 9 = .ok (.ishr, 1) := by decide +kernel
theorem dJ0_length_8abf5_10 : decode cJ0_length_8abf5 10 = .ok (.ireturn, 1) := by decide +kernel
theorem dJ0_charAt_5068e_0 : decode cJ0_charAt_5068e 0 = .ok (.aload_n 0, 1) := by decide +kernel
theorem dJ0_charAt_5068e_1 : decode cJ0_charAt_5068e 1 = .ok (.invokevirtual 492, 3) := by decide +kernel
theorem dJ0_charAt_5068e_4 : decode cJ0_charAt_5068e 4 = .ok (.ifCond .eq 12, 3) := by decide +kernel
theorem dJ0_charAt_5068e_7 : decode cJ0_charAt_5068e 7 = .ok (.aload_n 0, 1) := by decide +kernel
theorem dJ0_charAt_5068e_8 : decode cJ0_charAt_5068e 8 = .ok (.getfield 9, 3) := by decide +kernel
theorem dJ0_charAt_5068e_11 : decode cJ0_charAt_5068e 11 = .ok (.iload_n 1, 1) := by decide +kernel
theorem dJ0_charAt_5068e_12 : decode cJ0_charAt_5068e 12 = .ok (.invokestatic 495, 3) := by decide +kernel
theorem dJ0_charAt_5068e_15 : decode cJ0_charAt_5068e 15 = .ok (.ireturn, 1) := by decide +kernel
theorem dJ0_charAt_5068e_16 : decode cJ0_charAt_5068e 16 = .ok (.aload_n 0, 1) := by decide +kernel
theorem dJ0_charAt_5068e_17 : decode cJ0_charAt_5068e 17 = .ok (.getfield 9, 3) := by decide +kernel
theorem dJ0_charAt_5068e_20 : decode cJ0_charAt_5068e 20 = .ok (.iload_n 1, 1) := by decide +kernel
theorem dJ0_charAt_5068e_21 : decode cJ0_charAt_5068e 21 = .ok (.invokestatic 498, 3) := by decide +kernel
theorem dJ0_charAt_5068e_24 : decode cJ0_charAt_5068e 24 = .ok (.ireturn, 1) := by decide +kernel
theorem dJ0_equals_9ea2d_0 : decode cJ0_equals_9ea2d 0 = .ok (.aload_n 0, 1) := by decide +kernel
theorem dJ0_equals_9ea2d_1 : decode cJ0_equals_9ea2d 1 = .ok (.aload_n 1, 1) := by decide +kernel
theorem dJ0_equals_9ea2d_2 : decode cJ0_equals_9ea2d 2 = .ok (.if_acmp .ne 5, 3) := by decide +kernel
theorem dJ0_equals_9ea2d_5 : decode cJ0_equals_9ea2d 5 = .ok (.iconst 1, 1) := by decide +kernel
theorem dJ0_equals_9ea2d_6 : decode cJ0_equals_9ea2d 6 = .ok (.ireturn, 1) := by decide +kernel
theorem dJ0_equals_9ea2d_7 : decode cJ0_equals_9ea2d 7 = .ok (.aload_n 1, 1) := by decide +kernel
theorem dJ0_equals_9ea2d_8 : decode cJ0_equals_9ea2d 8 = .ok (.instanceof 10, 3) := by decide +kernel
theorem dJ0_equals_9ea2d_11 : decode cJ0_equals_9ea2d 11 = .ok (.ifCond .eq 43, 3) := by decide +kernel
theorem dJ0_equals_9ea2d_14 : decode cJ0_equals_9ea2d 14 = .ok (.aload_n 1, 1) := by decide +kernel
theorem dJ0_equals_9ea2d_15 : decode cJ0_equals_9ea2d 15 = .ok (.checkcast 10, 3) := by decide +kernel
theorem dJ0_equals_9ea2d_18 : decode cJ0_equals_9ea2d 18 = .ok (.astore_n 2, 1) := by decide +kernel
theorem dJ0_equals_9ea2d_19 : decode cJ0_equals_9ea2d 19 = .ok (.getstatic 38, 3) := by decide +kernel
theorem dJ0_equals_9ea2d_22 : decode cJ0_equals_9ea2d 22 = .ok (.ifCond .eq 14, 3) := by decide +kernel
theorem dJ0_equals_9ea2d_25 : decode cJ0_equals_9ea2d 25 = .ok (.aload_n 0, 1) := by decide +kernel
theorem dJ0_equals_9ea2d_26 : decode cJ0_equals_9ea2d 26 = .ok (.getfield 15, 3) := by decide +kernel
theorem dJ0_equals_9ea2d_29 : decode cJ0_equals_9ea2d 29 = .ok (.aload_n 2, 1) := by decide +kernel
theorem dJ0_equals_9ea2d_30 : decode cJ0_equals_9ea2d 30 = .ok (.getfield 15, 3) := by decide +kernel
theorem dJ0_equals_9ea2d_33 : decode cJ0_equals_9ea2d 33 = .ok (.if_icmp .ne 21, 3) := by decide +kernel
theorem dJ0_equals_9ea2d_36 : decode cJ0_equals_9ea2d 36 = .ok (.aload_n 0, 1) := by decide +kernel
theorem dJ0_equals_9ea2d_37 : decode cJ0_equals_9ea2d 37 = .ok (.getfield 9, 3) := by decide +kernel
theorem dJ0_equals_9ea2d_40 : decode cJ0_equals_9ea2d 40 = .ok (.aload_n 2, 1) := by decide +kernel
theorem dJ0_equals_9ea2d_41 : decode cJ0_equals_9ea2d 41 = .ok (.getfield 9, 3) := by decide +kernel
theorem dJ0_equals_9ea2d_44 : decode cJ0_equals_9ea2d 44 = .ok (.invokestatic 541, 3) := by decide +kernel
theorem dJ0_equals_9ea2d_47 : decode cJ0_equals_9ea2d 47 = .ok (.ifCond .eq 7, 3) := by decide +kernel
theorem dJ0_equals_9ea2d_50 : decode cJ0_equals_9ea2d 50 = .ok (.iconst 1, 1) := by decide +kernel
theorem dJ0_equals_9ea2d_51 : decode cJ0_equals_9ea2d 51 = .ok (.goto 4, 3) := by decide +kernel
theorem dJ0_equals_9ea2d_54 : decode cJ0_equals_9ea2d 54 = .ok (.iconst 0, 1) := by decide +kernel
theorem dJ0_equals_9ea2d_55 : decode cJ0_equals_9ea2d 55 = .ok (.ireturn, 1) := by decide +kernel
theorem dJ0_indexOf_2f485_0 : decode cJ0_indexOf_2f485 0 = .ok (.aload_n 0, 1) := by decide +kernel
theorem dJ0_indexOf_2f485_1 : decode cJ0_indexOf_2f485 1 = .ok (.invokevirtual 335, 3) := by decide +kernel
theorem dJ0_indexOf_2f485_4 : decode cJ0_indexOf_2f485 4 = .ok (.istore_n 2, 1) := by decide +kernel
theorem dJ0_indexOf_2f485_5 : decode cJ0_indexOf_2f485 5 = .ok (.iload_n 2, 1) := by decide +kernel
theorem dJ0_indexOf_2f485_6 : decode cJ0_indexOf_2f485 6 = .ok (.aload_n 1, 1) := by decide +kernel
theorem dJ0_indexOf_2f485_7 : decode cJ0_indexOf_2f485 7 = .ok (.invokevirtual 335, 3) := by decide +kernel
theorem dJ0_indexOf_2f485_10 : decode cJ0_indexOf_2f485 10 = .ok (.if_icmp .ne 36, 3) := by decide +kernel
theorem dJ0_indexOf_2f485_13 : decode cJ0_indexOf_2f485 13 = .ok (.aload_n 0, 1) := by decide +kernel
theorem dJ0_indexOf_2f485_14 : decode cJ0_indexOf_2f485 14 = .ok (.invokevirtual 492, 3) := by decide +kernel
theorem dJ0_indexOf_2f485_17 : decode cJ0_indexOf_2f485 17 = .ok (.ifCond .eq 17, 3) := by decide +kernel
theorem dJ0_indexOf_2f485_20 : decode cJ0_indexOf_2f485 20 = .ok (.aload_n 0, 1) := by decide +kernel
theorem dJ0_indexOf_2f485_21 : decode cJ0_indexOf_2f485 21 = .ok (.getfield 9, 3) := by decide +kernel
theorem dJ0_indexOf_2f485_24 : decode cJ0_indexOf_2f485 24 = .ok (.aload_n 1, 1) := by decide +kernel
theorem dJ0_indexOf_2f485_25 : decode cJ0_indexOf_2f485 25 = .ok (.getfield 9, 3) := by decide +kernel
theorem dJ0_indexOf_2f485_28 : decode cJ0_indexOf_2f485 28 = .ok (.invokestatic 647, 3) := by decide +kernel
theorem dJ0_indexOf_2f485_31 : decode cJ0_indexOf_2f485 31 = .ok (.goto 14, 3) := by decide +kernel
theorem dJ0_indexOf_2f485_34 : decode cJ0_indexOf_2f485 34 = .ok (.aload_n 0, 1) := by decide +kernel
theorem dJ0_indexOf_2f485_35 : decode cJ0_indexOf_2f485 35 = .ok (.getfield 9, 3) := by decide +kernel
theorem dJ0_indexOf_2f485_38 : decode cJ0_indexOf_2f485 38 = .ok (.aload_n 1, 1) := by decide +kernel
theorem dJ0_indexOf_2f485_39 : decode cJ0_indexOf_2f485 39 = .ok (.getfield 9, 3) := by decide +kernel
theorem dJ0_indexOf_2f485_42 : decode cJ0_indexOf_2f485 42 = .ok (.invokestatic 649, 3) := by decide +kernel
theorem dJ0_indexOf_2f485_45 : decode cJ0_indexOf_2f485 45 = .ok (.ireturn, 1) := by decide +kernel
theorem dJ0_indexOf_2f485_46 : decode cJ0_indexOf_2f485 46 = .ok (.iload_n 2, 1) := by decide +kernel
theorem dJ0_indexOf_2f485_47 : decode cJ0_indexOf_2f485 47 = .ok (.ifCond .ne 5, 3) := by decide +kernel
theorem dJ0_indexOf_2f485_50 : decode cJ0_indexOf_2f485 50 = .ok (.iconst (-1), 1) := by decide +kernel
theorem dJ0_indexOf_2f485_51 : decode cJ0_indexOf_2f485 51 = .ok (.ireturn, 1) := by decide +kernel
theorem dJ0_indexOf_2f485_52 : decode cJ0_indexOf_2f485 52 = .ok (.aload_n 0, 1) := by decide +kernel
theorem dJ0_indexOf_2f485_53 : decode cJ0_indexOf_2f485 53 = .ok (.getfield 9, 3) := by decide +kernel
theorem dJ0_indexOf_2f485_56 : decode cJ0_indexOf_2f485 56 = .ok (.aload_n 1, 1) := by decide +kernel
theorem dJ0_indexOf_2f485_57 : decode cJ0_indexOf_2f485 57 = .ok (.getfield 9, 3) := by decide +kernel
theorem dJ0_indexOf_2f485_60 : decode cJ0_indexOf_2f485 60 = .ok (.invokestatic 650, 3) := by decide +kernel
theorem dJ0_indexOf_2f485_63 : decode cJ0_indexOf_2f485 63 = .ok (.ireturn, 1) := by decide +kernel
theorem dJ0_getBytes_840e7_0 : decode cJ0_getBytes_840e7 0 = .ok (.aload_n 0, 1) := by decide +kernel
theorem dJ0_getBytes_840e7_1 : decode cJ0_getBytes_840e7 1 = .ok (.invokevirtual 335, 3) := by decide +kernel
theorem dJ0_getBytes_840e7_4 : decode cJ0_getBytes_840e7 4 = .ok (.iload_n 3, 1) := by decide +kernel
theorem dJ0_getBytes_840e7_5 : decode cJ0_getBytes_840e7 5 = .ok (.if_icmp .ne 23, 3) := by decide +kernel
theorem dJ0_getBytes_840e7_8 : decode cJ0_getBytes_840e7 8 = .ok (.aload_n 0, 1) := by decide +kernel
theorem dJ0_getBytes_840e7_9 : decode cJ0_getBytes_840e7 9 = .ok (.getfield 9, 3) := by decide +kernel
theorem dJ0_getBytes_840e7_12 : decode cJ0_getBytes_840e7 12 = .ok (.iconst 0, 1) := by decide +kernel
theorem dJ0_getBytes_840e7_13 : decode cJ0_getBytes_840e7 13 = .ok (.aload_n 1, 1) := by decide +kernel
theorem dJ0_getBytes_840e7_14 : decode cJ0_getBytes_840e7 14 = .ok (.iload_n 2, 1) := by decide +kernel
theorem dJ0_getBytes_840e7_15 : decode cJ0_getBytes_840e7 15 = .ok (.iload_n 3, 1) := by decide +kernel
theorem dJ0_getBytes_840e7_16 : decode cJ0_getBytes_840e7 16 = .ok (.ishl, 1) := by decide +kernel
theorem dJ0_getBytes_840e7_17 : decode cJ0_getBytes_840e7 17 = .ok (.aload_n 0, 1) := by decide +kernel
theorem dJ0_getBytes_840e7_18 : decode cJ0_getBytes_840e7 18 = .ok (.getfield 9, 3) := by decide +kernel
theorem dJ0_getBytes_840e7_21 : decode cJ0_getBytes_840e7 21 = .ok (.arraylength, 1) := by decide +kernel
theorem dJ0_getBytes_840e7_22 : decode cJ0_getBytes_840e7 22 = .ok (.invokestatic 212, 3) := by decide +kernel
theorem dJ0_getBytes_840e7_25 : decode cJ0_getBytes_840e7 25 = .ok (.goto 18, 3) := by decide +kernel
theorem dJ0_getBytes_840e7_28 : decode cJ0_getBytes_840e7 28 = .ok (.aload_n 0, 1) := by decide +kernel
theorem dJ0_getBytes_840e7_29 : decode cJ0_getBytes_840e7 29 = .ok (.getfield 9, 3) := by decide +kernel
theorem dJ0_getBytes_840e7_32 : decode cJ0_getBytes_840e7 32 = .ok (.iconst 0, 1) := by decide +kernel
theorem dJ0_getBytes_840e7_33 : decode cJ0_getBytes_840e7 33 = .ok (.aload_n 1, 1) := by decide +kernel
theorem dJ0_getBytes_840e7_34 : decode cJ0_getBytes_840e7 34 = .ok (.iload_n 2, 1) := by decide +kernel
theorem dJ0_getBytes_840e7_35 : decode cJ0_getBytes_840e7 35 = .ok (.aload_n 0, 1) := by decide +kernel
theorem dJ0_getBytes_840e7_36 : decode cJ0_getBytes_840e7 36 = .ok (.getfield 9, 3) := by decide +kernel
theorem dJ0_getBytes_840e7_39 : decode cJ0_getBytes_840e7 39 = .ok (.arraylength, 1) := by decide +kernel
theorem dJ0_getBytes_840e7_40 : decode cJ0_getBytes_840e7 40 = .ok (.invokestatic 106, 3) := by decide +kernel
theorem dJ0_getBytes_840e7_43 : decode cJ0_getBytes_840e7 43 = .ok (.return_, 1) := by decide +kernel
theorem dJ0_init_db425_0 : decode cJ0_init_db425 0 = .ok (.aload_n 0, 1) := by decide +kernel
theorem dJ0_init_db425_1 : decode cJ0_init_db425 1 = .ok (.invokespecial 1, 3) := by decide +kernel
theorem dJ0_init_db425_4 : decode cJ0_init_db425 4 = .ok (.aload_n 1, 1) := by decide +kernel
theorem dJ0_init_db425_5 : decode cJ0_init_db425 5 = .ok (.invokevirtual 552, 3) := by decide +kernel
theorem dJ0_init_db425_8 : decode cJ0_init_db425 8 = .ok (.astore_n 3, 1) := by decide +kernel
theorem dJ0_init_db425_9 : decode cJ0_init_db425 9 = .ok (.aload_n 1, 1) := by decide +kernel
theorem dJ0_init_db425_10 : decode cJ0_init_db425 10 = .ok (.invokevirtual 549, 3) := by decide +kernel
theorem dJ0_init_db425_13 : decode cJ0_init_db425 13 = .ok (.istore 4, 2) := by decide +kernel
theorem dJ0_init_db425_15 : decode cJ0_init_db425 15 = .ok (.aload_n 1, 1) := by decide +kernel
theorem dJ0_init_db425_16 : decode cJ0_init_db425 16 = .ok (.invokevirtual 1047, 3) := by decide +kernel
theorem dJ0_init_db425_19 : decode cJ0_init_db425 19 = .ok (.ifCond .eq 22, 3) := by decide +kernel
theorem dJ0_init_db425_22 : decode cJ0_init_db425 22 = .ok (.aload_n 0, 1) := by decide +kernel
theorem dJ0_init_db425_23 : decode cJ0_init_db425 23 = .ok (.iconst 0, 1) := by decide +kernel
theorem dJ0_init_db425_24 : decode cJ0_init_db425 24 = .ok (.putfield 15, 3) := by decide +kernel
theorem dJ0_init_db425_27 : decode cJ0_init_db425 27 = .ok (.aload_n 0, 1) := by decide +kernel
theorem dJ0_init_db425_28 : decode cJ0_init_db425 28 = .ok (.aload_n 3, 1) := by decide +kernel
theorem dJ0_init_db425_29 : decode cJ0_init_db425 29 = .ok (.iconst 0, 1) := by decide +kernel
theorem dJ0_init_db425_30 : decode cJ0_init_db425 30 = .ok (.iload 4, 2) := by decide +kernel
theorem dJ0_init_db425_32 : decode cJ0_init_db425 32 = .ok (.invokestatic 54, 3) := by decide +kernel
theorem dJ0_init_db425_35 : decode cJ0_init_db425 35 = .ok (.putfield 9, 3) := by decide +kernel
theorem dJ0_init_db425_38 : decode cJ0_init_db425 38 = .ok (.goto 59, 3) := by decide +kernel
theorem dJ0_init_db425_41 : decode cJ0_init_db425 41 = .ok (.getstatic 38, 3) := by decide +kernel
theorem dJ0_init_db425_44 : decode cJ0_init_db425 44 = .ok (.ifCond .eq 35, 3) := by decide +kernel
theorem dJ0_init_db425_47 : decode cJ0_init_db425 47 = .ok (.aload_n 1, 1) := by decide +kernel
theorem dJ0_init_db425_48 : decode cJ0_init_db425 48 = .ok (.getfield 1048, 3) := by decide +kernel
theorem dJ0_init_db425_51 : decode cJ0_init_db425 51 = .ok (.ifCond .eq 28, 3) := by decide +kernel
theorem dJ0_init_db425_54 : decode cJ0_init_db425 54 = .ok (.aload_n 0, 1) := by decide +kernel
theorem dJ0_init_db425_55 : decode cJ0_init_db425 55 = .ok (.aload_n 3, 1) := by decide +kernel
theorem dJ0_init_db425_56 : decode cJ0_init_db425 56 = .ok (.iconst 0, 1) := by decide +kernel
theorem dJ0_init_db425_57 : decode cJ0_init_db425 57 = .ok (.iload 4, 2) := by decide +kernel
theorem dJ0_init_db425_59 : decode cJ0_init_db425 59 = .ok (.invokestatic 1051, 3) := by decide +kernel
theorem dJ0_init_db425_62 : decode cJ0_init_db425 62 = .ok (.putfield 9, 3) := by decide +kernel
theorem dJ0_init_db425_65 : decode cJ0_init_db425 65 = .ok (.aload_n 0, 1) := by decide +kernel
theorem dJ0_init_db425_66 : decode cJ0_init_db425 66 = .ok (.aload_n 0, 1) := by decide +kernel
theorem dJ0_init_db425_67 : decode cJ0_init_db425 67 = .ok (.getfield 9, 3) := by decide +kernel
theorem dJ0_init_db425_70 : decode cJ0_init_db425 70 = .ok (.iload 4, 2) := by decide +kernel
theorem dJ0_init_db425_72 : decode cJ0_init_db425 72 = .ok (.invokestatic 47, 3) := by decide +kernel
theorem dJ0_init_db425_75 : decode cJ0_init_db425 75 = .ok (.putfield 15, 3) := by decide +kernel
theorem dJ0_init_db425_78 : decode cJ0_init_db425 78 = .ok (.return_, 1) := by decide +kernel
theorem dJ0_init_db425_79 : decode cJ0_init_db425 79 = .ok (.aload_n 0, 1) := by decide +kernel
theorem dJ0_init_db425_80 : decode cJ0_init_db425 80 = .ok (.iconst 1, 1) := by decide +kernel
theorem dJ0_init_db425_81 : decode cJ0_init_db425 81 = .ok (.putfield 15, 3) := by decide +kernel
theorem dJ0_init_db425_84 : decode cJ0_init_db425 84 = .ok (.aload_n 0, 1) := by decide +kernel
theorem dJ0_init_db425_85 : decode cJ0_init_db425 85 = .ok (.aload_n 3, 1) := by decide +kernel
theorem dJ0_init_db425_86 : decode cJ0_init_db425 86 = .ok (.iconst 0, 1) := by decide +kernel
theorem dJ0_init_db425_87 : decode cJ0_init_db425 87 = .ok (.iload 4, 2) := by decide +kernel
theorem dJ0_init_db425_89 : decode cJ0_init_db425 89 = .ok (.iconst 1, 1) := by decide +kernel
theorem dJ0_init_db425_90 : decode cJ0_init_db425 90 = .ok (.ishl, 1) := by decide +kernel
theorem dJ0_init_db425_91 : decode cJ0_init_db425 91 = .ok (.invokestatic 54, 3) := by decide +kernel
theorem dJ0_init_db425_94 : decode cJ0_init_db425 94 = .ok (.putfield 9, 3) := by decide +kernel
theorem dJ0_init_db425_97 : decode cJ0_init_db425 97 = .ok (.return_, 1) := by decide +kernel
theorem dJ0_coder_7d493_0 : decode cJ0_coder_7d493 0 = .ok (.getstatic 38, 3) := by decide +kernel
theorem dJ0_coder_7d493_3 : decode cJ0_coder_7d493 3 = .ok (.ifCond .eq 10, 3) := by decide +kernel
theorem dJ0_coder_7d493_6 : decode cJ0_coder_7d493 6 = .ok (.aload_n 0, 1) := by decide +kernel
theorem dJ0_coder_7d493_7 : decode cJ0_coder_7d493 7 = .ok (.getfield 15, 3) := by decide +kernel
theorem dJ0_coder_7d493_10 : decode cJ0_coder_7d493 10 = .ok (.goto 4, 3) := by decide +kernel
theorem dJ0_coder_7d493_13 : decode cJ0_coder_7d493 13 = .ok (.iconst 1, 1) := by decide +kernel
theorem dJ0_coder_7d493_14 : decode cJ0_coder_7d493 14 = .ok (.ireturn, 1) := by decide +kernel
theorem dJ0_isLatin1_aae02_0 : decode cJ0_isLatin1_aae02 0 = .ok (.getstatic 38, 3) := by decide +kernel
theorem dJ0_isLatin1_aae02_3 : decode cJ0_isLatin1_aae02 3 = .ok (.ifCond .eq 14, 3) := by decide +kernel
theorem dJ0_isLatin1_aae02_6 : decode cJ0_isLatin1_aae02 6 = .ok (.aload_n 0, 1) := by decide +kernel
theorem dJ0_isLatin1_aae02_7 : decode cJ0_isLatin1_aae02 7 = .ok (.getfield 15, 3) := by decide +kernel
theorem dJ0_isLatin1_aae02_10 : decode cJ0_isLatin1_aae02 10 = .ok (.ifCond .ne 7, 3) := by decide +kernel
theorem dJ0_isLatin1_aae02_13 : decode cJ0_isLatin1_aae02 13 = .ok (.iconst 1, 1) := by decide +kernel
theorem dJ0_isLatin1_aae02_14 : decode cJ0_isLatin1_aae02 14 = .ok (.goto 4, 3) := by decide +kernel
theorem dJ0_isLatin1_aae02_17 : decode cJ0_isLatin1_aae02 17 = .ok (.iconst 0, 1) := by decide +kernel
theorem dJ0_isLatin1_aae02_18 : decode cJ0_isLatin1_aae02 18 = .ok (.ireturn, 1) := by decide +kernel
theorem dJ0_checkIndex_df160_0 : decode cJ0_checkIndex_df160 0 = .ok (.iload_n 0, 1) := by decide +kernel
theorem dJ0_checkIndex_df160_1 : decode cJ0_checkIndex_df160 1 = .ok (.iload_n 1, 1) := by decide +kernel
theorem dJ0_checkIndex_df160_2 : decode cJ0_checkIndex_df160 2 = .ok (.getstatic 1053, 3) := by decide +kernel
theorem dJ0_checkIndex_df160_5 : decode cJ0_checkIndex_df160 5 = .ok (.invokestatic 1059, 3) := by decide +kernel
theorem dJ0_checkIndex_df160_8 : decode cJ0_checkIndex_df160 8 = .ok (.pop, 1) := by decide +kernel
theorem dJ0_checkIndex_df160_9 : decode cJ0_checkIndex_df160 9 = .ok (.return_, 1) := by decide +kernel
theorem dJ0_checkBoundsOffCount_cabcc_0 : decode cJ0_checkBoundsOffCount_cabcc 0 = .ok (.iload_n 0, 1) := by decide +kernel
theorem dJ0_checkBoundsOffCount_cabcc_1 : decode cJ0_checkBoundsOffCount_cabcc 1 = .ok (.iload_n 1, 1) := by decide +kernel
theorem dJ0_checkBoundsOffCount_cabcc_2 : decode cJ0_checkBoundsOffCount_cabcc 2 = .ok (.iload_n 2, 1) := by decide +kernel
theorem dJ0_checkBoundsOffCount_cabcc_3 : decode cJ0_checkBoundsOffCount_cabcc 3 = .ok (.getstatic 1053, 3) := by decide +kernel
theorem dJ0_checkBoundsOffCount_cabcc_6 : decode cJ0_checkBoundsOffCount_cabcc 6 = .ok (.invokestatic 1065, 3) := by decide +kernel
theorem dJ0_checkBoundsOffCount_cabcc_9 : decode cJ0_checkBoundsOffCount_cabcc 9 = .ok (.ireturn, 1) := by decide +kernel
theorem dJ0_checkBoundsBeginEnd_23922_0 : decode cJ0_checkBoundsBeginEnd_23922 0 = .ok (.iload_n 0, 1) := by decide +kernel
theorem dJ0_checkBoundsBeginEnd_23922_1 : decode cJ0_checkBoundsBeginEnd_23922 1 = .ok (.iload_n 1, 1) := by decide +kernel
theorem dJ0_checkBoundsBeginEnd_23922_2 : decode cJ0_checkBoundsBeginEnd_23922 2 = .ok (.iload_n 2, 1) := by decide +kernel
theorem dJ0_checkBoundsBeginEnd_23922_3 : decode cJ0_checkBoundsBeginEnd_23922 3 = .ok (.getstatic 1053, 3) := by decide +kernel
theorem dJ0_checkBoundsBeginEnd_23922_6 : decode cJ0_checkBoundsBeginEnd_23922 6 = .ok (.invokestatic 1062, 3) := by decide +kernel
theorem dJ0_checkBoundsBeginEnd_23922_9 : decode cJ0_checkBoundsBeginEnd_23922 9 = .ok (.pop, 1) := by decide +kernel
theorem dJ0_checkBoundsBeginEnd_23922_10 : decode cJ0_checkBoundsBeginEnd_23922 10 = .ok (.return_, 1) := by decide +kernel
theorem dJ4_init_da8c8_0 : decode cJ4_init_da8c8 0 = .ok (.aload_n 0, 1) := by decide +kernel
theorem dJ4_init_da8c8_1 : decode cJ4_init_da8c8 1 = .ok (.bipush 16, 2) := by decide +kernel
theorem dJ4_init_da8c8_3 : decode cJ4_init_da8c8 3 = .ok (.invokespecial 1, 3) := by decide +kernel
theorem dJ4_init_da8c8_6 : decode cJ4_init_da8c8 6 = .ok (.return_, 1) := by decide +kernel
theorem dJ4_append_15ec4_0 : decode cJ4_append_15ec4 0 = .ok (.aload_n 0, 1) := by decide +kernel
theorem dJ4_append_15ec4_1 : decode cJ4_append_15ec4 1 = .ok (.aload_n 1, 1) := by decide +kernel
theorem dJ4_append_15ec4_2 : decode cJ4_append_15ec4 2 = .ok (.invokespecial 29, 3) := by decide +kernel
theorem dJ4_append_15ec4_5 : decode cJ4_append_15ec4 5 = .ok (.pop, 1) := by decide +kernel
theorem dJ4_append_15ec4_6 : decode cJ4_append_15ec4 6 = .ok (.aload_n 0, 1) := by decide +kernel
theorem dJ4_append_15ec4_7 : decode cJ4_append_15ec4 7 = .ok (.areturn, 1) := by decide +kernel
theorem dJ4_append_cf468_0 : decode cJ4_append_cf468 0 = .ok (.aload_n 0, 1) := by decide +kernel
theorem dJ4_append_cf468_1 : decode cJ4_append_cf468 1 = .ok (.iload_n 1, 1) := by decide +kernel
theorem dJ4_append_cf468_2 : decode cJ4_append_cf468 2 = .ok (.invokespecial 50, 3) := by decide +kernel
theorem dJ4_append_cf468_5 : decode cJ4_append_cf468 5 = .ok (.pop, 1) := by decide +kernel
theorem dJ4_append_cf468_6 : decode cJ4_append_cf468 6 = .ok (.aload_n 0, 1) := by decide +kernel
theorem dJ4_append_cf468_7 : decode cJ4_append_cf468 7 = .ok (.areturn, 1) := by decide +kernel
theorem dJ4_toString_0e30d_0 : decode cJ4_toString_0e30d 0 = .ok (.new 18, 3) := by decide +kernel
theorem dJ4_toString_0e30d_3 : decode cJ4_toString_0e30d 3 = .ok (.dup, 1) := by decide +kernel
theorem dJ4_toString_0e30d_4 : decode cJ4_toString_0e30d 4 = .ok (.aload_n 0, 1) := by decide +kernel
theorem dJ4_toString_0e30d_5 : decode cJ4_toString_0e30d 5 = .ok (.invokespecial 137, 3) := by decide +kernel
theorem dJ4_toString_0e30d_8 : decode cJ4_toString_0e30d 8 = .ok (.areturn, 1) := by decide +kernel
theorem dJ4_length_8abf5_0 : decode cJ4_length_8abf5 0 = .ok (.aload_n 0, 1) := by decide +kernel
theorem dJ4_length_8abf5_1 : decode cJ4_length_8abf5 1 = .ok (.invokespecial 343, 3) := by decide +kernel
theorem dJ4_length_8abf5_4 : decode cJ4_length_8abf5 4 = .ok (.ireturn, 1) := by decide +kernel
theorem dJ1_charAt_3b067_0 : decode cJ1_charAt_3b067 0 = .ok (.iload_n 1, 1) := by decide +kernel
theorem dJ1_charAt_3b067_1 : decode cJ1_charAt_3b067 1 = .ok (.aload_n 0, 1) := by decide +kernel
theorem dJ1_charAt_3b067_2 : decode cJ1_charAt_3b067 2 = .ok (.arraylength, 1) := by decide +kernel
theorem dJ1_charAt_3b067_3 : decode cJ1_charAt_3b067 3 = .ok (.invokestatic 9, 3) := by decide +kernel
theorem dJ1_charAt_3b067_6 : decode cJ1_charAt_3b067 6 = .ok (.aload_n 0, 1) := by decide +kernel
theorem dJ1_charAt_3b067_7 : decode cJ1_charAt_3b067 7 = .ok (.iload_n 1, 1) := by decide +kernel
theorem dJ1_charAt_3b067_8 : decode cJ1_charAt_3b067 8 = .ok (.baload, 1) := by decide +kernel
theorem dJ1_charAt_3b067_9 : decode cJ1_charAt_3b067 9 = .ok (.sipush 255, 3) := by decide +kernel
theorem dJ1_charAt_3b067_12 : decode cJ1_charAt_3b067 12 = .ok (.iand, 1) := by decide +kernel
theorem dJ1_charAt_3b067_13 : decode cJ1_charAt_3b067 13 = .ok (.i2c, 1) := by decide +kernel
theorem dJ1_charAt_3b067_14 : decode cJ1_charAt_3b067 14 = .ok (.ireturn, 1) := by decide +kernel
theorem dJ1_canEncode_fc78d_0 : decode cJ1_canEncode_fc78d 0 = .ok (.iload_n 0, 1) := by decide +kernel
theorem dJ1_canEncode_fc78d_1 : decode cJ1_canEncode_fc78d 1 = .ok (.sipush 255, 3) := by decide +kernel
theorem dJ1_canEncode_fc78d_4 : decode cJ1_canEncode_fc78d 4 = .ok (.if_icmp .gt 7, 3) := by decide +kernel
theorem dJ1_canEncode_fc78d_7 : decode cJ1_canEncode_fc78d 7 = .ok (.iconst 1, 1) := by decide +kernel
theorem dJ1_canEncode_fc78d_8 : decode cJ1_canEncode_fc78d 8 = .ok (.goto 4, 3) := by decide +kernel
theorem dJ1_canEncode_fc78d_11 : decode cJ1_canEncode_fc78d 11 = .ok (.iconst 0, 1) := by decide +kernel
theorem dJ1_canEncode_fc78d_12 : decode cJ1_canEncode_fc78d 12 = .ok (.ireturn, 1) := by decide +kernel
theorem dJ1_equals_b5fdf_0 : decode cJ1_equals_b5fdf 0 = .ok (.aload_n 0, 1) := by decide +kernel
theorem dJ1_equals_b5fdf_1 : decode cJ1_equals_b5fdf 1 = .ok (.arraylength, 1) := by decide +kernel
theorem dJ1_equals_b5fdf_2 : decode cJ1_equals_b5fdf 2 = .ok (.aload_n 1, 1) := by decide +kernel
theorem dJ1_equals_b5fdf_3 : decode cJ1_equals_b5fdf 3 = .ok (.arraylength, 1) := by decide +kernel
theorem dJ1_equals_b5fdf_4 : decode cJ1_equals_b5fdf 4 = .ok (.if_icmp .ne 30, 3) := by decide +kernel
theorem dJ1_equals_b5fdf_7 : decode cJ1_equals_b5fdf 7 = .ok (.iconst 0, 1) := by decide +kernel
theorem dJ1_equals_b5fdf_8 : decode cJ1_equals_b5fdf 8 = .ok (.istore_n 2, 1) := by decide +kernel
theorem dJ1_equals_b5fdf_9 : decode cJ1_equals_b5fdf 9 = .ok (.iload_n 2, 1) := by decide +kernel
theorem dJ1_equals_b5fdf_10 : decode cJ1_equals_b5fdf 10 = .ok (.aload_n 0, 1) := by decide +kernel
theorem dJ1_equals_b5fdf_11 : decode cJ1_equals_b5fdf 11 = .ok (.arraylength, 1) := by decide +kernel
theorem dJ1_equals_b5fdf_12 : decode cJ1_equals_b5fdf 12 = .ok (.if_icmp .ge 20, 3) := by decide +kernel
theorem dJ1_equals_b5fdf_15 : decode cJ1_equals_b5fdf 15 = .ok (.aload_n 0, 1) := by decide +kernel
theorem dJ1_equals_b5fdf_16 : decode cJ1_equals_b5fdf 16 = .ok (.iload_n 2, 1) := by decide +kernel
theorem dJ1_equals_b5fdf_17 : decode cJ1_equals_b5fdf 17 = .ok (.baload, 1) := by decide +kernel
theorem dJ1_equals_b5fdf_18 : decode cJ1_equals_b5fdf 18 = .ok (.aload_n 1, 1) := by decide +kernel
theorem dJ1_equals_b5fdf_19 : decode cJ1_equals_b5fdf 19 = .ok (.iload_n 2, 1) := by decide +kernel
theorem dJ1_equals_b5fdf_20 : decode cJ1_equals_b5fdf 20 = .ok (.baload, 1) := by decide +kernel
theorem dJ1_equals_b5fdf_21 : decode cJ1_equals_b5fdf 21 = .ok (.if_icmp .eq 5, 3) := by decide +kernel
theorem dJ1_equals_b5fdf_24 : decode cJ1_equals_b5fdf 24 = .ok (.iconst 0, 1) := by decide +kernel
theorem dJ1_equals_b5fdf_25 : decode cJ1_equals_b5fdf 25 = .ok (.ireturn, 1) := by decide +kernel
theorem dJ1_equals_b5fdf_26 : decode cJ1_equals_b5fdf 26 = .ok (.iinc 2 1, 3) := by decide +kernel
theorem dJ1_equals_b5fdf_29 : decode cJ1_equals_b5fdf 29 = .ok (.goto (-20), 3) := by decide +kernel
theorem dJ1_equals_b5fdf_32 : decode cJ1_equals_b5fdf 32 = .ok (.iconst 1, 1) := by decide +kernel
theorem dJ1_equals_b5fdf_33 : decode cJ1_equals_b5fdf 33 = .ok (.ireturn, 1) := by decide +kernel
theorem dJ1_equals_b5fdf_34 : decode cJ1_equals_b5fdf 34 = .ok (.iconst 0, 1) := by decide +kernel
theorem dJ1_equals_b5fdf_35 : decode cJ1_equals_b5fdf 35 = .ok (.ireturn, 1) := by decide +kernel
theorem dJ1_indexOf_b82b6_0 : decode cJ1_indexOf_b82b6 0 = .ok (.aload_n 1, 1) := by decide +kernel
theorem dJ1_indexOf_b82b6_1 : decode cJ1_indexOf_b82b6 1 = .ok (.arraylength, 1) := by decide +kernel
theorem dJ1_indexOf_b82b6_2 : decode cJ1_indexOf_b82b6 2 = .ok (.ifCond .ne 5, 3) := by decide +kernel
theorem dJ1_indexOf_b82b6_5 : decode cJ1_indexOf_b82b6 5 = .ok (.iconst 0, 1) := by decide +kernel
theorem dJ1_indexOf_b82b6_6 : decode cJ1_indexOf_b82b6 6 = .ok (.ireturn, 1) := by decide +kernel
theorem dJ1_indexOf_b82b6_7 : decode cJ1_indexOf_b82b6 7 = .ok (.aload_n 0, 1) := by decide +kernel
theorem dJ1_indexOf_b82b6_8 : decode cJ1_indexOf_b82b6 8 = .ok (.arraylength, 1) := by decide +kernel
theorem dJ1_indexOf_b82b6_9 : decode cJ1_indexOf_b82b6 9 = .ok (.ifCond .ne 5, 3) := by decide +kernel
theorem dJ1_indexOf_b82b6_12 : decode cJ1_indexOf_b82b6 12 = .ok (.iconst (-1), 1) := by decide +kernel
theorem dJ1_indexOf_b82b6_13 : decode cJ1_indexOf_b82b6 13 = .ok (.ireturn, 1) := by decide +kernel
theorem dJ1_indexOf_b82b6_14 : decode cJ1_indexOf_b82b6 14 = .ok (.aload_n 0, 1) := by decide +kernel
theorem dJ1_indexOf_b82b6_15 : decode cJ1_indexOf_b82b6 15 = .ok (.aload_n 0, 1) := by decide +kernel
theorem dJ1_indexOf_b82b6_16 : decode cJ1_indexOf_b82b6 16 = .ok (.arraylength, 1) := by decide +kernel
theorem dJ1_indexOf_b82b6_17 : decode cJ1_indexOf_b82b6 17 = .ok (.aload_n 1, 1) := by decide +kernel
theorem dJ1_indexOf_b82b6_18 : decode cJ1_indexOf_b82b6 18 = .ok (.aload_n 1, 1) := by decide +kernel
theorem dJ1_indexOf_b82b6_19 : decode cJ1_indexOf_b82b6 19 = .ok (.arraylength, 1) := by decide +kernel
theorem dJ1_indexOf_b82b6_20 : decode cJ1_indexOf_b82b6 20 = .ok (.iconst 0, 1) := by decide +kernel
theorem dJ1_indexOf_b82b6_21 : decode cJ1_indexOf_b82b6 21 = .ok (.invokestatic 99, 3) := by decide +kernel
theorem dJ1_indexOf_b82b6_24 : decode cJ1_indexOf_b82b6 24 = .ok (.ireturn, 1) := by decide +kernel
theorem dJ1_indexOf_5af95_0 : decode cJ1_indexOf_5af95 0 = .ok (.aload_n 2, 1) := by decide +kernel
theorem dJ1_indexOf_5af95_1 : decode cJ1_indexOf_5af95 1 = .ok (.iconst 0, 1) := by decide +kernel
theorem dJ1_indexOf_5af95_2 : decode cJ1_indexOf_5af95 2 = .ok (.baload, 1) := by decide +kernel
theorem dJ1_indexOf_5af95_3 : decode cJ1_indexOf_5af95 3 = .ok (.istore 5, 2) := by decide +kernel
theorem dJ1_indexOf_5af95_5 : decode cJ1_indexOf_5af95 5 = .ok (.iload_n 1, 1) := by decide +kernel
theorem dJ1_indexOf_5af95_6 : decode cJ1_indexOf_5af95 6 = .ok (.iload_n 3, 1) := by decide +kernel
theorem dJ1_indexOf_5af95_7 : decode cJ1_indexOf_5af95 7 = .ok (.isub, 1) := by decide +kernel
theorem dJ1_indexOf_5af95_8 : decode cJ1_indexOf_5af95 8 = .ok (.istore 6, 2) := by decide +kernel
theorem dJ1_indexOf_5af95_10 : decode cJ1_indexOf_5af95 10 = .ok (.iload 4, 2) := by decide +kernel
theorem dJ1_indexOf_5af95_12 : decode cJ1_indexOf_5af95 12 = .ok (.istore 7, 2) := by decide +kernel
theorem dJ1_indexOf_5af95_14 : decode cJ1_indexOf_5af95 14 = .ok (.iload 7, 2) := by decide +kernel
theorem dJ1_indexOf_5af95_16 : decode cJ1_indexOf_5af95 16 = .ok (.iload 6, 2) := by decide +kernel
theorem dJ1_indexOf_5af95_18 : decode cJ1_indexOf_5af95 18 = .ok (.if_icmp .gt 101, 3) := by decide +kernel
theorem dJ1_indexOf_5af95_21 : decode cJ1_indexOf_5af95 21 = .ok (.aload_n 0, 1) := by decide +kernel
theorem dJ1_indexOf_5af95_22 : decode cJ1_indexOf_5af95 22 = .ok (.iload 7, 2) := by decide +kernel
theorem dJ1_indexOf_5af95_24 : decode cJ1_indexOf_5af95 24 = .ok (.baload, 1) := by decide +kernel
theorem dJ1_indexOf_5af95_25 : decode cJ1_indexOf_5af95 25 = .ok (.iload 5, 2) := by decide +kernel
theorem dJ1_indexOf_5af95_27 : decode cJ1_indexOf_5af95 27 = .ok (.if_icmp .eq 25, 3) := by decide +kernel
theorem dJ1_indexOf_5af95_30 : decode cJ1_indexOf_5af95 30 = .ok (.iinc 7 1, 3) := by decide +kernel
theorem dJ1_indexOf_5af95_33 : decode cJ1_indexOf_5af95 33 = .ok (.iload 7, 2) := by decide +kernel
theorem dJ1_indexOf_5af95_35 : decode cJ1_indexOf_5af95 35 = .ok (.iload 6, 2) := by decide +kernel
theorem dJ1_indexOf_5af95_37 : decode cJ1_indexOf_5af95 37 = .ok (.if_icmp .gt 15, 3) := by decide +kernel
theorem dJ1_indexOf_5af95_40 : decode cJ1_indexOf_5af95 40 = .ok (.aload_n 0, 1) := by decide +kernel
theorem dJ1_indexOf_5af95_41 : decode cJ1_indexOf_5af95 41 = .ok (.iload 7, 2) := by decide +kernel
theorem dJ1_indexOf_5af95_43 : decode cJ1_indexOf_5af95 43 = .ok (.baload, 1) := by decide +kernel
theorem dJ1_indexOf_5af95_44 : decode cJ1_indexOf_5af95 44 = .ok (.iload 5, 2) := by decide +kernel
theorem dJ1_indexOf_5af95_46 : decode cJ1_indexOf_5af95 46 = .ok (.if_icmp .eq 6, 3) := by decide +kernel
theorem dJ1_indexOf_5af95_49 : decode cJ1_indexOf_5af95 49 = .ok (.goto (-19), 3) := by decide +kernel
theorem dJ1_indexOf_5af95_52 : decode cJ1_indexOf_5af95 52 = .ok (.iload 7, 2) := by decide +kernel
theorem dJ1_indexOf_5af95_54 : decode cJ1_indexOf_5af95 54 = .ok (.iload 6, 2) := by decide +kernel
theorem dJ1_indexOf_5af95_56 : decode cJ1_indexOf_5af95 56 = .ok (.if_icmp .gt 57, 3) := by decide +kernel
theorem dJ1_indexOf_5af95_59 : decode cJ1_indexOf_5af95 59 = .ok (.iload 7, 2) := by decide +kernel
theorem dJ1_indexOf_5af95_61 : decode cJ1_indexOf_5af95 61 = .ok (.iconst 1, 1) := by decide +kernel
theorem dJ1_indexOf_5af95_62 : decode cJ1_indexOf_5af95 62 = .ok (.iadd, 1) := by decide +kernel
theorem dJ1_indexOf_5af95_63 : decode cJ1_indexOf_5af95 63 = .ok (.istore 8, 2) := by decide +kernel
theorem dJ1_indexOf_5af95_65 : decode cJ1_indexOf_5af95 65 = .ok (.iload 8, 2) := by decide +kernel
theorem dJ1_indexOf_5af95_67 : decode cJ1_indexOf_5af95 67 = .ok (.iload_n 3, 1) := by decide +kernel
theorem dJ1_indexOf_5af95_68 : decode cJ1_indexOf_5af95 68 = .ok (.iadd, 1) := by decide +kernel
theorem dJ1_indexOf_5af95_69 : decode cJ1_indexOf_5af95 69 = .ok (.iconst 1, 1) := by decide +kernel
theorem dJ1_indexOf_5af95_70 : decode cJ1_indexOf_5af95 70 = .ok (.isub, 1) := by decide +kernel
theorem dJ1_indexOf_5af95_71 : decode cJ1_indexOf_5af95 71 = .ok (.istore 9, 2) := by decide +kernel
theorem dJ1_indexOf_5af95_73 : decode cJ1_indexOf_5af95 73 = .ok (.iconst 1, 1) := by decide +kernel
theorem dJ1_indexOf_5af95_74 : decode cJ1_indexOf_5af95 74 = .ok (.istore 10, 2) := by decide +kernel
theorem dJ1_indexOf_5af95_76 : decode cJ1_indexOf_5af95 76 = .ok (.iload 8, 2) := by decide +kernel
theorem dJ1_indexOf_5af95_78 : decode cJ1_indexOf_5af95 78 = .ok (.iload 9, 2) := by decide +kernel
theorem dJ1_indexOf_5af95_80 : decode cJ1_indexOf_5af95 80 = .ok (.if_icmp .ge 23, 3) := by decide +kernel
theorem dJ1_indexOf_5af95_83 : decode cJ1_indexOf_5af95 83 = .ok (.aload_n 0, 1) := by decide +kernel
theorem dJ1_indexOf_5af95_84 : decode cJ1_indexOf_5af95 84 = .ok (.iload 8, 2) := by decide +kernel
theorem dJ1_indexOf_5af95_86 : decode cJ1_indexOf_5af95 86 = .ok (.baload, 1) := by decide +kernel
theorem dJ1_indexOf_5af95_87 : decode cJ1_indexOf_5af95 87 = .ok (.aload_n 2, 1) := by decide +kernel
theorem dJ1_indexOf_5af95_88 : decode cJ1_indexOf_5af95 88 = .ok (.iload 10, 2) := by decide +kernel
theorem dJ1_indexOf_5af95_90 : decode cJ1_indexOf_5af95 90 = .ok (.baload, 1) := by decide +kernel
theorem dJ1_indexOf_5af95_91 : decode cJ1_indexOf_5af95 91 = .ok (.if_icmp .ne 12, 3) := by decide +kernel
theorem dJ1_indexOf_5af95_94 : decode cJ1_indexOf_5af95 94 = .ok (.iinc 8 1, 3) := by decide +kernel
theorem dJ1_indexOf_5af95_97 : decode cJ1_indexOf_5af95 97 = .ok (.iinc 10 1, 3) := by decide +kernel
theorem dJ1_indexOf_5af95_100 : decode cJ1_indexOf_5af95 100 = .ok (.goto (-24), 3) := by decide +kernel
theorem dJ1_indexOf_5af95_103 : decode cJ1_indexOf_5af95 103 = .ok (.iload 8, 2) := by decide +kernel
theorem dJ1_indexOf_5af95_105 : decode cJ1_indexOf_5af95 105 = .ok (.iload 9, 2) := by decide +kernel
theorem dJ1_indexOf_5af95_107 : decode cJ1_indexOf_5af95 107 = .ok (.if_icmp .ne 6, 3) := by decide +kernel
theorem dJ1_indexOf_5af95_110 : decode cJ1_indexOf_5af95 110 = .ok (.iload 7, 2) := by decide +kernel
theorem dJ1_indexOf_5af95_112 : decode cJ1_indexOf_5af95 112 = .ok (.ireturn, 1) := by decide +kernel
theorem dJ1_indexOf_5af95_113 : decode cJ1_indexOf_5af95 113 = .ok (.iinc 7 1, 3) := by decide +kernel
theorem dJ1_indexOf_5af95_116 : decode cJ1_indexOf_5af95 116 = .ok (.goto (-102), 3) := by decide +kernel
theorem dJ1_indexOf_5af95_119 : decode cJ1_indexOf_5af95 119 = .ok (.iconst (-1), 1) := by decide +kernel
theorem dJ1_indexOf_5af95_120 : decode cJ1_indexOf_5af95 120 = .ok (.ireturn, 1) := by decide +kernel
theorem dJ1_inflate_0e8fd_0 : decode cJ1_inflate_0e8fd 0 = .ok (.aload_n 0, 1) := by decide +kernel
theorem dJ1_inflate_0e8fd_1 : decode cJ1_inflate_0e8fd 1 = .ok (.iload_n 1, 1) := by decide +kernel
theorem dJ1_inflate_0e8fd_2 : decode cJ1_inflate_0e8fd 2 = .ok (.aload_n 2, 1) := by decide +kernel
theorem dJ1_inflate_0e8fd_3 : decode cJ1_inflate_0e8fd 3 = .ok (.iload_n 3, 1) := by decide +kernel
theorem dJ1_inflate_0e8fd_4 : decode cJ1_inflate_0e8fd 4 = .ok (.iload 4, 2) := by decide +kernel
theorem dJ1_inflate_0e8fd_6 : decode cJ1_inflate_0e8fd 6 = .ok (.invokestatic 240, 3) := by decide +kernel
theorem dJ1_inflate_0e8fd_9 : decode cJ1_inflate_0e8fd 9 = .ok (.return_, 1) := by decide +kernel
theorem dJ7_copyOf_9075b_0 : decode cJ7_copyOf_9075b 0 = .ok (.iload_n 1, 1) := by decide +kernel
theorem dJ7_copyOf_9075b_1 : decode cJ7_copyOf_9075b 1 = .ok (.aload_n 0, 1) := by decide +kernel
theorem dJ7_copyOf_9075b_2 : decode cJ7_copyOf_9075b 2 = .ok (.arraylength, 1) := by decide +kernel
theorem dJ7_copyOf_9075b_3 : decode cJ7_copyOf_9075b 3 = .ok (.if_icmp .ne 11, 3) := by decide +kernel
theorem dJ7_copyOf_9075b_6 : decode cJ7_copyOf_9075b 6 = .ok (.aload_n 0, 1) := by decide +kernel
theorem dJ7_copyOf_9075b_7 : decode cJ7_copyOf_9075b 7 = .ok (.invokevirtual 310, 3) := by decide +kernel
theorem dJ7_copyOf_9075b_10 : decode cJ7_copyOf_9075b 10 = .ok (.checkcast 311, 3) := by decide +kernel
theorem dJ7_copyOf_9075b_13 : decode cJ7_copyOf_9075b 13 = .ok (.areturn, 1) := by decide +kernel
theorem dJ7_copyOf_9075b_14 : decode cJ7_copyOf_9075b 14 = .ok (.iload_n 1, 1) := by decide +kernel
theorem dJ7_copyOf_9075b_15 : decode cJ7_copyOf_9075b 15 = .ok (.newarray .byte, 2) := by decide +kernel
theorem dJ7_copyOf_9075b_17 : decode cJ7_copyOf_9075b 17 = .ok (.astore_n 2, 1) := by decide +kernel
theorem dJ7_copyOf_9075b_18 : decode cJ7_copyOf_9075b 18 = .ok (.aload_n 0, 1) := by decide +kernel
theorem dJ7_copyOf_9075b_19 : decode cJ7_copyOf_9075b 19 = .ok (.iconst 0, 1) := by decide +kernel
theorem dJ7_copyOf_9075b_20 : decode cJ7_copyOf_9075b 20 = .ok (.aload_n 2, 1) := by decide +kernel
theorem dJ7_copyOf_9075b_21 : decode cJ7_copyOf_9075b 21 = .ok (.iconst 0, 1) := by decide +kernel
theorem dJ7_copyOf_9075b_22 : decode cJ7_copyOf_9075b 22 = .ok (.aload_n 0, 1) := by decide +kernel
theorem dJ7_copyOf_9075b_23 : decode cJ7_copyOf_9075b 23 = .ok (.arraylength, 1) := by decide +kernel
theorem dJ7_copyOf_9075b_24 : decode cJ7_copyOf_9075b 24 = .ok (.iload_n 1, 1) := by decide +kernel
theorem dJ7_copyOf_9075b_25 : decode cJ7_copyOf_9075b 25 = .ok (.invokestatic 304, 3) := by decide +kernel
theorem dJ7_copyOf_9075b_28 : decode cJ7_copyOf_9075b 28 = .ok (.invokestatic 150, 3) := by decide +kernel
theorem dJ7_copyOf_9075b_31 : decode cJ7_copyOf_9075b 31 = .ok (.aload_n 2, 1) := by decide +kernel
theorem dJ7_copyOf_9075b_32 : decode cJ7_copyOf_9075b 32 = .ok (.areturn, 1) := by decide +kernel
theorem dJ7_copyOfRange_39247_0 : decode cJ7_copyOfRange_39247 0 = .ok (.iload_n 1, 1) := by decide +kernel
theorem dJ7_copyOfRange_39247_1 : decode cJ7_copyOfRange_39247 1 = .ok (.ifCond .ne 9, 3) := by decide +kernel
theorem dJ7_copyOfRange_39247_4 : decode cJ7_copyOfRange_39247 4 = .ok (.iload_n 2, 1) := by decide +kernel
theorem dJ7_copyOfRange_39247_5 : decode cJ7_copyOfRange_39247 5 = .ok (.aload_n 0, 1) := by decide +kernel
theorem dJ7_copyOfRange_39247_6 : decode cJ7_copyOfRange_39247 6 = .ok (.arraylength, 1) := by decide +kernel
theorem dJ7_copyOfRange_39247_7 : decode cJ7_copyOfRange_39247 7 = .ok (.if_icmp .eq 10, 3) := by decide +kernel
theorem dJ7_copyOfRange_39247_10 : decode cJ7_copyOfRange_39247 10 = .ok (.aload_n 0, 1) := by decide +kernel
theorem dJ7_copyOfRange_39247_11 : decode cJ7_copyOfRange_39247 11 = .ok (.iload_n 1, 1) := by decide +kernel
theorem dJ7_copyOfRange_39247_12 : decode cJ7_copyOfRange_39247 12 = .ok (.iload_n 2, 1) := by decide +kernel
theorem dJ7_copyOfRange_39247_13 : decode cJ7_copyOfRange_39247 13 = .ok (.invokestatic 339, 3) := by decide +kernel
theorem dJ7_copyOfRange_39247_16 : decode cJ7_copyOfRange_39247 16 = .ok (.areturn, 1) := by decide +kernel
theorem dJ7_copyOfRange_39247_17 : decode cJ7_copyOfRange_39247 17 = .ok (.aload_n 0, 1) := by decide +kernel
theorem dJ7_copyOfRange_39247_18 : decode cJ7_copyOfRange_39247 18 = .ok (.invokevirtual 310, 3) := by decide +kernel
theorem dJ7_copyOfRange_39247_21 : decode cJ7_copyOfRange_39247 21 = .ok (.checkcast 311, 3) := by decide +kernel
theorem dJ7_copyOfRange_39247_24 : decode cJ7_copyOfRange_39247 24 = .ok (.areturn, 1) := by decide +kernel
theorem dJ7_copyOfRangeByte_39247_0 : decode cJ7_copyOfRangeByte_39247 0 = .ok (.iload_n 1, 1) := by decide +kernel
theorem dJ7_copyOfRangeByte_39247_1 : decode cJ7_copyOfRangeByte_39247 1 = .ok (.iload_n 2, 1) := by decide +kernel
theorem dJ7_copyOfRangeByte_39247_2 : decode cJ7_copyOfRangeByte_39247 2 = .ok (.invokestatic 343, 3) := by decide +kernel
theorem dJ7_copyOfRangeByte_39247_5 : decode cJ7_copyOfRangeByte_39247 5 = .ok (.iload_n 2, 1) := by decide +kernel
theorem dJ7_copyOfRangeByte_39247_6 : decode cJ7_copyOfRangeByte_39247 6 = .ok (.iload_n 1, 1) := by decide +kernel
theorem dJ7_copyOfRangeByte_39247_7 : decode cJ7_copyOfRangeByte_39247 7 = .ok (.isub, 1) := by decide +kernel
theorem dJ7_copyOfRangeByte_39247_8 : decode cJ7_copyOfRangeByte_39247 8 = .ok (.istore_n 3, 1) := by decide +kernel
theorem dJ7_copyOfRangeByte_39247_9 : decode cJ7_copyOfRangeByte_39247 9 = .ok (.iload_n 3, 1) := by decide +kernel
theorem dJ7_copyOfRangeByte_39247_10 : decode cJ7_copyOfRangeByte_39247 10 = .ok (.newarray .byte, 2) := by decide +kernel
theorem dJ7_copyOfRangeByte_39247_12 : decode cJ7_copyOfRangeByte_39247 12 = .ok (.astore 4, 2) := by decide +kernel
theorem dJ7_copyOfRangeByte_39247_14 : decode cJ7_copyOfRangeByte_39247 14 = .ok (.aload_n 0, 1) := by decide +kernel
theorem dJ7_copyOfRangeByte_39247_15 : decode cJ7_copyOfRangeByte_39247 15 = .ok (.iload_n 1, 1) := by decide +kernel
theorem dJ7_copyOfRangeByte_39247_16 : decode cJ7_copyOfRangeByte_39247 16 = .ok (.aload 4, 2) := by decide +kernel
theorem dJ7_copyOfRangeByte_39247_18 : decode cJ7_copyOfRangeByte_39247 18 = .ok (.iconst 0, 1) := by decide +kernel
theorem dJ7_copyOfRangeByte_39247_19 : decode cJ7_copyOfRangeByte_39247 19 = .ok (.aload_n 0, 1) := by decide +kernel
theorem dJ7_copyOfRangeByte_39247_20 : decode cJ7_copyOfRangeByte_39247 20 = .ok (.arraylength, 1) := by decide +kernel
theorem dJ7_copyOfRangeByte_39247_21 : decode cJ7_copyOfRangeByte_39247 21 = .ok (.iload_n 1, 1) := by decide +kernel
theorem dJ7_copyOfRangeByte_39247_22 : decode cJ7_copyOfRangeByte_39247 22 = .ok (.isub, 1) := by decide +kernel
theorem dJ7_copyOfRangeByte_39247_23 : decode cJ7_copyOfRangeByte_39247 23 = .ok (.iload_n 3, 1) := by decide +kernel
theorem dJ7_copyOfRangeByte_39247_24 : decode cJ7_copyOfRangeByte_39247 24 = .ok (.invokestatic 304, 3) := by decide +kernel
theorem dJ7_copyOfRangeByte_39247_27 : decode cJ7_copyOfRangeByte_39247 27 = .ok (.invokestatic 150, 3) := by decide +kernel
theorem dJ7_copyOfRangeByte_39247_30 : decode cJ7_copyOfRangeByte_39247 30 = .ok (.aload 4, 2) := by decide +kernel
theorem dJ7_copyOfRangeByte_39247_32 : decode cJ7_copyOfRangeByte_39247 32 = .ok (.areturn, 1) := by decide +kernel
theorem dJ8_newLength_cabcc_0 : decode cJ8_newLength_cabcc 0 = .ok (.iload_n 0, 1) := by decide +kernel
theorem dJ8_newLength_cabcc_1 : decode cJ8_newLength_cabcc 1 = .ok (.iload_n 1, 1) := by decide +kernel
theorem dJ8_newLength_cabcc_2 : decode cJ8_newLength_cabcc 2 = .ok (.iload_n 2, 1) := by decide +kernel
theorem dJ8_newLength_cabcc_3 : decode cJ8_newLength_cabcc 3 = .ok (.invokestatic 194, 3) := by decide +kernel
theorem dJ8_newLength_cabcc_6 : decode cJ8_newLength_cabcc 6 = .ok (.iadd, 1) := by decide +kernel
theorem dJ8_newLength_cabcc_7 : decode cJ8_newLength_cabcc 7 = .ok (.istore_n 3, 1) := by decide +kernel
theorem dJ8_newLength_cabcc_8 : decode cJ8_newLength_cabcc 8 = .ok (.iconst 0, 1) := by decide +kernel
theorem dJ8_newLength_cabcc_9 : decode cJ8_newLength_cabcc 9 = .ok (.iload_n 3, 1) := by decide +kernel
theorem dJ8_newLength_cabcc_10 : decode cJ8_newLength_cabcc 10 = .ok (.if_icmp .ge 11, 3) := by decide +kernel
theorem dJ8_newLength_cabcc_13 : decode cJ8_newLength_cabcc 13 = .ok (.iload_n 3, 1) := by decide +kernel
theorem dJ8_newLength_cabcc_14 : decode cJ8_newLength_cabcc 14 = .ok (.ldc 200, 2) := by decide +kernel
theorem dJ8_newLength_cabcc_16 : decode cJ8_newLength_cabcc 16 = .ok (.if_icmp .gt 5, 3) := by decide +kernel
theorem dJ8_newLength_cabcc_19 : decode cJ8_newLength_cabcc 19 = .ok (.iload_n 3, 1) := by decide +kernel
theorem dJ8_newLength_cabcc_20 : decode cJ8_newLength_cabcc 20 = .ok (.ireturn, 1) := by decide +kernel
theorem dJ8_newLength_cabcc_21 : decode cJ8_newLength_cabcc 21 = .ok (.iload_n 0, 1) := by decide +kernel
theorem dJ8_newLength_cabcc_22 : decode cJ8_newLength_cabcc 22 = .ok (.iload_n 1, 1) := by decide +kernel
theorem dJ8_newLength_cabcc_23 : decode cJ8_newLength_cabcc 23 = .ok (.invokestatic 201, 3) := by decide +kernel
theorem dJ8_newLength_cabcc_26 : decode cJ8_newLength_cabcc 26 = .ok (.ireturn, 1) := by decide +kernel
theorem dJ3_checkIndex_8e157_0 : decode cJ3_checkIndex_8e157 0 = .ok (.iload_n 0, 1) := by decide +kernel
theorem dJ3_checkIndex_8e157_1 : decode cJ3_checkIndex_8e157 1 = .ok (.ifCond .lt 8, 3) := by decide +kernel
theorem dJ3_checkIndex_8e157_4 : decode cJ3_checkIndex_8e157 4 = .ok (.iload_n 0, 1) := by decide +kernel
theorem dJ3_checkIndex_8e157_5 : decode cJ3_checkIndex_8e157 5 = .ok (.iload_n 1, 1) := by decide +kernel
theorem dJ3_checkIndex_8e157_6 : decode cJ3_checkIndex_8e157 6 = .ok (.if_icmp .lt 10, 3) := by decide +kernel
theorem dJ3_checkIndex_8e157_9 : decode cJ3_checkIndex_8e157 9 = .ok (.aload_n 2, 1) := by decide +kernel
theorem dJ3_checkIndex_8e157_10 : decode cJ3_checkIndex_8e157 10 = .ok (.iload_n 0, 1) := by decide +kernel
theorem dJ3_checkIndex_8e157_11 : decode cJ3_checkIndex_8e157 11 = .ok (.iload_n 1, 1) := by decide +kernel
theorem dJ3_checkIndex_8e157_12 : decode cJ3_checkIndex_8e157 12 = .ok (.invokestatic 95, 3) := by decide +kernel
theorem dJ3_checkIndex_8e157_15 : decode cJ3_checkIndex_8e157 15 = .ok (.athrow, 1) := by decide +kernel
theorem dJ3_checkIndex_8e157_16 : decode cJ3_checkIndex_8e157 16 = .ok (.iload_n 0, 1) := by decide +kernel
theorem dJ3_checkIndex_8e157_17 : decode cJ3_checkIndex_8e157 17 = .ok (.ireturn, 1) := by decide +kernel
theorem dJ3_checkFromToIndex_8c36e_0 : decode cJ3_checkFromToIndex_8c36e 0 = .ok (.iload_n 0, 1) := by decide +kernel
theorem dJ3_checkFromToIndex_8c36e_1 : decode cJ3_checkFromToIndex_8c36e 1 = .ok (.ifCond .lt 13, 3) := by decide +kernel
theorem dJ3_checkFromToIndex_8c36e_4 : decode cJ3_checkFromToIndex_8c36e 4 = .ok (.iload_n 0, 1) := by decide +kernel
theorem dJ3_checkFromToIndex_8c36e_5 : decode cJ3_checkFromToIndex_8c36e 5 = .ok (.iload_n 1, 1) := by decide +kernel
theorem dJ3_checkFromToIndex_8c36e_6 : decode cJ3_checkFromToIndex_8c36e 6 = .ok (.if_icmp .gt 8, 3) := by decide +kernel
theorem dJ3_checkFromToIndex_8c36e_9 : decode cJ3_checkFromToIndex_8c36e 9 = .ok (.iload_n 1, 1) := by decide +kernel
theorem dJ3_checkFromToIndex_8c36e_10 : decode cJ3_checkFromToIndex_8c36e 10 = .ok (.iload_n 2, 1) := by decide +kernel
theorem dJ3_checkFromToIndex_8c36e_11 : decode cJ3_checkFromToIndex_8c36e 11 = .ok (.if_icmp .le 11, 3) := by decide +kernel
theorem dJ3_checkFromToIndex_8c36e_14 : decode cJ3_checkFromToIndex_8c36e 14 = .ok (.aload_n 3, 1) := by decide +kernel
theorem dJ3_checkFromToIndex_8c36e_15 : decode cJ3_checkFromToIndex_8c36e 15 = .ok (.iload_n 0, 1) := by decide +kernel
theorem dJ3_checkFromToIndex_8c36e_16 : decode cJ3_checkFromToIndex_8c36e 16 = .ok (.iload_n 1, 1) := by decide +kernel
theorem dJ3_checkFromToIndex_8c36e_17 : decode cJ3_checkFromToIndex_8c36e 17 = .ok (.iload_n 2, 1) := by decide +kernel
theorem dJ3_checkFromToIndex_8c36e_18 : decode cJ3_checkFromToIndex_8c36e 18 = .ok (.invokestatic 99, 3) := by decide +kernel
theorem dJ3_checkFromToIndex_8c36e_21 : decode cJ3_checkFromToIndex_8c36e 21 = .ok (.athrow, 1) := by decide +kernel
theorem dJ3_checkFromToIndex_8c36e_22 : decode cJ3_checkFromToIndex_8c36e 22 = .ok (.iload_n 0, 1) := by decide +kernel
theorem dJ3_checkFromToIndex_8c36e_23 : decode cJ3_checkFromToIndex_8c36e 23 = .ok (.ireturn, 1) := by decide +kernel
theorem dJ3_checkFromIndexSize_8c36e_0 : decode cJ3_checkFromIndexSize_8c36e 0 = .ok (.iload_n 2, 1) := by decide +kernel
theorem dJ3_checkFromIndexSize_8c36e_1 : decode cJ3_checkFromIndexSize_8c36e 1 = .ok (.iload_n 0, 1) := by decide +kernel
theorem dJ3_checkFromIndexSize_8c36e_2 : decode cJ3_checkFromIndexSize_8c36e 2 = .ok (.ior, 1) := by decide +kernel
theorem dJ3_checkFromIndexSize_8c36e_3 : decode cJ3_checkFromIndexSize_8c36e 3 = .ok (.iload_n 1, 1) := by decide +kernel
theorem dJ3_checkFromIndexSize_8c36e_4 : decode cJ3_checkFromIndexSize_8c36e 4 = .ok (.ior, 1) := by decide +kernel
theorem dJ3_checkFromIndexSize_8c36e_5 : decode cJ3_checkFromIndexSize_8c36e 5 = .ok (.ifCond .lt 10, 3) := by decide +kernel
theorem dJ3_checkFromIndexSize_8c36e_8 : decode cJ3_checkFromIndexSize_8c36e 8 = .ok (.iload_n 1, 1) := by decide +kernel
theorem dJ3_checkFromIndexSize_8c36e_9 : decode cJ3_checkFromIndexSize_8c36e 9 = .ok (.iload_n 2, 1) := by decide +kernel
theorem dJ3_checkFromIndexSize_8c36e_10 : decode cJ3_checkFromIndexSize_8c36e 10 = .ok (.iload_n 0, 1) := by decide +kernel
theorem dJ3_checkFromIndexSize_8c36e_11 : decode cJ3_checkFromIndexSize_8c36e 11 = .ok (.isub, 1) := by decide +kernel
theorem dJ3_checkFromIndexSize_8c36e_12 : decode cJ3_checkFromIndexSize_8c36e 12 = .ok (.if_icmp .le 11, 3) := by decide +kernel
theorem dJ3_checkFromIndexSize_8c36e_15 : decode cJ3_checkFromIndexSize_8c36e 15 = .ok (.aload_n 3, 1) := by decide +kernel
theorem dJ3_checkFromIndexSize_8c36e_16 : decode cJ3_checkFromIndexSize_8c36e 16 = .ok (.iload_n 0, 1) := by decide +kernel
theorem dJ3_checkFromIndexSize_8c36e_17 : decode cJ3_checkFromIndexSize_8c36e 17 = .ok (.iload_n 1, 1) := by decide +kernel
theorem dJ3_checkFromIndexSize_8c36e_18 : decode cJ3_checkFromIndexSize_8c36e 18 = .ok (.iload_n 2, 1) := by decide +kernel
theorem dJ3_checkFromIndexSize_8c36e_19 : decode cJ3_checkFromIndexSize_8c36e 19 = .ok (.invokestatic 103, 3) := by decide +kernel
theorem dJ3_checkFromIndexSize_8c36e_22 : decode cJ3_checkFromIndexSize_8c36e 22 = .ok (.athrow, 1) := by decide +kernel
theorem dJ3_checkFromIndexSize_8c36e_23 : decode cJ3_checkFromIndexSize_8c36e 23 = .ok (.iload_n 0, 1) := by decide +kernel
theorem dJ3_checkFromIndexSize_8c36e_24 : decode cJ3_checkFromIndexSize_8c36e 24 = .ok (.ireturn, 1) := by decide +kernel
theorem dL_law_0 : decode cL_law 0 = .ok (.new 7, 3) := by decide +kernel
theorem dL_law_3 : decode cL_law 3 = .ok (.dup, 1) := by decide +kernel
theorem dL_law_4 : decode cL_law 4 = .ok (.invokespecial 9, 3) := by decide +kernel
theorem dL_law_7 : decode cL_law 7 = .ok (.astore_n 1, 1) := by decide +kernel
theorem dL_law_8 : decode cL_law 8 = .ok (.new 10, 3) := by decide +kernel
theorem dL_law_11 : decode cL_law 11 = .ok (.dup, 1) := by decide +kernel
theorem dL_law_12 : decode cL_law 12 = .ok (.invokespecial 12, 3) := by decide +kernel
theorem dL_law_15 : decode cL_law 15 = .ok (.astore_n 2, 1) := by decide +kernel
theorem dL_law_16 : decode cL_law 16 = .ok (.iconst 0, 1) := by decide +kernel
theorem dL_law_17 : decode cL_law 17 = .ok (.istore_n 3, 1) := by decide +kernel
theorem dL_law_18 : decode cL_law 18 = .ok (.iload_n 3, 1) := by decide +kernel
theorem dL_law_19 : decode cL_law 19 = .ok (.aload_n 0, 1) := by decide +kernel
theorem dL_law_20 : decode cL_law 20 = .ok (.arraylength, 1) := by decide +kernel
theorem dL_law_21 : decode cL_law 21 = .ok (.iconst 4, 1) := by decide +kernel
theorem dL_law_22 : decode cL_law 22 = .ok (.isub, 1) := by decide +kernel
theorem dL_law_23 : decode cL_law 23 = .ok (.if_icmp .gt 832, 3) := by decide +kernel
theorem dL_law_26 : decode cL_law 26 = .ok (.aload_n 0, 1) := by decide +kernel
theorem dL_law_27 : decode cL_law 27 = .ok (.iload_n 3, 1) := by decide +kernel
theorem dL_law_28 : decode cL_law 28 = .ok (.iaload, 1) := by decide +kernel
theorem dL_law_29 : decode cL_law 29 = .ok (.bipush 31, 2) := by decide +kernel
theorem dL_law_31 : decode cL_law 31 = .ok (.iand, 1) := by decide +kernel
theorem dL_law_32 : decode cL_law 32 = .ok (.tableswitch 817 0 21 #[104, 167, 180, 193, 216, 249, 292, 335, 378, 437, 460, 493, 536, 579, 612, 635, 668, 691, 724, 748, 781, 794], 104) := by decide +kernel
theorem dL_law_136 : decode cL_law 136 = .ok (.aload_n 1, 1) := by decide +kernel
theorem dL_law_137 : decode cL_law 137 = .ok (.aload_n 0, 1) := by decide +kernel
theorem dL_law_138 : decode cL_law 138 = .ok (.iload_n 3, 1) := by decide +kernel
theorem dL_law_139 : decode cL_law 139 = .ok (.iconst 1, 1) := by decide +kernel
theorem dL_law_140 : decode cL_law 140 = .ok (.iadd, 1) := by decide +kernel
theorem dL_law_141 : decode cL_law 141 = .ok (.iaload, 1) := by decide +kernel
theorem dL_law_142 : decode cL_law 142 = .ok (.i2l, 1) := by decide +kernel
theorem dL_law_143 : decode cL_law 143 = .ok (.bipush 32, 2) := by decide +kernel
theorem dL_law_145 : decode cL_law 145 = .ok (.lshl, 1) := by decide +kernel
theorem dL_law_146 : decode cL_law 146 = .ok (.aload_n 0, 1) := by decide +kernel
theorem dL_law_147 : decode cL_law 147 = .ok (.iload_n 3, 1) := by decide +kernel
theorem dL_law_148 : decode cL_law 148 = .ok (.iconst 2, 1) := by decide +kernel
theorem dL_law_149 : decode cL_law 149 = .ok (.iadd, 1) := by decide +kernel
theorem dL_law_150 : decode cL_law 150 = .ok (.iaload, 1) := by decide +kernel
theorem dL_law_151 : decode cL_law 151 = .ok (.i2l, 1) := by decide +kernel
theorem dL_law_152 : decode cL_law 152 = .ok (.ldc2_w 13, 3) := by decide +kernel
theorem dL_law_155 : decode cL_law 155 = .ok (.land, 1) := by decide +kernel
theorem dL_law_156 : decode cL_law 156 = .ok (.lor, 1) := by decide +kernel
theorem dL_law_157 : decode cL_law 157 = .ok (.aload_n 0, 1) := by decide +kernel
theorem dL_law_158 : decode cL_law 158 = .ok (.iload_n 3, 1) := by decide +kernel
theorem dL_law_159 : decode cL_law 159 = .ok (.iconst 3, 1) := by decide +kernel
theorem dL_law_160 : decode cL_law 160 = .ok (.iadd, 1) := by decide +kernel
theorem dL_law_161 : decode cL_law 161 = .ok (.iaload, 1) := by decide +kernel
theorem dL_law_162 : decode cL_law 162 = .ok (.invokevirtual 15, 3) := by decide +kernel
theorem dL_law_165 : decode cL_law 165 = .ok (.aload_n 2, 1) := by decide +kernel
theorem dL_law_166 : decode cL_law 166 = .ok (.aload_n 0, 1) := by decide +kernel
theorem dL_law_167 : decode cL_law 167 = .ok (.iload_n 3, 1) := by decide +kernel
theorem dL_law_168 : decode cL_law 168 = .ok (.iconst 1, 1) := by decide +kernel
theorem dL_law_169 : decode cL_law 169 = .ok (.iadd, 1) := by decide +kernel
theorem dL_law_170 : decode cL_law 170 = .ok (.iaload, 1) := by decide +kernel
theorem dL_law_171 : decode cL_law 171 = .ok (.i2l, 1) := by decide +kernel
theorem dL_law_172 : decode cL_law 172 = .ok (.bipush 32, 2) := by decide +kernel
theorem dL_law_174 : decode cL_law 174 = .ok (.lshl, 1) := by decide +kernel
theorem dL_law_175 : decode cL_law 175 = .ok (.aload_n 0, 1) := by decide +kernel
theorem dL_law_176 : decode cL_law 176 = .ok (.iload_n 3, 1) := by decide +kernel
theorem dL_law_177 : decode cL_law 177 = .ok (.iconst 2, 1) := by decide +kernel
theorem dL_law_178 : decode cL_law 178 = .ok (.iadd, 1) := by decide +kernel
theorem dL_law_179 : decode cL_law 179 = .ok (.iaload, 1) := by decide +kernel
theorem dL_law_180 : decode cL_law 180 = .ok (.i2l, 1) := by decide +kernel
theorem dL_law_181 : decode cL_law 181 = .ok (.ldc2_w 13, 3) := by decide +kernel
theorem dL_law_184 : decode cL_law 184 = .ok (.land, 1) := by decide +kernel
theorem dL_law_185 : decode cL_law 185 = .ok (.lor, 1) := by decide +kernel
theorem dL_law_186 : decode cL_law 186 = .ok (.aload_n 0, 1) := by decide +kernel
theorem dL_law_187 : decode cL_law 187 = .ok (.iload_n 3, 1) := by decide +kernel
theorem dL_law_188 : decode cL_law 188 = .ok (.iconst 3, 1) := by decide +kernel
theorem dL_law_189 : decode cL_law 189 = .ok (.iadd, 1) := by decide +kernel
theorem dL_law_190 : decode cL_law 190 = .ok (.iaload, 1) := by decide +kernel
theorem dL_law_191 : decode cL_law 191 = .ok (.invokevirtual 19, 3) := by decide +kernel
theorem dL_law_194 : decode cL_law 194 = .ok (.if_icmp .eq 655, 3) := by decide +kernel
theorem dL_law_197 : decode cL_law 197 = .ok (.iconst 0, 1) := by decide +kernel
theorem dL_law_198 : decode cL_law 198 = .ok (.ireturn, 1) := by decide +kernel
theorem dL_law_199 : decode cL_law 199 = .ok (.aload_n 1, 1) := by decide +kernel
theorem dL_law_200 : decode cL_law 200 = .ok (.invokevirtual 20, 3) := by decide +kernel
theorem dL_law_203 : decode cL_law 203 = .ok (.aload_n 2, 1) := by decide +kernel
theorem dL_law_204 : decode cL_law 204 = .ok (.invokevirtual 24, 3) := by decide +kernel
theorem dL_law_207 : decode cL_law 207 = .ok (.if_icmp .eq 642, 3) := by decide +kernel
theorem dL_law_210 : decode cL_law 210 = .ok (.iconst 0, 1) := by decide +kernel
theorem dL_law_211 : decode cL_law 211 = .ok (.ireturn, 1) := by decide +kernel
theorem dL_law_212 : decode cL_law 212 = .ok (.aload_n 1, 1) := by decide +kernel
theorem dL_law_213 : decode cL_law 213 = .ok (.invokevirtual 25, 3) := by decide +kernel
theorem dL_law_216 : decode cL_law 216 = .ok (.aload_n 2, 1) := by decide +kernel
theorem dL_law_217 : decode cL_law 217 = .ok (.invokevirtual 28, 3) := by decide +kernel
theorem dL_law_220 : decode cL_law 220 = .ok (.if_icmp .eq 629, 3) := by decide +kernel
theorem dL_law_223 : decode cL_law 223 = .ok (.iconst 0, 1) := by decide +kernel
theorem dL_law_224 : decode cL_law 224 = .ok (.ireturn, 1) := by decide +kernel
theorem dL_law_225 : decode cL_law 225 = .ok (.aload_n 1, 1) := by decide +kernel
theorem dL_law_226 : decode cL_law 226 = .ok (.aload_n 0, 1) := by decide +kernel
theorem dL_law_227 : decode cL_law 227 = .ok (.iload_n 3, 1) := by decide +kernel
theorem dL_law_228 : decode cL_law 228 = .ok (.iconst 1, 1) := by decide +kernel
theorem dL_law_229 : decode cL_law 229 = .ok (.iadd, 1) := by decide +kernel
theorem dL_law_230 : decode cL_law 230 = .ok (.iaload, 1) := by decide +kernel
theorem dL_law_231 : decode cL_law 231 = .ok (.invokevirtual 29, 3) := by decide +kernel
theorem dL_law_234 : decode cL_law 234 = .ok (.aload_n 2, 1) := by decide +kernel
theorem dL_law_235 : decode cL_law 235 = .ok (.aload_n 0, 1) := by decide +kernel
theorem dL_law_236 : decode cL_law 236 = .ok (.iload_n 3, 1) := by decide +kernel
theorem dL_law_237 : decode cL_law 237 = .ok (.iconst 1, 1) := by decide +kernel
theorem dL_law_238 : decode cL_law 238 = .ok (.iadd, 1) := by decide +kernel
theorem dL_law_239 : decode cL_law 239 = .ok (.iaload, 1) := by decide +kernel
theorem dL_law_240 : decode cL_law 240 = .ok (.invokevirtual 33, 3) := by decide +kernel
theorem dL_law_243 : decode cL_law 243 = .ok (.if_icmp .eq 606, 3) := by decide +kernel
theorem dL_law_246 : decode cL_law 246 = .ok (.iconst 0, 1) := by decide +kernel
theorem dL_law_247 : decode cL_law 247 = .ok (.ireturn, 1) := by decide +kernel
theorem dL_law_248 : decode cL_law 248 = .ok (.aload_n 1, 1) := by decide +kernel
theorem dL_law_249 : decode cL_law 249 = .ok (.aload_n 0, 1) := by decide +kernel
theorem dL_law_250 : decode cL_law 250 = .ok (.iload_n 3, 1) := by decide +kernel
theorem dL_law_251 : decode cL_law 251 = .ok (.iconst 1, 1) := by decide +kernel
theorem dL_law_252 : decode cL_law 252 = .ok (.iadd, 1) := by decide +kernel
theorem dL_law_253 : decode cL_law 253 = .ok (.iaload, 1) := by decide +kernel
theorem dL_law_254 : decode cL_law 254 = .ok (.aload_n 0, 1) := by decide +kernel
theorem dL_law_255 : decode cL_law 255 = .ok (.iload_n 3, 1) := by decide +kernel
theorem dL_law_256 : decode cL_law 256 = .ok (.iconst 2, 1) := by decide +kernel
theorem dL_law_257 : decode cL_law 257 = .ok (.iadd, 1) := by decide +kernel
theorem dL_law_258 : decode cL_law 258 = .ok (.iaload, 1) := by decide +kernel
theorem dL_law_259 : decode cL_law 259 = .ok (.invokevirtual 34, 3) := by decide +kernel
theorem dL_law_262 : decode cL_law 262 = .ok (.aload_n 2, 1) := by decide +kernel
theorem dL_law_263 : decode cL_law 263 = .ok (.aload_n 0, 1) := by decide +kernel
