theorem dX8_follow_122 : decode cX8_follow 122 = .ok (.if_icmp .eq 8, 3) := by decide +kernel
theorem dX8_follow_125 : decode cX8_follow 125 = .ok (.aload_n 0, 1) := by decide +kernel
theorem dX8_follow_126 : decode cX8_follow 126 = .ok (.iconst 0, 1) := by decide +kernel
theorem dX8_follow_127 : decode cX8_follow 127 = .ok (.putfield 9, 3) := by decide +kernel
theorem dX8_follow_130 : decode cX8_follow 130 = .ok (.iload 6, 2) := by decide +kernel
theorem dX8_follow_132 : decode cX8_follow 132 = .ok (.ireturn, 1) := by decide +kernel
theorem dX8_begin_0 : decode cX8_begin 0 = .ok (.aload_n 0, 1) := by decide +kernel
theorem dX8_begin_1 : decode cX8_begin 1 = .ok (.aload_n 1, 1) := by decide +kernel
theorem dX8_begin_2 : decode cX8_begin 2 = .ok (.putfield 46, 3) := by decide +kernel
theorem dX8_begin_5 : decode cX8_begin 5 = .ok (.aload_n 0, 1) := by decide +kernel
theorem dX8_begin_6 : decode cX8_begin 6 = .ok (.iload_n 2, 1) := by decide +kernel
theorem dX8_begin_7 : decode cX8_begin 7 = .ok (.putfield 50, 3) := by decide +kernel
theorem dX8_begin_10 : decode cX8_begin 10 = .ok (.aload_n 0, 1) := by decide +kernel
theorem dX8_begin_11 : decode cX8_begin 11 = .ok (.iconst 0, 1) := by decide +kernel
theorem dX8_begin_12 : decode cX8_begin 12 = .ok (.putfield 9, 3) := by decide +kernel
theorem dX8_begin_15 : decode cX8_begin 15 = .ok (.aload_n 0, 1) := by decide +kernel
theorem dX8_begin_16 : decode cX8_begin 16 = .ok (.iconst 0, 1) := by decide +kernel
theorem dX8_begin_17 : decode cX8_begin 17 = .ok (.putfield 15, 3) := by decide +kernel
theorem dX8_begin_20 : decode cX8_begin 20 = .ok (.aload_n 0, 1) := by decide +kernel
theorem dX8_begin_21 : decode cX8_begin 21 = .ok (.iconst 0, 1) := by decide +kernel
theorem dX8_begin_22 : decode cX8_begin 22 = .ok (.putfield 18, 3) := by decide +kernel
theorem dX8_begin_25 : decode cX8_begin 25 = .ok (.aload_n 0, 1) := by decide +kernel
theorem dX8_begin_26 : decode cX8_begin 26 = .ok (.iconst 0, 1) := by decide +kernel
theorem dX8_begin_27 : decode cX8_begin 27 = .ok (.putfield 21, 3) := by decide +kernel
theorem dX8_begin_30 : decode cX8_begin 30 = .ok (.aload_n 0, 1) := by decide +kernel
theorem dX8_begin_31 : decode cX8_begin 31 = .ok (.iconst 0, 1) := by decide +kernel
theorem dX8_begin_32 : decode cX8_begin 32 = .ok (.putfield 24, 3) := by decide +kernel
theorem dX8_begin_35 : decode cX8_begin 35 = .ok (.aload_n 0, 1) := by decide +kernel
theorem dX8_begin_36 : decode cX8_begin 36 = .ok (.iconst 0, 1) := by decide +kernel
theorem dX8_begin_37 : decode cX8_begin 37 = .ok (.putfield 27, 3) := by decide +kernel
theorem dX8_begin_40 : decode cX8_begin 40 = .ok (.aload_n 0, 1) := by decide +kernel
theorem dX8_begin_41 : decode cX8_begin 41 = .ok (.iconst 0, 1) := by decide +kernel
theorem dX8_begin_42 : decode cX8_begin 42 = .ok (.putfield 30, 3) := by decide +kernel
theorem dX8_begin_45 : decode cX8_begin 45 = .ok (.return_, 1) := by decide +kernel
theorem dX8_runChosen_0 : decode cX8_runChosen 0 = .ok (.aload_n 0, 1) := by decide +kernel
theorem dX8_runChosen_1 : decode cX8_runChosen 1 = .ok (.aload_n 0, 1) := by decide +kernel
theorem dX8_runChosen_2 : decode cX8_runChosen 2 = .ok (.getfield 46, 3) := by decide +kernel
theorem dX8_runChosen_5 : decode cX8_runChosen 5 = .ok (.getfield 71, 3) := by decide +kernel
theorem dX8_runChosen_8 : decode cX8_runChosen 8 = .ok (.aload_n 1, 1) := by decide +kernel
theorem dX8_runChosen_9 : decode cX8_runChosen 9 = .ok (.invokevirtual 77, 3) := by decide +kernel
theorem dX8_runChosen_12 : decode cX8_runChosen 12 = .ok (.iload_n 2, 1) := by decide +kernel
theorem dX8_runChosen_13 : decode cX8_runChosen 13 = .ok (.invokevirtual 81, 3) := by decide +kernel
theorem dX8_runChosen_16 : decode cX8_runChosen 16 = .ok (.ireturn, 1) := by decide +kernel
theorem dX8_runBody_0 : decode cX8_runBody 0 = .ok (.iload_n 2, 1) := by decide +kernel
theorem dX8_runBody_1 : decode cX8_runBody 1 = .ok (.bipush 12, 2) := by decide +kernel
theorem dX8_runBody_3 : decode cX8_runBody 3 = .ok (.if_icmp .ge 15, 3) := by decide +kernel
theorem dX8_runBody_6 : decode cX8_runBody 6 = .ok (.aload_n 0, 1) := by decide +kernel
theorem dX8_runBody_7 : decode cX8_runBody 7 = .ok (.getfield 15, 3) := by decide +kernel
theorem dX8_runBody_10 : decode cX8_runBody 10 = .ok (.aload_n 0, 1) := by decide +kernel
theorem dX8_runBody_11 : decode cX8_runBody 11 = .ok (.getfield 33, 3) := by decide +kernel
theorem dX8_runBody_14 : decode cX8_runBody 14 = .ok (.arraylength, 1) := by decide +kernel
theorem dX8_runBody_15 : decode cX8_runBody 15 = .ok (.if_icmp .lt 5, 3) := by decide +kernel
theorem dX8_runBody_18 : decode cX8_runBody 18 = .ok (.iconst 3, 1) := by decide +kernel
theorem dX8_runBody_19 : decode cX8_runBody 19 = .ok (.ireturn, 1) := by decide +kernel
theorem dX8_runBody_20 : decode cX8_runBody 20 = .ok (.aload_n 1, 1) := by decide +kernel
theorem dX8_runBody_21 : decode cX8_runBody 21 = .ok (.ifnonnull 5, 3) := by decide +kernel
theorem dX8_runBody_24 : decode cX8_runBody 24 = .ok (.iconst 0, 1) := by decide +kernel
theorem dX8_runBody_25 : decode cX8_runBody 25 = .ok (.ireturn, 1) := by decide +kernel
theorem dX8_runBody_26 : decode cX8_runBody 26 = .ok (.aload_n 0, 1) := by decide +kernel
theorem dX8_runBody_27 : decode cX8_runBody 27 = .ok (.getfield 33, 3) := by decide +kernel
theorem dX8_runBody_30 : decode cX8_runBody 30 = .ok (.aload_n 0, 1) := by decide +kernel
theorem dX8_runBody_31 : decode cX8_runBody 31 = .ok (.getfield 15, 3) := by decide +kernel
theorem dX8_runBody_34 : decode cX8_runBody 34 = .ok (.aload_n 1, 1) := by decide +kernel
theorem dX8_runBody_35 : decode cX8_runBody 35 = .ok (.getfield 84, 3) := by decide +kernel
theorem dX8_runBody_38 : decode cX8_runBody 38 = .ok (.getfield 87, 3) := by decide +kernel
theorem dX8_runBody_41 : decode cX8_runBody 41 = .ok (.iastore, 1) := by decide +kernel
theorem dX8_runBody_42 : decode cX8_runBody 42 = .ok (.aload_n 0, 1) := by decide +kernel
theorem dX8_runBody_43 : decode cX8_runBody 43 = .ok (.getfield 37, 3) := by decide +kernel
theorem dX8_runBody_46 : decode cX8_runBody 46 = .ok (.aload_n 0, 1) := by decide +kernel
theorem dX8_runBody_47 : decode cX8_runBody 47 = .ok (.getfield 15, 3) := by decide +kernel
theorem dX8_runBody_50 : decode cX8_runBody 50 = .ok (.aload_n 1, 1) := by decide +kernel
theorem dX8_runBody_51 : decode cX8_runBody 51 = .ok (.getfield 88, 3) := by decide +kernel
theorem dX8_runBody_54 : decode cX8_runBody 54 = .ok (.iastore, 1) := by decide +kernel
theorem dX8_runBody_55 : decode cX8_runBody 55 = .ok (.aload_n 0, 1) := by decide +kernel
theorem dX8_runBody_56 : decode cX8_runBody 56 = .ok (.getfield 40, 3) := by decide +kernel
theorem dX8_runBody_59 : decode cX8_runBody 59 = .ok (.aload_n 0, 1) := by decide +kernel
theorem dX8_runBody_60 : decode cX8_runBody 60 = .ok (.getfield 15, 3) := by decide +kernel
theorem dX8_runBody_63 : decode cX8_runBody 63 = .ok (.iload_n 2, 1) := by decide +kernel
theorem dX8_runBody_64 : decode cX8_runBody 64 = .ok (.iastore, 1) := by decide +kernel
theorem dX8_runBody_65 : decode cX8_runBody 65 = .ok (.aload_n 0, 1) := by decide +kernel
theorem dX8_runBody_66 : decode cX8_runBody 66 = .ok (.dup, 1) := by decide +kernel
theorem dX8_runBody_67 : decode cX8_runBody 67 = .ok (.getfield 15, 3) := by decide +kernel
theorem dX8_runBody_70 : decode cX8_runBody 70 = .ok (.iconst 1, 1) := by decide +kernel
theorem dX8_runBody_71 : decode cX8_runBody 71 = .ok (.iadd, 1) := by decide +kernel
theorem dX8_runBody_72 : decode cX8_runBody 72 = .ok (.putfield 15, 3) := by decide +kernel
theorem dX8_runBody_75 : decode cX8_runBody 75 = .ok (.aload_n 0, 1) := by decide +kernel
theorem dX8_runBody_76 : decode cX8_runBody 76 = .ok (.aload_n 1, 1) := by decide +kernel
theorem dX8_runBody_77 : decode cX8_runBody 77 = .ok (.aload_n 1, 1) := by decide +kernel
theorem dX8_runBody_78 : decode cX8_runBody 78 = .ok (.getfield 91, 3) := by decide +kernel
theorem dX8_runBody_81 : decode cX8_runBody 81 = .ok (.iload_n 2, 1) := by decide +kernel
theorem dX8_runBody_82 : decode cX8_runBody 82 = .ok (.iconst 1, 1) := by decide +kernel
theorem dX8_runBody_83 : decode cX8_runBody 83 = .ok (.iadd, 1) := by decide +kernel
theorem dX8_runBody_84 : decode cX8_runBody 84 = .ok (.iconst 1, 1) := by decide +kernel
theorem dX8_runBody_85 : decode cX8_runBody 85 = .ok (.invokevirtual 95, 3) := by decide +kernel
theorem dX8_runBody_88 : decode cX8_runBody 88 = .ok (.ireturn, 1) := by decide +kernel
theorem dX8_runActions_0 : decode cX8_runActions 0 = .ok (.iload 4, 2) := by decide +kernel
theorem dX8_runActions_2 : decode cX8_runActions 2 = .ok (.bipush 6, 2) := by decide +kernel
theorem dX8_runActions_4 : decode cX8_runActions 4 = .ok (.if_icmp .le 7, 3) := by decide +kernel
theorem dX8_runActions_7 : decode cX8_runActions 7 = .ok (.iconst 3, 1) := by decide +kernel
theorem dX8_runActions_8 : decode cX8_runActions 8 = .ok (.goto 4, 3) := by decide +kernel
theorem dX8_runActions_11 : decode cX8_runActions 11 = .ok (.iconst 0, 1) := by decide +kernel
theorem dX8_runActions_12 : decode cX8_runActions 12 = .ok (.istore 5, 2) := by decide +kernel
theorem dX8_runActions_14 : decode cX8_runActions 14 = .ok (.aload_n 2, 1) := by decide +kernel
theorem dX8_runActions_15 : decode cX8_runActions 15 = .ok (.astore 6, 2) := by decide +kernel
theorem dX8_runActions_17 : decode cX8_runActions 17 = .ok (.aload 6, 2) := by decide +kernel
theorem dX8_runActions_19 : decode cX8_runActions 19 = .ok (.ifnull 52, 3) := by decide +kernel
theorem dX8_runActions_22 : decode cX8_runActions 22 = .ok (.iload 5, 2) := by decide +kernel
theorem dX8_runActions_24 : decode cX8_runActions 24 = .ok (.ifCond .ne 47, 3) := by decide +kernel
theorem dX8_runActions_27 : decode cX8_runActions 27 = .ok (.aload_n 0, 1) := by decide +kernel
theorem dX8_runActions_28 : decode cX8_runActions 28 = .ok (.getfield 21, 3) := by decide +kernel
theorem dX8_runActions_31 : decode cX8_runActions 31 = .ok (.sipush 400, 3) := by decide +kernel
theorem dX8_runActions_34 : decode cX8_runActions 34 = .ok (.if_icmp .lt 5, 3) := by decide +kernel
theorem dX8_runActions_37 : decode cX8_runActions 37 = .ok (.iconst 3, 1) := by decide +kernel
theorem dX8_runActions_38 : decode cX8_runActions 38 = .ok (.ireturn, 1) := by decide +kernel
theorem dX8_runActions_39 : decode cX8_runActions 39 = .ok (.aload_n 0, 1) := by decide +kernel
theorem dX8_runActions_40 : decode cX8_runActions 40 = .ok (.dup, 1) := by decide +kernel
theorem dX8_runActions_41 : decode cX8_runActions 41 = .ok (.getfield 21, 3) := by decide +kernel
theorem dX8_runActions_44 : decode cX8_runActions 44 = .ok (.iconst 1, 1) := by decide +kernel
theorem dX8_runActions_45 : decode cX8_runActions 45 = .ok (.iadd, 1) := by decide +kernel
theorem dX8_runActions_46 : decode cX8_runActions 46 = .ok (.putfield 21, 3) := by decide +kernel
theorem dX8_runActions_49 : decode cX8_runActions 49 = .ok (.aload_n 0, 1) := by decide +kernel
theorem dX8_runActions_50 : decode cX8_runActions 50 = .ok (.aload_n 1, 1) := by decide +kernel
theorem dX8_runActions_51 : decode cX8_runActions 51 = .ok (.aload 6, 2) := by decide +kernel
theorem dX8_runActions_53 : decode cX8_runActions 53 = .ok (.iload_n 3, 1) := by decide +kernel
theorem dX8_runActions_54 : decode cX8_runActions 54 = .ok (.iload 4, 2) := by decide +kernel
theorem dX8_runActions_56 : decode cX8_runActions 56 = .ok (.invokevirtual 99, 3) := by decide +kernel
theorem dX8_runActions_59 : decode cX8_runActions 59 = .ok (.istore 5, 2) := by decide +kernel
theorem dX8_runActions_61 : decode cX8_runActions 61 = .ok (.aload 6, 2) := by decide +kernel
theorem dX8_runActions_63 : decode cX8_runActions 63 = .ok (.getfield 102, 3) := by decide +kernel
theorem dX8_runActions_66 : decode cX8_runActions 66 = .ok (.astore 6, 2) := by decide +kernel
theorem dX8_runActions_68 : decode cX8_runActions 68 = .ok (.goto (-51), 3) := by decide +kernel
theorem dX8_runActions_71 : decode cX8_runActions 71 = .ok (.iload 5, 2) := by decide +kernel
theorem dX8_runActions_73 : decode cX8_runActions 73 = .ok (.ireturn, 1) := by decide +kernel
theorem dX8_runAction_0 : decode cX8_runAction 0 = .ok (.aload_n 2, 1) := by decide +kernel
theorem dX8_runAction_1 : decode cX8_runAction 1 = .ok (.getfield 107, 3) := by decide +kernel
theorem dX8_runAction_4 : decode cX8_runAction 4 = .ok (.iconst (-1), 1) := by decide +kernel
theorem dX8_runAction_5 : decode cX8_runAction 5 = .ok (.if_icmp .ne 10, 3) := by decide +kernel
theorem dX8_runAction_8 : decode cX8_runAction 8 = .ok (.aload_n 0, 1) := by decide +kernel
theorem dX8_runAction_9 : decode cX8_runAction 9 = .ok (.getfield 50, 3) := by decide +kernel
theorem dX8_runAction_12 : decode cX8_runAction 12 = .ok (.goto 7, 3) := by decide +kernel
theorem dX8_runAction_15 : decode cX8_runAction 15 = .ok (.aload_n 2, 1) := by decide +kernel
theorem dX8_runAction_16 : decode cX8_runAction 16 = .ok (.getfield 107, 3) := by decide +kernel
theorem dX8_runAction_19 : decode cX8_runAction 19 = .ok (.istore 5, 2) := by decide +kernel
theorem dX8_runAction_21 : decode cX8_runAction 21 = .ok (.aload_n 2, 1) := by decide +kernel
theorem dX8_runAction_22 : decode cX8_runAction 22 = .ok (.getfield 108, 3) := by decide +kernel
theorem dX8_runAction_25 : decode cX8_runAction 25 = .ok (.tableswitch 215 13 22 #[55, 79, 100, 107, 114, 121, 128, 135, 142, 173], 55) := by decide +kernel
theorem dX8_runAction_80 : decode cX8_runAction 80 = .ok (.aload_n 0, 1) := by decide +kernel
theorem dX8_runAction_81 : decode cX8_runAction 81 = .ok (.aload_n 1, 1) := by decide +kernel
theorem dX8_runAction_82 : decode cX8_runAction 82 = .ok (.getfield 84, 3) := by decide +kernel
theorem dX8_runAction_85 : decode cX8_runAction 85 = .ok (.aload_n 1, 1) := by decide +kernel
theorem dX8_runAction_86 : decode cX8_runAction 86 = .ok (.getfield 88, 3) := by decide +kernel
theorem dX8_runAction_89 : decode cX8_runAction 89 = .ok (.aload_n 1, 1) := by decide +kernel
theorem dX8_runAction_90 : decode cX8_runAction 90 = .ok (.getfield 84, 3) := by decide +kernel
theorem dX8_runAction_93 : decode cX8_runAction 93 = .ok (.getfield 111, 3) := by decide +kernel
theorem dX8_runAction_96 : decode cX8_runAction 96 = .ok (.invokevirtual 114, 3) := by decide +kernel
theorem dX8_runAction_99 : decode cX8_runAction 99 = .ok (.iload_n 3, 1) := by decide +kernel
theorem dX8_runAction_100 : decode cX8_runAction 100 = .ok (.invokevirtual 81, 3) := by decide +kernel
theorem dX8_runAction_103 : decode cX8_runAction 103 = .ok (.ireturn, 1) := by decide +kernel
theorem dX8_runAction_104 : decode cX8_runAction 104 = .ok (.aload_n 0, 1) := by decide +kernel
theorem dX8_runAction_105 : decode cX8_runAction 105 = .ok (.aload_n 1, 1) := by decide +kernel
theorem dX8_runAction_106 : decode cX8_runAction 106 = .ok (.getfield 84, 3) := by decide +kernel
theorem dX8_runAction_109 : decode cX8_runAction 109 = .ok (.aload_n 2, 1) := by decide +kernel
theorem dX8_runAction_110 : decode cX8_runAction 110 = .ok (.getfield 107, 3) := by decide +kernel
theorem dX8_runAction_113 : decode cX8_runAction 113 = .ok (.aload_n 1, 1) := by decide +kernel
theorem dX8_runAction_114 : decode cX8_runAction 114 = .ok (.getfield 84, 3) := by decide +kernel
theorem dX8_runAction_117 : decode cX8_runAction 117 = .ok (.invokevirtual 114, 3) := by decide +kernel
theorem dX8_runAction_120 : decode cX8_runAction 120 = .ok (.iload_n 3, 1) := by decide +kernel
theorem dX8_runAction_121 : decode cX8_runAction 121 = .ok (.invokevirtual 67, 3) := by decide +kernel
theorem dX8_runAction_124 : decode cX8_runAction 124 = .ok (.ireturn, 1) := by decide +kernel
theorem dX8_runAction_125 : decode cX8_runAction 125 = .ok (.aload_n 0, 1) := by decide +kernel
theorem dX8_runAction_126 : decode cX8_runAction 126 = .ok (.iload 5, 2) := by decide +kernel
theorem dX8_runAction_128 : decode cX8_runAction 128 = .ok (.invokevirtual 118, 3) := by decide +kernel
theorem dX8_runAction_131 : decode cX8_runAction 131 = .ok (.ireturn, 1) := by decide +kernel
theorem dX8_runAction_132 : decode cX8_runAction 132 = .ok (.aload_n 0, 1) := by decide +kernel
theorem dX8_runAction_133 : decode cX8_runAction 133 = .ok (.iload 5, 2) := by decide +kernel
theorem dX8_runAction_135 : decode cX8_runAction 135 = .ok (.invokevirtual 122, 3) := by decide +kernel
theorem dX8_runAction_138 : decode cX8_runAction 138 = .ok (.ireturn, 1) := by decide +kernel
theorem dX8_runAction_139 : decode cX8_runAction 139 = .ok (.aload_n 0, 1) := by decide +kernel
theorem dX8_runAction_140 : decode cX8_runAction 140 = .ok (.iload 5, 2) := by decide +kernel
theorem dX8_runAction_142 : decode cX8_runAction 142 = .ok (.invokevirtual 125, 3) := by decide +kernel
theorem dX8_runAction_145 : decode cX8_runAction 145 = .ok (.ireturn, 1) := by decide +kernel
theorem dX8_runAction_146 : decode cX8_runAction 146 = .ok (.aload_n 0, 1) := by decide +kernel
theorem dX8_runAction_147 : decode cX8_runAction 147 = .ok (.iload 5, 2) := by decide +kernel
theorem dX8_runAction_149 : decode cX8_runAction 149 = .ok (.invokevirtual 128, 3) := by decide +kernel
theorem dX8_runAction_152 : decode cX8_runAction 152 = .ok (.ireturn, 1) := by decide +kernel
theorem dX8_runAction_153 : decode cX8_runAction 153 = .ok (.aload_n 0, 1) := by decide +kernel
theorem dX8_runAction_154 : decode cX8_runAction 154 = .ok (.iload 5, 2) := by decide +kernel
theorem dX8_runAction_156 : decode cX8_runAction 156 = .ok (.invokevirtual 131, 3) := by decide +kernel
theorem dX8_runAction_159 : decode cX8_runAction 159 = .ok (.ireturn, 1) := by decide +kernel
theorem dX8_runAction_160 : decode cX8_runAction 160 = .ok (.aload_n 0, 1) := by decide +kernel
theorem dX8_runAction_161 : decode cX8_runAction 161 = .ok (.iload 5, 2) := by decide +kernel
theorem dX8_runAction_163 : decode cX8_runAction 163 = .ok (.invokevirtual 134, 3) := by decide +kernel
theorem dX8_runAction_166 : decode cX8_runAction 166 = .ok (.ireturn, 1) := by decide +kernel
theorem dX8_runAction_167 : decode cX8_runAction 167 = .ok (.aload_n 0, 1) := by decide +kernel
theorem dX8_runAction_168 : decode cX8_runAction 168 = .ok (.aload_n 1, 1) := by decide +kernel
theorem dX8_runAction_169 : decode cX8_runAction 169 = .ok (.aload_n 0, 1) := by decide +kernel
theorem dX8_runAction_170 : decode cX8_runAction 170 = .ok (.getfield 50, 3) := by decide +kernel
theorem dX8_runAction_173 : decode cX8_runAction 173 = .ok (.iload 5, 2) := by decide +kernel
theorem dX8_runAction_175 : decode cX8_runAction 175 = .ok (.if_icmp .ge 10, 3) := by decide +kernel
theorem dX8_runAction_178 : decode cX8_runAction 178 = .ok (.aload_n 2, 1) := by decide +kernel
theorem dX8_runAction_179 : decode cX8_runAction 179 = .ok (.getfield 137, 3) := by decide +kernel
theorem dX8_runAction_182 : decode cX8_runAction 182 = .ok (.goto 7, 3) := by decide +kernel
theorem dX8_runAction_185 : decode cX8_runAction 185 = .ok (.aload_n 2, 1) := by decide +kernel
theorem dX8_runAction_186 : decode cX8_runAction 186 = .ok (.getfield 140, 3) := by decide +kernel
theorem dX8_runAction_189 : decode cX8_runAction 189 = .ok (.iload_n 3, 1) := by decide +kernel
theorem dX8_runAction_190 : decode cX8_runAction 190 = .ok (.iload 4, 2) := by decide +kernel
theorem dX8_runAction_192 : decode cX8_runAction 192 = .ok (.iconst 1, 1) := by decide +kernel
theorem dX8_runAction_193 : decode cX8_runAction 193 = .ok (.iadd, 1) := by decide +kernel
theorem dX8_runAction_194 : decode cX8_runAction 194 = .ok (.invokevirtual 95, 3) := by decide +kernel
theorem dX8_runAction_197 : decode cX8_runAction 197 = .ok (.ireturn, 1) := by decide +kernel
theorem dX8_runAction_198 : decode cX8_runAction 198 = .ok (.aload_n 0, 1) := by decide +kernel
theorem dX8_runAction_199 : decode cX8_runAction 199 = .ok (.aload_n 1, 1) := by decide +kernel
theorem dX8_runAction_200 : decode cX8_runAction 200 = .ok (.aload_n 2, 1) := by decide +kernel
theorem dX8_runAction_201 : decode cX8_runAction 201 = .ok (.getfield 137, 3) := by decide +kernel
theorem dX8_runAction_204 : decode cX8_runAction 204 = .ok (.iload_n 3, 1) := by decide +kernel
theorem dX8_runAction_205 : decode cX8_runAction 205 = .ok (.iload 4, 2) := by decide +kernel
theorem dX8_runAction_207 : decode cX8_runAction 207 = .ok (.iconst 1, 1) := by decide +kernel
theorem dX8_runAction_208 : decode cX8_runAction 208 = .ok (.iadd, 1) := by decide +kernel
theorem dX8_runAction_209 : decode cX8_runAction 209 = .ok (.invokevirtual 95, 3) := by decide +kernel
theorem dX8_runAction_212 : decode cX8_runAction 212 = .ok (.istore 6, 2) := by decide +kernel
theorem dX8_runAction_214 : decode cX8_runAction 214 = .ok (.iload 6, 2) := by decide +kernel
theorem dX8_runAction_216 : decode cX8_runAction 216 = .ok (.iconst 2, 1) := by decide +kernel
theorem dX8_runAction_217 : decode cX8_runAction 217 = .ok (.if_icmp .ne 20, 3) := by decide +kernel
theorem dX8_runAction_220 : decode cX8_runAction 220 = .ok (.aload_n 0, 1) := by decide +kernel
theorem dX8_runAction_221 : decode cX8_runAction 221 = .ok (.aload_n 1, 1) := by decide +kernel
theorem dX8_runAction_222 : decode cX8_runAction 222 = .ok (.aload_n 2, 1) := by decide +kernel
theorem dX8_runAction_223 : decode cX8_runAction 223 = .ok (.getfield 140, 3) := by decide +kernel
theorem dX8_runAction_226 : decode cX8_runAction 226 = .ok (.iload_n 3, 1) := by decide +kernel
theorem dX8_runAction_227 : decode cX8_runAction 227 = .ok (.iload 4, 2) := by decide +kernel
theorem dX8_runAction_229 : decode cX8_runAction 229 = .ok (.iconst 1, 1) := by decide +kernel
theorem dX8_runAction_230 : decode cX8_runAction 230 = .ok (.iadd, 1) := by decide +kernel
theorem dX8_runAction_231 : decode cX8_runAction 231 = .ok (.invokevirtual 95, 3) := by decide +kernel
theorem dX8_runAction_234 : decode cX8_runAction 234 = .ok (.goto 5, 3) := by decide +kernel
theorem dX8_runAction_237 : decode cX8_runAction 237 = .ok (.iload 6, 2) := by decide +kernel
theorem dX8_runAction_239 : decode cX8_runAction 239 = .ok (.ireturn, 1) := by decide +kernel
theorem dX8_runAction_240 : decode cX8_runAction 240 = .ok (.iconst 0, 1) := by decide +kernel
theorem dX8_runAction_241 : decode cX8_runAction 241 = .ok (.ireturn, 1) := by decide +kernel
theorem dX8_sayNumber_0 : decode cX8_sayNumber 0 = .ok (.aload_n 0, 1) := by decide +kernel
theorem dX8_sayNumber_1 : decode cX8_sayNumber 1 = .ok (.getfield 18, 3) := by decide +kernel
theorem dX8_sayNumber_4 : decode cX8_sayNumber 4 = .ok (.aload_n 0, 1) := by decide +kernel
theorem dX8_sayNumber_5 : decode cX8_sayNumber 5 = .ok (.getfield 43, 3) := by decide +kernel
theorem dX8_sayNumber_8 : decode cX8_sayNumber 8 = .ok (.arraylength, 1) := by decide +kernel
theorem dX8_sayNumber_9 : decode cX8_sayNumber 9 = .ok (.if_icmp .ge 23, 3) := by decide +kernel
theorem dX8_sayNumber_12 : decode cX8_sayNumber 12 = .ok (.aload_n 0, 1) := by decide +kernel
theorem dX8_sayNumber_13 : decode cX8_sayNumber 13 = .ok (.getfield 43, 3) := by decide +kernel
theorem dX8_sayNumber_16 : decode cX8_sayNumber 16 = .ok (.aload_n 0, 1) := by decide +kernel
theorem dX8_sayNumber_17 : decode cX8_sayNumber 17 = .ok (.getfield 18, 3) := by decide +kernel
theorem dX8_sayNumber_20 : decode cX8_sayNumber 20 = .ok (.iload_n 1, 1) := by decide +kernel
theorem dX8_sayNumber_21 : decode cX8_sayNumber 21 = .ok (.iastore, 1) := by decide +kernel
theorem dX8_sayNumber_22 : decode cX8_sayNumber 22 = .ok (.aload_n 0, 1) := by decide +kernel
theorem dX8_sayNumber_23 : decode cX8_sayNumber 23 = .ok (.dup, 1) := by decide +kernel
theorem dX8_sayNumber_24 : decode cX8_sayNumber 24 = .ok (.getfield 18, 3) := by decide +kernel
theorem dX8_sayNumber_27 : decode cX8_sayNumber 27 = .ok (.iconst 1, 1) := by decide +kernel
theorem dX8_sayNumber_28 : decode cX8_sayNumber 28 = .ok (.iadd, 1) := by decide +kernel
theorem dX8_sayNumber_29 : decode cX8_sayNumber 29 = .ok (.putfield 18, 3) := by decide +kernel
theorem dX8_sayNumber_32 : decode cX8_sayNumber 32 = .ok (.iconst 0, 1) := by decide +kernel
theorem dX8_sayNumber_33 : decode cX8_sayNumber 33 = .ok (.ireturn, 1) := by decide +kernel
theorem dX8_addWater_0 : decode cX8_addWater 0 = .ok (.aload_n 0, 1) := by decide +kernel
theorem dX8_addWater_1 : decode cX8_addWater 1 = .ok (.getfield 46, 3) := by decide +kernel
theorem dX8_addWater_4 : decode cX8_addWater 4 = .ok (.iload_n 1, 1) := by decide +kernel
theorem dX8_addWater_5 : decode cX8_addWater 5 = .ok (.iconst 0, 1) := by decide +kernel
theorem dX8_addWater_6 : decode cX8_addWater 6 = .ok (.invokevirtual 143, 3) := by decide +kernel
theorem dX8_addWater_9 : decode cX8_addWater 9 = .ok (.ifCond .ne 11, 3) := by decide +kernel
theorem dX8_addWater_12 : decode cX8_addWater 12 = .ok (.aload_n 0, 1) := by decide +kernel
theorem dX8_addWater_13 : decode cX8_addWater 13 = .ok (.sipush 1001, 3) := by decide +kernel
theorem dX8_addWater_16 : decode cX8_addWater 16 = .ok (.invokevirtual 131, 3) := by decide +kernel
theorem dX8_addWater_19 : decode cX8_addWater 19 = .ok (.ireturn, 1) := by decide +kernel
theorem dX8_addWater_20 : decode cX8_addWater 20 = .ok (.aload_n 0, 1) := by decide +kernel
theorem dX8_addWater_21 : decode cX8_addWater 21 = .ok (.getfield 46, 3) := by decide +kernel
theorem dX8_addWater_24 : decode cX8_addWater 24 = .ok (.dup, 1) := by decide +kernel
theorem dX8_addWater_25 : decode cX8_addWater 25 = .ok (.getfield 147, 3) := by decide +kernel
theorem dX8_addWater_28 : decode cX8_addWater 28 = .ok (.iload_n 1, 1) := by decide +kernel
theorem dX8_addWater_29 : decode cX8_addWater 29 = .ok (.iadd, 1) := by decide +kernel
theorem dX8_addWater_30 : decode cX8_addWater 30 = .ok (.putfield 147, 3) := by decide +kernel
theorem dX8_addWater_33 : decode cX8_addWater 33 = .ok (.aload_n 0, 1) := by decide +kernel
theorem dX8_addWater_34 : decode cX8_addWater 34 = .ok (.dup, 1) := by decide +kernel
theorem dX8_addWater_35 : decode cX8_addWater 35 = .ok (.getfield 24, 3) := by decide +kernel
theorem dX8_addWater_38 : decode cX8_addWater 38 = .ok (.iload_n 1, 1) := by decide +kernel
theorem dX8_addWater_39 : decode cX8_addWater 39 = .ok (.iadd, 1) := by decide +kernel
theorem dX8_addWater_40 : decode cX8_addWater 40 = .ok (.putfield 24, 3) := by decide +kernel
theorem dX8_addWater_43 : decode cX8_addWater 43 = .ok (.iconst 0, 1) := by decide +kernel
theorem dX8_addWater_44 : decode cX8_addWater 44 = .ok (.ireturn, 1) := by decide +kernel
theorem dX8_takeWater_0 : decode cX8_takeWater 0 = .ok (.iload_n 1, 1) := by decide +kernel
theorem dX8_takeWater_1 : decode cX8_takeWater 1 = .ok (.aload_n 0, 1) := by decide +kernel
theorem dX8_takeWater_2 : decode cX8_takeWater 2 = .ok (.getfield 46, 3) := by decide +kernel
theorem dX8_takeWater_5 : decode cX8_takeWater 5 = .ok (.getfield 147, 3) := by decide +kernel
theorem dX8_takeWater_8 : decode cX8_takeWater 8 = .ok (.if_icmp .le 11, 3) := by decide +kernel
theorem dX8_takeWater_11 : decode cX8_takeWater 11 = .ok (.aload_n 0, 1) := by decide +kernel
theorem dX8_takeWater_12 : decode cX8_takeWater 12 = .ok (.sipush 1000, 3) := by decide +kernel
theorem dX8_takeWater_15 : decode cX8_takeWater 15 = .ok (.invokevirtual 131, 3) := by decide +kernel
theorem dX8_takeWater_18 : decode cX8_takeWater 18 = .ok (.ireturn, 1) := by decide +kernel
theorem dX8_takeWater_19 : decode cX8_takeWater 19 = .ok (.aload_n 0, 1) := by decide +kernel
theorem dX8_takeWater_20 : decode cX8_takeWater 20 = .ok (.getfield 46, 3) := by decide +kernel
theorem dX8_takeWater_23 : decode cX8_takeWater 23 = .ok (.dup, 1) := by decide +kernel
theorem dX8_takeWater_24 : decode cX8_takeWater 24 = .ok (.getfield 147, 3) := by decide +kernel
theorem dX8_takeWater_27 : decode cX8_takeWater 27 = .ok (.iload_n 1, 1) := by decide +kernel
theorem dX8_takeWater_28 : decode cX8_takeWater 28 = .ok (.isub, 1) := by decide +kernel
theorem dX8_takeWater_29 : decode cX8_takeWater 29 = .ok (.putfield 147, 3) := by decide +kernel
theorem dX8_takeWater_32 : decode cX8_takeWater 32 = .ok (.aload_n 0, 1) := by decide +kernel
theorem dX8_takeWater_33 : decode cX8_takeWater 33 = .ok (.dup, 1) := by decide +kernel
theorem dX8_takeWater_34 : decode cX8_takeWater 34 = .ok (.getfield 27, 3) := by decide +kernel
theorem dX8_takeWater_37 : decode cX8_takeWater 37 = .ok (.iload_n 1, 1) := by decide +kernel
theorem dX8_takeWater_38 : decode cX8_takeWater 38 = .ok (.iadd, 1) := by decide +kernel
theorem dX8_takeWater_39 : decode cX8_takeWater 39 = .ok (.putfield 27, 3) := by decide +kernel
theorem dX8_takeWater_42 : decode cX8_takeWater 42 = .ok (.iconst 0, 1) := by decide +kernel
theorem dX8_takeWater_43 : decode cX8_takeWater 43 = .ok (.ireturn, 1) := by decide +kernel
theorem dX8_addHeat_0 : decode cX8_addHeat 0 = .ok (.aload_n 0, 1) := by decide +kernel
theorem dX8_addHeat_1 : decode cX8_addHeat 1 = .ok (.getfield 46, 3) := by decide +kernel
theorem dX8_addHeat_4 : decode cX8_addHeat 4 = .ok (.iconst 0, 1) := by decide +kernel
theorem dX8_addHeat_5 : decode cX8_addHeat 5 = .ok (.iload_n 1, 1) := by decide +kernel
theorem dX8_addHeat_6 : decode cX8_addHeat 6 = .ok (.invokevirtual 143, 3) := by decide +kernel
theorem dX8_addHeat_9 : decode cX8_addHeat 9 = .ok (.ifCond .ne 11, 3) := by decide +kernel
theorem dX8_addHeat_12 : decode cX8_addHeat 12 = .ok (.aload_n 0, 1) := by decide +kernel
theorem dX8_addHeat_13 : decode cX8_addHeat 13 = .ok (.sipush 1002, 3) := by decide +kernel
theorem dX8_addHeat_16 : decode cX8_addHeat 16 = .ok (.invokevirtual 131, 3) := by decide +kernel
theorem dX8_addHeat_19 : decode cX8_addHeat 19 = .ok (.ireturn, 1) := by decide +kernel
theorem dX8_addHeat_20 : decode cX8_addHeat 20 = .ok (.aload_n 0, 1) := by decide +kernel
theorem dX8_addHeat_21 : decode cX8_addHeat 21 = .ok (.getfield 46, 3) := by decide +kernel
theorem dX8_addHeat_24 : decode cX8_addHeat 24 = .ok (.dup, 1) := by decide +kernel
theorem dX8_addHeat_25 : decode cX8_addHeat 25 = .ok (.getfield 150, 3) := by decide +kernel
theorem dX8_addHeat_28 : decode cX8_addHeat 28 = .ok (.iload_n 1, 1) := by decide +kernel
theorem dX8_addHeat_29 : decode cX8_addHeat 29 = .ok (.iadd, 1) := by decide +kernel
theorem dX8_addHeat_30 : decode cX8_addHeat 30 = .ok (.putfield 150, 3) := by decide +kernel
theorem dX8_addHeat_33 : decode cX8_addHeat 33 = .ok (.aload_n 0, 1) := by decide +kernel
theorem dX8_addHeat_34 : decode cX8_addHeat 34 = .ok (.dup, 1) := by decide +kernel
theorem dX8_addHeat_35 : decode cX8_addHeat 35 = .ok (.getfield 30, 3) := by decide +kernel
theorem dX8_addHeat_38 : decode cX8_addHeat 38 = .ok (.iload_n 1, 1) := by decide +kernel
theorem dX8_addHeat_39 : decode cX8_addHeat 39 = .ok (.iadd, 1) := by decide +kernel
theorem dX8_addHeat_40 : decode cX8_addHeat 40 = .ok (.putfield 30, 3) := by decide +kernel
theorem dX8_addHeat_43 : decode cX8_addHeat 43 = .ok (.iconst 0, 1) := by decide +kernel
theorem dX8_addHeat_44 : decode cX8_addHeat 44 = .ok (.ireturn, 1) := by decide +kernel
theorem dX8_failWith_0 : decode cX8_failWith 0 = .ok (.aload_n 0, 1) := by decide +kernel
theorem dX8_failWith_1 : decode cX8_failWith 1 = .ok (.iload_n 1, 1) := by decide +kernel
theorem dX8_failWith_2 : decode cX8_failWith 2 = .ok (.putfield 9, 3) := by decide +kernel
theorem dX8_failWith_5 : decode cX8_failWith 5 = .ok (.iconst 2, 1) := by decide +kernel
theorem dX8_failWith_6 : decode cX8_failWith 6 = .ok (.ireturn, 1) := by decide +kernel
theorem dX8_refuseWith_0 : decode cX8_refuseWith 0 = .ok (.aload_n 0, 1) := by decide +kernel
theorem dX8_refuseWith_1 : decode cX8_refuseWith 1 = .ok (.getfield 53, 3) := by decide +kernel
theorem dX8_refuseWith_4 : decode cX8_refuseWith 4 = .ok (.ifCond .ne 13, 3) := by decide +kernel
theorem dX8_refuseWith_7 : decode cX8_refuseWith 7 = .ok (.aload_n 0, 1) := by decide +kernel
theorem dX8_refuseWith_8 : decode cX8_refuseWith 8 = .ok (.iload_n 1, 1) := by decide +kernel
theorem dX8_refuseWith_9 : decode cX8_refuseWith 9 = .ok (.sipush 2000, 3) := by decide +kernel
theorem dX8_refuseWith_12 : decode cX8_refuseWith 12 = .ok (.iadd, 1) := by decide +kernel
theorem dX8_refuseWith_13 : decode cX8_refuseWith 13 = .ok (.invokevirtual 131, 3) := by decide +kernel
theorem dX8_refuseWith_16 : decode cX8_refuseWith 16 = .ok (.ireturn, 1) := by decide +kernel
theorem dX8_refuseWith_17 : decode cX8_refuseWith 17 = .ok (.aload_n 0, 1) := by decide +kernel
theorem dX8_refuseWith_18 : decode cX8_refuseWith 18 = .ok (.iload_n 1, 1) := by decide +kernel
theorem dX8_refuseWith_19 : decode cX8_refuseWith 19 = .ok (.putfield 9, 3) := by decide +kernel
theorem dX8_refuseWith_22 : decode cX8_refuseWith 22 = .ok (.iconst 1, 1) := by decide +kernel
theorem dX8_refuseWith_23 : decode cX8_refuseWith 23 = .ok (.ireturn, 1) := by decide +kernel
theorem dX9_init_0 : decode cX9_init 0 = .ok (.aload_n 0, 1) := by decide +kernel
theorem dX9_init_1 : decode cX9_init 1 = .ok (.invokespecial 3, 3) := by decide +kernel
theorem dX9_init_4 : decode cX9_init 4 = .ok (.aload_n 0, 1) := by decide +kernel
theorem dX9_init_5 : decode cX9_init 5 = .ok (.iconst 0, 1) := by decide +kernel
theorem dX9_init_6 : decode cX9_init 6 = .ok (.putfield 9, 3) := by decide +kernel
theorem dX9_init_9 : decode cX9_init 9 = .ok (.aload_n 0, 1) := by decide +kernel
theorem dX9_init_10 : decode cX9_init 10 = .ok (.iconst 0, 1) := by decide +kernel
theorem dX9_init_11 : decode cX9_init 11 = .ok (.putfield 15, 3) := by decide +kernel
theorem dX9_init_14 : decode cX9_init 14 = .ok (.aload_n 0, 1) := by decide +kernel
theorem dX9_init_15 : decode cX9_init 15 = .ok (.iload_n 1, 1) := by decide +kernel
theorem dX9_init_16 : decode cX9_init 16 = .ok (.putfield 18, 3) := by decide +kernel
theorem dX9_init_19 : decode cX9_init 19 = .ok (.aload_n 0, 1) := by decide +kernel
theorem dX9_init_20 : decode cX9_init 20 = .ok (.aload_n 2, 1) := by decide +kernel
theorem dX9_init_21 : decode cX9_init 21 = .ok (.putfield 21, 3) := by decide +kernel
theorem dX9_init_24 : decode cX9_init 24 = .ok (.aload_n 0, 1) := by decide +kernel
theorem dX9_init_25 : decode cX9_init 25 = .ok (.iload_n 3, 1) := by decide +kernel
theorem dX9_init_26 : decode cX9_init 26 = .ok (.putfield 25, 3) := by decide +kernel
theorem dX9_init_29 : decode cX9_init 29 = .ok (.return_, 1) := by decide +kernel
theorem dX9_hasRoomFor_0 : decode cX9_hasRoomFor 0 = .ok (.aload_n 0, 1) := by decide +kernel
theorem dX9_hasRoomFor_1 : decode cX9_hasRoomFor 1 = .ok (.getfield 9, 3) := by decide +kernel
theorem dX9_hasRoomFor_4 : decode cX9_hasRoomFor 4 = .ok (.iload_n 1, 1) := by decide +kernel
theorem dX9_hasRoomFor_5 : decode cX9_hasRoomFor 5 = .ok (.iadd, 1) := by decide +kernel
theorem dX9_hasRoomFor_6 : decode cX9_hasRoomFor 6 = .ok (.aload_n 0, 1) := by decide +kernel
theorem dX9_hasRoomFor_7 : decode cX9_hasRoomFor 7 = .ok (.getfield 25, 3) := by decide +kernel
theorem dX9_hasRoomFor_10 : decode cX9_hasRoomFor 10 = .ok (.if_icmp .gt 18, 3) := by decide +kernel
theorem dX9_hasRoomFor_13 : decode cX9_hasRoomFor 13 = .ok (.aload_n 0, 1) := by decide +kernel
theorem dX9_hasRoomFor_14 : decode cX9_hasRoomFor 14 = .ok (.getfield 15, 3) := by decide +kernel
theorem dX9_hasRoomFor_17 : decode cX9_hasRoomFor 17 = .ok (.iload_n 2, 1) := by decide +kernel
theorem dX9_hasRoomFor_18 : decode cX9_hasRoomFor 18 = .ok (.iadd, 1) := by decide +kernel
theorem dX9_hasRoomFor_19 : decode cX9_hasRoomFor 19 = .ok (.ldc 28, 2) := by decide +kernel
theorem dX9_hasRoomFor_21 : decode cX9_hasRoomFor 21 = .ok (.if_icmp .gt 7, 3) := by decide +kernel
theorem dX9_hasRoomFor_24 : decode cX9_hasRoomFor 24 = .ok (.iconst 1, 1) := by decide +kernel
theorem dX9_hasRoomFor_25 : decode cX9_hasRoomFor 25 = .ok (.goto 4, 3) := by decide +kernel
theorem dX9_hasRoomFor_28 : decode cX9_hasRoomFor 28 = .ok (.iconst 0, 1) := by decide +kernel
theorem dX9_hasRoomFor_29 : decode cX9_hasRoomFor 29 = .ok (.ireturn, 1) := by decide +kernel
theorem dX9_heatOf_0 : decode cX9_heatOf 0 = .ok (.aload_n 0, 1) := by decide +kernel
theorem dX9_heatOf_1 : decode cX9_heatOf 1 = .ok (.getfield 9, 3) := by decide +kernel
theorem dX9_heatOf_4 : decode cX9_heatOf 4 = .ok (.ifCond .ne 7, 3) := by decide +kernel
theorem dX9_heatOf_7 : decode cX9_heatOf 7 = .ok (.iconst 0, 1) := by decide +kernel
theorem dX9_heatOf_8 : decode cX9_heatOf 8 = .ok (.goto 18, 3) := by decide +kernel
theorem dX9_heatOf_11 : decode cX9_heatOf 11 = .ok (.aload_n 0, 1) := by decide +kernel
theorem dX9_heatOf_12 : decode cX9_heatOf 12 = .ok (.getfield 15, 3) := by decide +kernel
theorem dX9_heatOf_15 : decode cX9_heatOf 15 = .ok (.i2l, 1) := by decide +kernel
theorem dX9_heatOf_16 : decode cX9_heatOf 16 = .ok (.iload_n 1, 1) := by decide +kernel
theorem dX9_heatOf_17 : decode cX9_heatOf 17 = .ok (.i2l, 1) := by decide +kernel
theorem dX9_heatOf_18 : decode cX9_heatOf 18 = .ok (.lmul, 1) := by decide +kernel
theorem dX9_heatOf_19 : decode cX9_heatOf 19 = .ok (.aload_n 0, 1) := by decide +kernel
theorem dX9_heatOf_20 : decode cX9_heatOf 20 = .ok (.getfield 9, 3) := by decide +kernel
theorem dX9_heatOf_23 : decode cX9_heatOf 23 = .ok (.i2l, 1) := by decide +kernel
theorem dX9_heatOf_24 : decode cX9_heatOf 24 = .ok (.ldiv, 1) := by decide +kernel
theorem dX9_heatOf_25 : decode cX9_heatOf 25 = .ok (.l2i, 1) := by decide +kernel
theorem dX9_heatOf_26 : decode cX9_heatOf 26 = .ok (.ireturn, 1) := by decide +kernel
theorem dX10_init_0 : decode cX10_init 0 = .ok (.aload_n 0, 1) := by decide +kernel
theorem dX10_init_1 : decode cX10_init 1 = .ok (.invokespecial 3, 3) := by decide +kernel
theorem dX10_init_4 : decode cX10_init 4 = .ok (.aload_n 0, 1) := by decide +kernel
theorem dX10_init_5 : decode cX10_init 5 = .ok (.aconst_null, 1) := by decide +kernel
theorem dX10_init_6 : decode cX10_init 6 = .ok (.putfield 9, 3) := by decide +kernel
theorem dX10_init_9 : decode cX10_init 9 = .ok (.aload_n 0, 1) := by decide +kernel
theorem dX10_init_10 : decode cX10_init 10 = .ok (.iload_n 1, 1) := by decide +kernel
theorem dX10_init_11 : decode cX10_init 11 = .ok (.putfield 15, 3) := by decide +kernel
theorem dX10_init_14 : decode cX10_init 14 = .ok (.aload_n 0, 1) := by decide +kernel
theorem dX10_init_15 : decode cX10_init 15 = .ok (.iload_n 2, 1) := by decide +kernel
theorem dX10_init_16 : decode cX10_init 16 = .ok (.putfield 19, 3) := by decide +kernel
theorem dX10_init_19 : decode cX10_init 19 = .ok (.aload_n 0, 1) := by decide +kernel
theorem dX10_init_20 : decode cX10_init 20 = .ok (.iload_n 3, 1) := by decide +kernel
theorem dX10_init_21 : decode cX10_init 21 = .ok (.putfield 22, 3) := by decide +kernel
theorem dX10_init_24 : decode cX10_init 24 = .ok (.aload_n 0, 1) := by decide +kernel
theorem dX10_init_25 : decode cX10_init 25 = .ok (.lload 4, 2) := by decide +kernel
theorem dX10_init_27 : decode cX10_init 27 = .ok (.putfield 25, 3) := by decide +kernel
theorem dX10_init_30 : decode cX10_init 30 = .ok (.return_, 1) := by decide +kernel
theorem dX10_chainOf_0 : decode cX10_chainOf 0 = .ok (.aconst_null, 1) := by decide +kernel
theorem dX10_chainOf_1 : decode cX10_chainOf 1 = .ok (.astore_n 2, 1) := by decide +kernel
theorem dX10_chainOf_2 : decode cX10_chainOf 2 = .ok (.aconst_null, 1) := by decide +kernel
theorem dX10_chainOf_3 : decode cX10_chainOf 3 = .ok (.astore_n 3, 1) := by decide +kernel
theorem dX10_chainOf_4 : decode cX10_chainOf 4 = .ok (.iconst 0, 1) := by decide +kernel
theorem dX10_chainOf_5 : decode cX10_chainOf 5 = .ok (.istore 4, 2) := by decide +kernel
theorem dX10_chainOf_7 : decode cX10_chainOf 7 = .ok (.iconst 1, 1) := by decide +kernel
theorem dX10_chainOf_8 : decode cX10_chainOf 8 = .ok (.istore 5, 2) := by decide +kernel
theorem dX10_chainOf_10 : decode cX10_chainOf 10 = .ok (.iconst 0, 1) := by decide +kernel
theorem dX10_chainOf_11 : decode cX10_chainOf 11 = .ok (.istore 6, 2) := by decide +kernel
theorem dX10_chainOf_13 : decode cX10_chainOf 13 = .ok (.iload 6, 2) := by decide +kernel
theorem dX10_chainOf_15 : decode cX10_chainOf 15 = .ok (.iload_n 1, 1) := by decide +kernel
theorem dX10_chainOf_16 : decode cX10_chainOf 16 = .ok (.if_icmp .gt 84, 3) := by decide +kernel
theorem dX10_chainOf_19 : decode cX10_chainOf 19 = .ok (.iload 5, 2) := by decide +kernel
theorem dX10_chainOf_21 : decode cX10_chainOf 21 = .ok (.ifCond .eq 79, 3) := by decide +kernel
theorem dX10_chainOf_24 : decode cX10_chainOf 24 = .ok (.aload_n 0, 1) := by decide +kernel
theorem dX10_chainOf_25 : decode cX10_chainOf 25 = .ok (.iload_n 1, 1) := by decide +kernel
theorem dX10_chainOf_26 : decode cX10_chainOf 26 = .ok (.aload_n 0, 1) := by decide +kernel
theorem dX10_chainOf_27 : decode cX10_chainOf 27 = .ok (.iload_n 1, 1) := by decide +kernel
theorem dX10_chainOf_28 : decode cX10_chainOf 28 = .ok (.iload 4, 2) := by decide +kernel
theorem dX10_chainOf_30 : decode cX10_chainOf 30 = .ok (.invokestatic 29, 3) := by decide +kernel
theorem dX10_chainOf_33 : decode cX10_chainOf 33 = .ok (.invokestatic 33, 3) := by decide +kernel
theorem dX10_chainOf_36 : decode cX10_chainOf 36 = .ok (.astore 7, 2) := by decide +kernel
theorem dX10_chainOf_38 : decode cX10_chainOf 38 = .ok (.aload_n 3, 1) := by decide +kernel
theorem dX10_chainOf_39 : decode cX10_chainOf 39 = .ok (.ifnonnull 9, 3) := by decide +kernel
theorem dX10_chainOf_42 : decode cX10_chainOf 42 = .ok (.aload 7, 2) := by decide +kernel
theorem dX10_chainOf_44 : decode cX10_chainOf 44 = .ok (.astore_n 2, 1) := by decide +kernel
theorem dX10_chainOf_45 : decode cX10_chainOf 45 = .ok (.goto 9, 3) := by decide +kernel
theorem dX10_chainOf_48 : decode cX10_chainOf 48 = .ok (.aload_n 3, 1) := by decide +kernel
theorem dX10_chainOf_49 : decode cX10_chainOf 49 = .ok (.aload 7, 2) := by decide +kernel
theorem dX10_chainOf_51 : decode cX10_chainOf 51 = .ok (.putfield 9, 3) := by decide +kernel
theorem dX10_chainOf_54 : decode cX10_chainOf 54 = .ok (.aload 7, 2) := by decide +kernel
theorem dX10_chainOf_56 : decode cX10_chainOf 56 = .ok (.astore_n 3, 1) := by decide +kernel
theorem dX10_chainOf_57 : decode cX10_chainOf 57 = .ok (.aload 7, 2) := by decide +kernel
theorem dX10_chainOf_59 : decode cX10_chainOf 59 = .ok (.getfield 19, 3) := by decide +kernel
theorem dX10_chainOf_62 : decode cX10_chainOf 62 = .ok (.aload 7, 2) := by decide +kernel
theorem dX10_chainOf_64 : decode cX10_chainOf 64 = .ok (.getfield 22, 3) := by decide +kernel
theorem dX10_chainOf_67 : decode cX10_chainOf 67 = .ok (.iadd, 1) := by decide +kernel
theorem dX10_chainOf_68 : decode cX10_chainOf 68 = .ok (.istore 4, 2) := by decide +kernel
theorem dX10_chainOf_70 : decode cX10_chainOf 70 = .ok (.aload 7, 2) := by decide +kernel
theorem dX10_chainOf_72 : decode cX10_chainOf 72 = .ok (.getfield 15, 3) := by decide +kernel
theorem dX10_chainOf_75 : decode cX10_chainOf 75 = .ok (.ifCond .eq 16, 3) := by decide +kernel
theorem dX10_chainOf_78 : decode cX10_chainOf 78 = .ok (.aload 7, 2) := by decide +kernel
theorem dX10_chainOf_80 : decode cX10_chainOf 80 = .ok (.getfield 15, 3) := by decide +kernel
theorem dX10_chainOf_83 : decode cX10_chainOf 83 = .ok (.iconst 1, 1) := by decide +kernel
theorem dX10_chainOf_84 : decode cX10_chainOf 84 = .ok (.if_icmp .eq 7, 3) := by decide +kernel
theorem dX10_chainOf_87 : decode cX10_chainOf 87 = .ok (.iconst 1, 1) := by decide +kernel
theorem dX10_chainOf_88 : decode cX10_chainOf 88 = .ok (.goto 4, 3) := by decide +kernel
theorem dX10_chainOf_91 : decode cX10_chainOf 91 = .ok (.iconst 0, 1) := by decide +kernel
theorem dX10_chainOf_92 : decode cX10_chainOf 92 = .ok (.istore 5, 2) := by decide +kernel
theorem dX10_chainOf_94 : decode cX10_chainOf 94 = .ok (.iinc 6 1, 3) := by decide +kernel
theorem dX10_chainOf_97 : decode cX10_chainOf 97 = .ok (.goto (-84), 3) := by decide +kernel
theorem dX10_chainOf_100 : decode cX10_chainOf 100 = .ok (.aload_n 2, 1) := by decide +kernel
theorem dX10_chainOf_101 : decode cX10_chainOf 101 = .ok (.areturn, 1) := by decide +kernel
theorem dX10_behindBlanks_0 : decode cX10_behindBlanks 0 = .ok (.iload_n 2, 1) := by decide +kernel
theorem dX10_behindBlanks_1 : decode cX10_behindBlanks 1 = .ok (.istore_n 3, 1) := by decide +kernel
theorem dX10_behindBlanks_2 : decode cX10_behindBlanks 2 = .ok (.iload_n 3, 1) := by decide +kernel
theorem dX10_behindBlanks_3 : decode cX10_behindBlanks 3 = .ok (.iload_n 1, 1) := by decide +kernel
theorem dX10_behindBlanks_4 : decode cX10_behindBlanks 4 = .ok (.if_icmp .ge 25, 3) := by decide +kernel
theorem dX10_behindBlanks_7 : decode cX10_behindBlanks 7 = .ok (.aload_n 0, 1) := by decide +kernel
theorem dX10_behindBlanks_8 : decode cX10_behindBlanks 8 = .ok (.iload_n 3, 1) := by decide +kernel
theorem dX10_behindBlanks_9 : decode cX10_behindBlanks 9 = .ok (.baload, 1) := by decide +kernel
theorem dX10_behindBlanks_10 : decode cX10_behindBlanks 10 = .ok (.bipush 10, 2) := by decide +kernel
theorem dX10_behindBlanks_12 : decode cX10_behindBlanks 12 = .ok (.if_icmp .eq 11, 3) := by decide +kernel
theorem dX10_behindBlanks_15 : decode cX10_behindBlanks 15 = .ok (.aload_n 0, 1) := by decide +kernel
theorem dX10_behindBlanks_16 : decode cX10_behindBlanks 16 = .ok (.iload_n 3, 1) := by decide +kernel
theorem dX10_behindBlanks_17 : decode cX10_behindBlanks 17 = .ok (.baload, 1) := by decide +kernel
theorem dX10_behindBlanks_18 : decode cX10_behindBlanks 18 = .ok (.bipush 32, 2) := by decide +kernel
theorem dX10_behindBlanks_20 : decode cX10_behindBlanks 20 = .ok (.if_icmp .ne 9, 3) := by decide +kernel
theorem dX10_behindBlanks_23 : decode cX10_behindBlanks 23 = .ok (.iinc 3 1, 3) := by decide +kernel
theorem dX10_behindBlanks_26 : decode cX10_behindBlanks 26 = .ok (.goto (-24), 3) := by decide +kernel
theorem dX10_behindBlanks_29 : decode cX10_behindBlanks 29 = .ok (.iload_n 3, 1) := by decide +kernel
theorem dX10_behindBlanks_30 : decode cX10_behindBlanks 30 = .ok (.ireturn, 1) := by decide +kernel
theorem dX10_wordAt_0 : decode cX10_wordAt 0 = .ok (.iload_n 2, 1) := by decide +kernel
theorem dX10_wordAt_1 : decode cX10_wordAt 1 = .ok (.iload_n 1, 1) := by decide +kernel
theorem dX10_wordAt_2 : decode cX10_wordAt 2 = .ok (.if_icmp .lt 15, 3) := by decide +kernel
theorem dX10_wordAt_5 : decode cX10_wordAt 5 = .ok (.new 10, 3) := by decide +kernel
theorem dX10_wordAt_8 : decode cX10_wordAt 8 = .ok (.dup, 1) := by decide +kernel
theorem dX10_wordAt_9 : decode cX10_wordAt 9 = .ok (.iconst 0, 1) := by decide +kernel
theorem dX10_wordAt_10 : decode cX10_wordAt 10 = .ok (.iload_n 1, 1) := by decide +kernel
theorem dX10_wordAt_11 : decode cX10_wordAt 11 = .ok (.iconst 0, 1) := by decide +kernel
theorem dX10_wordAt_12 : decode cX10_wordAt 12 = .ok (.lconst 0, 1) := by decide +kernel
theorem dX10_wordAt_13 : decode cX10_wordAt 13 = .ok (.invokespecial 37, 3) := by decide +kernel
theorem dX10_wordAt_16 : decode cX10_wordAt 16 = .ok (.areturn, 1) := by decide +kernel
theorem dX10_wordAt_17 : decode cX10_wordAt 17 = .ok (.aload_n 0, 1) := by decide +kernel
theorem dX10_wordAt_18 : decode cX10_wordAt 18 = .ok (.iload_n 2, 1) := by decide +kernel
theorem dX10_wordAt_19 : decode cX10_wordAt 19 = .ok (.baload, 1) := by decide +kernel
theorem dX10_wordAt_20 : decode cX10_wordAt 20 = .ok (.lookupswitch 73 #[(59, 60), (123, 36), (125, 48)], 36) := by decide +kernel
theorem dX10_wordAt_56 : decode cX10_wordAt 56 = .ok (.new 10, 3) := by decide +kernel
theorem dX10_wordAt_59 : decode cX10_wordAt 59 = .ok (.dup, 1) := by decide +kernel
theorem dX10_wordAt_60 : decode cX10_wordAt 60 = .ok (.iconst 4, 1) := by decide +kernel
theorem dX10_wordAt_61 : decode cX10_wordAt 61 = .ok (.iload_n 2, 1) := by decide +kernel
theorem dX10_wordAt_62 : decode cX10_wordAt 62 = .ok (.iconst 1, 1) := by decide +kernel
theorem dX10_wordAt_63 : decode cX10_wordAt 63 = .ok (.lconst 0, 1) := by decide +kernel
theorem dX10_wordAt_64 : decode cX10_wordAt 64 = .ok (.invokespecial 37, 3) := by decide +kernel
theorem dX10_wordAt_67 : decode cX10_wordAt 67 = .ok (.areturn, 1) := by decide +kernel
theorem dX10_wordAt_68 : decode cX10_wordAt 68 = .ok (.new 10, 3) := by decide +kernel
theorem dX10_wordAt_71 : decode cX10_wordAt 71 = .ok (.dup, 1) := by decide +kernel
theorem dX10_wordAt_72 : decode cX10_wordAt 72 = .ok (.iconst 5, 1) := by decide +kernel
theorem dX10_wordAt_73 : decode cX10_wordAt 73 = .ok (.iload_n 2, 1) := by decide +kernel
theorem dX10_wordAt_74 : decode cX10_wordAt 74 = .ok (.iconst 1, 1) := by decide +kernel
theorem dX10_wordAt_75 : decode cX10_wordAt 75 = .ok (.lconst 0, 1) := by decide +kernel
theorem dX10_wordAt_76 : decode cX10_wordAt 76 = .ok (.invokespecial 37, 3) := by decide +kernel
theorem dX10_wordAt_79 : decode cX10_wordAt 79 = .ok (.areturn, 1) := by decide +kernel
theorem dX10_wordAt_80 : decode cX10_wordAt 80 = .ok (.new 10, 3) := by decide +kernel
theorem dX10_wordAt_83 : decode cX10_wordAt 83 = .ok (.dup, 1) := by decide +kernel
theorem dX10_wordAt_84 : decode cX10_wordAt 84 = .ok (.bipush 6, 2) := by decide +kernel
theorem dX10_wordAt_86 : decode cX10_wordAt 86 = .ok (.iload_n 2, 1) := by decide +kernel
theorem dX10_wordAt_87 : decode cX10_wordAt 87 = .ok (.iconst 1, 1) := by decide +kernel
theorem dX10_wordAt_88 : decode cX10_wordAt 88 = .ok (.lconst 0, 1) := by decide +kernel
theorem dX10_wordAt_89 : decode cX10_wordAt 89 = .ok (.invokespecial 37, 3) := by decide +kernel
theorem dX10_wordAt_92 : decode cX10_wordAt 92 = .ok (.areturn, 1) := by decide +kernel
theorem dX10_wordAt_93 : decode cX10_wordAt 93 = .ok (.aload_n 0, 1) := by decide +kernel
theorem dX10_wordAt_94 : decode cX10_wordAt 94 = .ok (.iload_n 2, 1) := by decide +kernel
theorem dX10_wordAt_95 : decode cX10_wordAt 95 = .ok (.baload, 1) := by decide +kernel
theorem dX10_wordAt_96 : decode cX10_wordAt 96 = .ok (.invokestatic 40, 3) := by decide +kernel
theorem dX10_wordAt_99 : decode cX10_wordAt 99 = .ok (.ifCond .eq 10, 3) := by decide +kernel
theorem dX10_wordAt_102 : decode cX10_wordAt 102 = .ok (.aload_n 0, 1) := by decide +kernel
theorem dX10_wordAt_103 : decode cX10_wordAt 103 = .ok (.iload_n 1, 1) := by decide +kernel
theorem dX10_wordAt_104 : decode cX10_wordAt 104 = .ok (.iload_n 2, 1) := by decide +kernel
theorem dX10_wordAt_105 : decode cX10_wordAt 105 = .ok (.invokestatic 44, 3) := by decide +kernel
theorem dX10_wordAt_108 : decode cX10_wordAt 108 = .ok (.areturn, 1) := by decide +kernel
theorem dX10_wordAt_109 : decode cX10_wordAt 109 = .ok (.aload_n 0, 1) := by decide +kernel
theorem dX10_wordAt_110 : decode cX10_wordAt 110 = .ok (.iload_n 2, 1) := by decide +kernel
theorem dX10_wordAt_111 : decode cX10_wordAt 111 = .ok (.baload, 1) := by decide +kernel
theorem dX10_wordAt_112 : decode cX10_wordAt 112 = .ok (.invokestatic 47, 3) := by decide +kernel
theorem dX10_wordAt_115 : decode cX10_wordAt 115 = .ok (.ifCond .eq 12, 3) := by decide +kernel
theorem dX10_wordAt_118 : decode cX10_wordAt 118 = .ok (.aload_n 0, 1) := by decide +kernel
theorem dX10_wordAt_119 : decode cX10_wordAt 119 = .ok (.iload_n 1, 1) := by decide +kernel
theorem dX10_wordAt_120 : decode cX10_wordAt 120 = .ok (.iload_n 2, 1) := by decide +kernel
theorem dX10_wordAt_121 : decode cX10_wordAt 121 = .ok (.invokestatic 50, 3) := by decide +kernel
theorem dX10_wordAt_124 : decode cX10_wordAt 124 = .ok (.goto 14, 3) := by decide +kernel
theorem dX10_wordAt_127 : decode cX10_wordAt 127 = .ok (.new 10, 3) := by decide +kernel
theorem dX10_wordAt_130 : decode cX10_wordAt 130 = .ok (.dup, 1) := by decide +kernel
theorem dX10_wordAt_131 : decode cX10_wordAt 131 = .ok (.iconst 1, 1) := by decide +kernel
theorem dX10_wordAt_132 : decode cX10_wordAt 132 = .ok (.iload_n 2, 1) := by decide +kernel
theorem dX10_wordAt_133 : decode cX10_wordAt 133 = .ok (.iconst 1, 1) := by decide +kernel
theorem dX10_wordAt_134 : decode cX10_wordAt 134 = .ok (.lconst 0, 1) := by decide +kernel
theorem dX10_wordAt_135 : decode cX10_wordAt 135 = .ok (.invokespecial 37, 3) := by decide +kernel
theorem dX10_wordAt_138 : decode cX10_wordAt 138 = .ok (.areturn, 1) := by decide +kernel
theorem dX10_lettersAt_0 : decode cX10_lettersAt 0 = .ok (.iconst 0, 1) := by decide +kernel
theorem dX10_lettersAt_1 : decode cX10_lettersAt 1 = .ok (.istore_n 3, 1) := by decide +kernel
theorem dX10_lettersAt_2 : decode cX10_lettersAt 2 = .ok (.lconst 0, 1) := by decide +kernel
theorem dX10_lettersAt_3 : decode cX10_lettersAt 3 = .ok (.lstore 4, 2) := by decide +kernel
theorem dX10_lettersAt_5 : decode cX10_lettersAt 5 = .ok (.iload_n 2, 1) := by decide +kernel
theorem dX10_lettersAt_6 : decode cX10_lettersAt 6 = .ok (.iload_n 3, 1) := by decide +kernel
theorem dX10_lettersAt_7 : decode cX10_lettersAt 7 = .ok (.iadd, 1) := by decide +kernel
theorem dX10_lettersAt_8 : decode cX10_lettersAt 8 = .ok (.iload_n 1, 1) := by decide +kernel
theorem dX10_lettersAt_9 : decode cX10_lettersAt 9 = .ok (.if_icmp .ge 32, 3) := by decide +kernel
theorem dX10_lettersAt_12 : decode cX10_lettersAt 12 = .ok (.aload_n 0, 1) := by decide +kernel
theorem dX10_lettersAt_13 : decode cX10_lettersAt 13 = .ok (.iload_n 2, 1) := by decide +kernel
theorem dX10_lettersAt_14 : decode cX10_lettersAt 14 = .ok (.iload_n 3, 1) := by decide +kernel
theorem dX10_lettersAt_15 : decode cX10_lettersAt 15 = .ok (.iadd, 1) := by decide +kernel
theorem dX10_lettersAt_16 : decode cX10_lettersAt 16 = .ok (.baload, 1) := by decide +kernel
theorem dX10_lettersAt_17 : decode cX10_lettersAt 17 = .ok (.invokestatic 40, 3) := by decide +kernel
theorem dX10_lettersAt_20 : decode cX10_lettersAt 20 = .ok (.ifCond .eq 21, 3) := by decide +kernel
theorem dX10_lettersAt_23 : decode cX10_lettersAt 23 = .ok (.lload 4, 2) := by decide +kernel
theorem dX10_lettersAt_25 : decode cX10_lettersAt 25 = .ok (.aload_n 0, 1) := by decide +kernel
theorem dX10_lettersAt_26 : decode cX10_lettersAt 26 = .ok (.iload_n 2, 1) := by decide +kernel
theorem dX10_lettersAt_27 : decode cX10_lettersAt 27 = .ok (.iload_n 3, 1) := by decide +kernel
theorem dX10_lettersAt_28 : decode cX10_lettersAt 28 = .ok (.iadd, 1) := by decide +kernel
theorem dX10_lettersAt_29 : decode cX10_lettersAt 29 = .ok (.baload, 1) := by decide +kernel
theorem dX10_lettersAt_30 : decode cX10_lettersAt 30 = .ok (.invokestatic 53, 3) := by decide +kernel
theorem dX10_lettersAt_33 : decode cX10_lettersAt 33 = .ok (.lstore 4, 2) := by decide +kernel
theorem dX10_lettersAt_35 : decode cX10_lettersAt 35 = .ok (.iinc 3 1, 3) := by decide +kernel
theorem dX10_lettersAt_38 : decode cX10_lettersAt 38 = .ok (.goto (-33), 3) := by decide +kernel
theorem dX10_lettersAt_41 : decode cX10_lettersAt 41 = .ok (.iload_n 3, 1) := by decide +kernel
theorem dX10_lettersAt_42 : decode cX10_lettersAt 42 = .ok (.bipush 8, 2) := by decide +kernel
theorem dX10_lettersAt_44 : decode cX10_lettersAt 44 = .ok (.if_icmp .le 7, 3) := by decide +kernel
theorem dX10_lettersAt_47 : decode cX10_lettersAt 47 = .ok (.iconst 1, 1) := by decide +kernel
theorem dX10_lettersAt_48 : decode cX10_lettersAt 48 = .ok (.goto 9, 3) := by decide +kernel
theorem dX10_lettersAt_51 : decode cX10_lettersAt 51 = .ok (.aload_n 0, 1) := by decide +kernel
theorem dX10_lettersAt_52 : decode cX10_lettersAt 52 = .ok (.iload_n 2, 1) := by decide +kernel
theorem dX10_lettersAt_53 : decode cX10_lettersAt 53 = .ok (.iload_n 3, 1) := by decide +kernel
theorem dX10_lettersAt_54 : decode cX10_lettersAt 54 = .ok (.invokestatic 57, 3) := by decide +kernel
theorem dX10_lettersAt_57 : decode cX10_lettersAt 57 = .ok (.istore 6, 2) := by decide +kernel
theorem dX10_lettersAt_59 : decode cX10_lettersAt 59 = .ok (.new 10, 3) := by decide +kernel
theorem dX10_lettersAt_62 : decode cX10_lettersAt 62 = .ok (.dup, 1) := by decide +kernel
theorem dX10_lettersAt_63 : decode cX10_lettersAt 63 = .ok (.iload 6, 2) := by decide +kernel
theorem dX10_lettersAt_65 : decode cX10_lettersAt 65 = .ok (.iload_n 2, 1) := by decide +kernel
theorem dX10_lettersAt_66 : decode cX10_lettersAt 66 = .ok (.iload_n 3, 1) := by decide +kernel
theorem dX10_lettersAt_67 : decode cX10_lettersAt 67 = .ok (.lload 4, 2) := by decide +kernel
theorem dX10_lettersAt_69 : decode cX10_lettersAt 69 = .ok (.invokespecial 37, 3) := by decide +kernel
theorem dX10_lettersAt_72 : decode cX10_lettersAt 72 = .ok (.areturn, 1) := by decide +kernel
theorem dX10_figuresAt_0 : decode cX10_figuresAt 0 = .ok (.iconst 0, 1) := by decide +kernel
theorem dX10_figuresAt_1 : decode cX10_figuresAt 1 = .ok (.istore_n 3, 1) := by decide +kernel
theorem dX10_figuresAt_2 : decode cX10_figuresAt 2 = .ok (.lconst 0, 1) := by decide +kernel
theorem dX10_figuresAt_3 : decode cX10_figuresAt 3 = .ok (.lstore 4, 2) := by decide +kernel
theorem dX10_figuresAt_5 : decode cX10_figuresAt 5 = .ok (.iload_n 2, 1) := by decide +kernel
theorem dX10_figuresAt_6 : decode cX10_figuresAt 6 = .ok (.iload_n 3, 1) := by decide +kernel
theorem dX10_figuresAt_7 : decode cX10_figuresAt 7 = .ok (.iadd, 1) := by decide +kernel
theorem dX10_figuresAt_8 : decode cX10_figuresAt 8 = .ok (.iload_n 1, 1) := by decide +kernel
theorem dX10_figuresAt_9 : decode cX10_figuresAt 9 = .ok (.if_icmp .ge 38, 3) := by decide +kernel
theorem dX10_figuresAt_12 : decode cX10_figuresAt 12 = .ok (.aload_n 0, 1) := by decide +kernel
theorem dX10_figuresAt_13 : decode cX10_figuresAt 13 = .ok (.iload_n 2, 1) := by decide +kernel
theorem dX10_figuresAt_14 : decode cX10_figuresAt 14 = .ok (.iload_n 3, 1) := by decide +kernel
theorem dX10_figuresAt_15 : decode cX10_figuresAt 15 = .ok (.iadd, 1) := by decide +kernel
theorem dX10_figuresAt_16 : decode cX10_figuresAt 16 = .ok (.baload, 1) := by decide +kernel
theorem dX10_figuresAt_17 : decode cX10_figuresAt 17 = .ok (.invokestatic 47, 3) := by decide +kernel
theorem dX10_figuresAt_20 : decode cX10_figuresAt 20 = .ok (.ifCond .eq 27, 3) := by decide +kernel
theorem dX10_figuresAt_23 : decode cX10_figuresAt 23 = .ok (.lload 4, 2) := by decide +kernel
theorem dX10_figuresAt_25 : decode cX10_figuresAt 25 = .ok (.ldc2_w 60, 3) := by decide +kernel
theorem dX10_figuresAt_28 : decode cX10_figuresAt 28 = .ok (.lmul, 1) := by decide +kernel
theorem dX10_figuresAt_29 : decode cX10_figuresAt 29 = .ok (.aload_n 0, 1) := by decide +kernel
theorem dX10_figuresAt_30 : decode cX10_figuresAt 30 = .ok (.iload_n 2, 1) := by decide +kernel
theorem dX10_figuresAt_31 : decode cX10_figuresAt 31 = .ok (.iload_n 3, 1) := by decide +kernel
theorem dX10_figuresAt_32 : decode cX10_figuresAt 32 = .ok (.iadd, 1) := by decide +kernel
theorem dX10_figuresAt_33 : decode cX10_figuresAt 33 = .ok (.baload, 1) := by decide +kernel
theorem dX10_figuresAt_34 : decode cX10_figuresAt 34 = .ok (.bipush 48, 2) := by decide +kernel
theorem dX10_figuresAt_36 : decode cX10_figuresAt 36 = .ok (.isub, 1) := by decide +kernel
theorem dX10_figuresAt_37 : decode cX10_figuresAt 37 = .ok (.i2l, 1) := by decide +kernel
theorem dX10_figuresAt_38 : decode cX10_figuresAt 38 = .ok (.ladd, 1) := by decide +kernel
theorem dX10_figuresAt_39 : decode cX10_figuresAt 39 = .ok (.lstore 4, 2) := by decide +kernel
theorem dX10_figuresAt_41 : decode cX10_figuresAt 41 = .ok (.iinc 3 1, 3) := by decide +kernel
theorem dX10_figuresAt_44 : decode cX10_figuresAt 44 = .ok (.goto (-39), 3) := by decide +kernel
theorem dX10_figuresAt_47 : decode cX10_figuresAt 47 = .ok (.new 10, 3) := by decide +kernel
theorem dX10_figuresAt_50 : decode cX10_figuresAt 50 = .ok (.dup, 1) := by decide +kernel
theorem dX10_figuresAt_51 : decode cX10_figuresAt 51 = .ok (.iload_n 3, 1) := by decide +kernel
theorem dX10_figuresAt_52 : decode cX10_figuresAt 52 = .ok (.iconst 3, 1) := by decide +kernel
theorem dX10_figuresAt_53 : decode cX10_figuresAt 53 = .ok (.if_icmp .le 7, 3) := by decide +kernel
theorem dX10_figuresAt_56 : decode cX10_figuresAt 56 = .ok (.iconst 1, 1) := by decide +kernel
theorem dX10_figuresAt_57 : decode cX10_figuresAt 57 = .ok (.goto 4, 3) := by decide +kernel
theorem dX10_figuresAt_60 : decode cX10_figuresAt 60 = .ok (.iconst 3, 1) := by decide +kernel
theorem dX10_figuresAt_61 : decode cX10_figuresAt 61 = .ok (.iload_n 2, 1) := by decide +kernel
theorem dX10_figuresAt_62 : decode cX10_figuresAt 62 = .ok (.iload_n 3, 1) := by decide +kernel
theorem dX10_figuresAt_63 : decode cX10_figuresAt 63 = .ok (.lload 4, 2) := by decide +kernel
theorem dX10_figuresAt_65 : decode cX10_figuresAt 65 = .ok (.invokespecial 37, 3) := by decide +kernel
theorem dX10_figuresAt_68 : decode cX10_figuresAt 68 = .ok (.areturn, 1) := by decide +kernel
theorem dX10_lettersAre_0 : decode cX10_lettersAre 0 = .ok (.ldc 62, 2) := by decide +kernel
theorem dX10_lettersAre_2 : decode cX10_lettersAre 2 = .ok (.aload_n 0, 1) := by decide +kernel
theorem dX10_lettersAre_3 : decode cX10_lettersAre 3 = .ok (.iload_n 1, 1) := by decide +kernel
theorem dX10_lettersAre_4 : decode cX10_lettersAre 4 = .ok (.iload_n 2, 1) := by decide +kernel
theorem dX10_lettersAre_5 : decode cX10_lettersAre 5 = .ok (.invokestatic 64, 3) := by decide +kernel
theorem dX10_lettersAre_8 : decode cX10_lettersAre 8 = .ok (.istore_n 3, 1) := by decide +kernel
theorem dX10_lettersAre_9 : decode cX10_lettersAre 9 = .ok (.iload_n 3, 1) := by decide +kernel
theorem dX10_lettersAre_10 : decode cX10_lettersAre 10 = .ok (.ifCond .lt 8, 3) := by decide +kernel
theorem dX10_lettersAre_13 : decode cX10_lettersAre 13 = .ok (.bipush 7, 2) := by decide +kernel
theorem dX10_lettersAre_15 : decode cX10_lettersAre 15 = .ok (.iload_n 3, 1) := by decide +kernel
theorem dX10_lettersAre_16 : decode cX10_lettersAre 16 = .ok (.iadd, 1) := by decide +kernel
theorem dX10_lettersAre_17 : decode cX10_lettersAre 17 = .ok (.ireturn, 1) := by decide +kernel
theorem dX10_lettersAre_18 : decode cX10_lettersAre 18 = .ok (.ldc 68, 2) := by decide +kernel
theorem dX10_lettersAre_20 : decode cX10_lettersAre 20 = .ok (.aload_n 0, 1) := by decide +kernel
theorem dX10_lettersAre_21 : decode cX10_lettersAre 21 = .ok (.iload_n 1, 1) := by decide +kernel
theorem dX10_lettersAre_22 : decode cX10_lettersAre 22 = .ok (.iload_n 2, 1) := by decide +kernel
theorem dX10_lettersAre_23 : decode cX10_lettersAre 23 = .ok (.invokestatic 64, 3) := by decide +kernel
theorem dX10_lettersAre_26 : decode cX10_lettersAre 26 = .ok (.istore_n 3, 1) := by decide +kernel
theorem dX10_lettersAre_27 : decode cX10_lettersAre 27 = .ok (.iload_n 3, 1) := by decide +kernel
theorem dX10_lettersAre_28 : decode cX10_lettersAre 28 = .ok (.ifCond .lt 8, 3) := by decide +kernel
theorem dX10_lettersAre_31 : decode cX10_lettersAre 31 = .ok (.bipush 13, 2) := by decide +kernel
theorem dX10_lettersAre_33 : decode cX10_lettersAre 33 = .ok (.iload_n 3, 1) := by decide +kernel
theorem dX10_lettersAre_34 : decode cX10_lettersAre 34 = .ok (.iadd, 1) := by decide +kernel
theorem dX10_lettersAre_35 : decode cX10_lettersAre 35 = .ok (.ireturn, 1) := by decide +kernel
theorem dX10_lettersAre_36 : decode cX10_lettersAre 36 = .ok (.ldc 70, 2) := by decide +kernel
theorem dX10_lettersAre_38 : decode cX10_lettersAre 38 = .ok (.aload_n 0, 1) := by decide +kernel
theorem dX10_lettersAre_39 : decode cX10_lettersAre 39 = .ok (.iload_n 1, 1) := by decide +kernel
theorem dX10_lettersAre_40 : decode cX10_lettersAre 40 = .ok (.iload_n 2, 1) := by decide +kernel
theorem dX10_lettersAre_41 : decode cX10_lettersAre 41 = .ok (.invokestatic 64, 3) := by decide +kernel
theorem dX10_lettersAre_44 : decode cX10_lettersAre 44 = .ok (.istore_n 3, 1) := by decide +kernel
theorem dX10_lettersAre_45 : decode cX10_lettersAre 45 = .ok (.iload_n 3, 1) := by decide +kernel
theorem dX10_lettersAre_46 : decode cX10_lettersAre 46 = .ok (.ifCond .lt 10, 3) := by decide +kernel
theorem dX10_lettersAre_49 : decode cX10_lettersAre 49 = .ok (.bipush 23, 2) := by decide +kernel
theorem dX10_lettersAre_51 : decode cX10_lettersAre 51 = .ok (.iload_n 3, 1) := by decide +kernel
theorem dX10_lettersAre_52 : decode cX10_lettersAre 52 = .ok (.iadd, 1) := by decide +kernel
theorem dX10_lettersAre_53 : decode cX10_lettersAre 53 = .ok (.goto 4, 3) := by decide +kernel
theorem dX10_lettersAre_56 : decode cX10_lettersAre 56 = .ok (.iconst 2, 1) := by decide +kernel
theorem dX10_lettersAre_57 : decode cX10_lettersAre 57 = .ok (.ireturn, 1) := by decide +kernel
theorem dX10_rowOf_0 : decode cX10_rowOf 0 = .ok (.iconst 0, 1) := by decide +kernel
theorem dX10_rowOf_1 : decode cX10_rowOf 1 = .ok (.istore 4, 2) := by decide +kernel
theorem dX10_rowOf_3 : decode cX10_rowOf 3 = .ok (.iload 4, 2) := by decide +kernel
theorem dX10_rowOf_5 : decode cX10_rowOf 5 = .ok (.aload_n 0, 1) := by decide +kernel
theorem dX10_rowOf_6 : decode cX10_rowOf 6 = .ok (.invokevirtual 72, 3) := by decide +kernel
theorem dX10_rowOf_9 : decode cX10_rowOf 9 = .ok (.bipush 8, 2) := by decide +kernel
theorem dX10_rowOf_11 : decode cX10_rowOf 11 = .ok (.idiv, 1) := by decide +kernel
theorem dX10_rowOf_12 : decode cX10_rowOf 12 = .ok (.if_icmp .ge 27, 3) := by decide +kernel
theorem dX10_rowOf_15 : decode cX10_rowOf 15 = .ok (.aload_n 0, 1) := by decide +kernel
theorem dX10_rowOf_16 : decode cX10_rowOf 16 = .ok (.iload 4, 2) := by decide +kernel
theorem dX10_rowOf_18 : decode cX10_rowOf 18 = .ok (.bipush 8, 2) := by decide +kernel
theorem dX10_rowOf_20 : decode cX10_rowOf 20 = .ok (.imul, 1) := by decide +kernel
theorem dX10_rowOf_21 : decode cX10_rowOf 21 = .ok (.aload_n 1, 1) := by decide +kernel
theorem dX10_rowOf_22 : decode cX10_rowOf 22 = .ok (.iload_n 2, 1) := by decide +kernel
theorem dX10_rowOf_23 : decode cX10_rowOf 23 = .ok (.iload_n 3, 1) := by decide +kernel
theorem dX10_rowOf_24 : decode cX10_rowOf 24 = .ok (.invokestatic 78, 3) := by decide +kernel
theorem dX10_rowOf_27 : decode cX10_rowOf 27 = .ok (.ifCond .eq 6, 3) := by decide +kernel
theorem dX10_rowOf_30 : decode cX10_rowOf 30 = .ok (.iload 4, 2) := by decide +kernel
theorem dX10_rowOf_32 : decode cX10_rowOf 32 = .ok (.ireturn, 1) := by decide +kernel
theorem dX10_rowOf_33 : decode cX10_rowOf 33 = .ok (.iinc 4 1, 3) := by decide +kernel
theorem dX10_rowOf_36 : decode cX10_rowOf 36 = .ok (.goto (-33), 3) := by decide +kernel
theorem dX10_rowOf_39 : decode cX10_rowOf 39 = .ok (.iconst (-1), 1) := by decide +kernel
theorem dX10_rowOf_40 : decode cX10_rowOf 40 = .ok (.ireturn, 1) := by decide +kernel
theorem dX10_isRow_0 : decode cX10_isRow 0 = .ok (.iconst 0, 1) := by decide +kernel
theorem dX10_isRow_1 : decode cX10_isRow 1 = .ok (.istore 5, 2) := by decide +kernel
theorem dX10_isRow_3 : decode cX10_isRow 3 = .ok (.iload 5, 2) := by decide +kernel
theorem dX10_isRow_5 : decode cX10_isRow 5 = .ok (.bipush 8, 2) := by decide +kernel
theorem dX10_isRow_7 : decode cX10_isRow 7 = .ok (.if_icmp .ge 64, 3) := by decide +kernel
theorem dX10_isRow_10 : decode cX10_isRow 10 = .ok (.iload_n 1, 1) := by decide +kernel
theorem dX10_isRow_11 : decode cX10_isRow 11 = .ok (.iload 5, 2) := by decide +kernel
theorem dX10_isRow_13 : decode cX10_isRow 13 = .ok (.iadd, 1) := by decide +kernel
theorem dX10_isRow_14 : decode cX10_isRow 14 = .ok (.aload_n 0, 1) := by decide +kernel
theorem dX10_isRow_15 : decode cX10_isRow 15 = .ok (.invokevirtual 72, 3) := by decide +kernel
theorem dX10_isRow_18 : decode cX10_isRow 18 = .ok (.if_icmp .ge 53, 3) := by decide +kernel
theorem dX10_isRow_21 : decode cX10_isRow 21 = .ok (.iload 5, 2) := by decide +kernel
theorem dX10_isRow_23 : decode cX10_isRow 23 = .ok (.iload 4, 2) := by decide +kernel
theorem dX10_isRow_25 : decode cX10_isRow 25 = .ok (.if_icmp .ge 21, 3) := by decide +kernel
theorem dX10_isRow_28 : decode cX10_isRow 28 = .ok (.iload_n 3, 1) := by decide +kernel
theorem dX10_isRow_29 : decode cX10_isRow 29 = .ok (.iload 5, 2) := by decide +kernel
theorem dX10_isRow_31 : decode cX10_isRow 31 = .ok (.iadd, 1) := by decide +kernel
theorem dX10_isRow_32 : decode cX10_isRow 32 = .ok (.aload_n 2, 1) := by decide +kernel
theorem dX10_isRow_33 : decode cX10_isRow 33 = .ok (.arraylength, 1) := by decide +kernel
theorem dX10_isRow_34 : decode cX10_isRow 34 = .ok (.if_icmp .ge 12, 3) := by decide +kernel
theorem dX10_isRow_37 : decode cX10_isRow 37 = .ok (.aload_n 2, 1) := by decide +kernel
theorem dX10_isRow_38 : decode cX10_isRow 38 = .ok (.iload_n 3, 1) := by decide +kernel
theorem dX10_isRow_39 : decode cX10_isRow 39 = .ok (.iload 5, 2) := by decide +kernel
theorem dX10_isRow_41 : decode cX10_isRow 41 = .ok (.iadd, 1) := by decide +kernel
theorem dX10_isRow_42 : decode cX10_isRow 42 = .ok (.baload, 1) := by decide +kernel
theorem dX10_isRow_43 : decode cX10_isRow 43 = .ok (.goto 5, 3) := by decide +kernel
theorem dX10_isRow_46 : decode cX10_isRow 46 = .ok (.bipush 32, 2) := by decide +kernel
theorem dX10_isRow_48 : decode cX10_isRow 48 = .ok (.istore 6, 2) := by decide +kernel
theorem dX10_isRow_50 : decode cX10_isRow 50 = .ok (.aload_n 0, 1) := by decide +kernel
theorem dX10_isRow_51 : decode cX10_isRow 51 = .ok (.iload_n 1, 1) := by decide +kernel
theorem dX10_isRow_52 : decode cX10_isRow 52 = .ok (.iload 5, 2) := by decide +kernel
theorem dX10_isRow_54 : decode cX10_isRow 54 = .ok (.iadd, 1) := by decide +kernel
theorem dX10_isRow_55 : decode cX10_isRow 55 = .ok (.invokevirtual 82, 3) := by decide +kernel
theorem dX10_isRow_58 : decode cX10_isRow 58 = .ok (.iload 6, 2) := by decide +kernel
theorem dX10_isRow_60 : decode cX10_isRow 60 = .ok (.if_icmp .eq 5, 3) := by decide +kernel
theorem dX10_isRow_63 : decode cX10_isRow 63 = .ok (.iconst 0, 1) := by decide +kernel
theorem dX10_isRow_64 : decode cX10_isRow 64 = .ok (.ireturn, 1) := by decide +kernel
theorem dX10_isRow_65 : decode cX10_isRow 65 = .ok (.iinc 5 1, 3) := by decide +kernel
theorem dX10_isRow_68 : decode cX10_isRow 68 = .ok (.goto (-65), 3) := by decide +kernel
theorem dX10_isRow_71 : decode cX10_isRow 71 = .ok (.iconst 1, 1) := by decide +kernel
theorem dX10_isRow_72 : decode cX10_isRow 72 = .ok (.ireturn, 1) := by decide +kernel
theorem dX10_isLetter_0 : decode cX10_isLetter 0 = .ok (.iload_n 0, 1) := by decide +kernel
theorem dX10_isLetter_1 : decode cX10_isLetter 1 = .ok (.bipush 97, 2) := by decide +kernel
theorem dX10_isLetter_3 : decode cX10_isLetter 3 = .ok (.if_icmp .lt 13, 3) := by decide +kernel
theorem dX10_isLetter_6 : decode cX10_isLetter 6 = .ok (.iload_n 0, 1) := by decide +kernel
theorem dX10_isLetter_7 : decode cX10_isLetter 7 = .ok (.bipush 122, 2) := by decide +kernel
theorem dX10_isLetter_9 : decode cX10_isLetter 9 = .ok (.if_icmp .gt 7, 3) := by decide +kernel
theorem dX10_isLetter_12 : decode cX10_isLetter 12 = .ok (.iconst 1, 1) := by decide +kernel
theorem dX10_isLetter_13 : decode cX10_isLetter 13 = .ok (.goto 4, 3) := by decide +kernel
theorem dX10_isLetter_16 : decode cX10_isLetter 16 = .ok (.iconst 0, 1) := by decide +kernel
theorem dX10_isLetter_17 : decode cX10_isLetter 17 = .ok (.ireturn, 1) := by decide +kernel
theorem dX10_isFigure_0 : decode cX10_isFigure 0 = .ok (.iload_n 0, 1) := by decide +kernel
theorem dX10_isFigure_1 : decode cX10_isFigure 1 = .ok (.bipush 48, 2) := by decide +kernel
theorem dX10_isFigure_3 : decode cX10_isFigure 3 = .ok (.if_icmp .lt 13, 3) := by decide +kernel
theorem dX10_isFigure_6 : decode cX10_isFigure 6 = .ok (.iload_n 0, 1) := by decide +kernel
theorem dX10_isFigure_7 : decode cX10_isFigure 7 = .ok (.bipush 57, 2) := by decide +kernel
theorem dX10_isFigure_9 : decode cX10_isFigure 9 = .ok (.if_icmp .gt 7, 3) := by decide +kernel
theorem dX10_isFigure_12 : decode cX10_isFigure 12 = .ok (.iconst 1, 1) := by decide +kernel
theorem dX10_isFigure_13 : decode cX10_isFigure 13 = .ok (.goto 4, 3) := by decide +kernel
theorem dX10_isFigure_16 : decode cX10_isFigure 16 = .ok (.iconst 0, 1) := by decide +kernel
theorem dX10_isFigure_17 : decode cX10_isFigure 17 = .ok (.ireturn, 1) := by decide +kernel
theorem dX11_init_0 : decode cX11_init 0 = .ok (.aload_n 0, 1) := by decide +kernel
theorem dX11_init_1 : decode cX11_init 1 = .ok (.invokespecial 1, 3) := by decide +kernel
theorem dX11_init_4 : decode cX11_init 4 = .ok (.aload_n 0, 1) := by decide +kernel
theorem dX11_init_5 : decode cX11_init 5 = .ok (.sipush 800, 3) := by decide +kernel
theorem dX11_init_8 : decode cX11_init 8 = .ok (.newarray .byte, 2) := by decide +kernel
theorem dX11_init_10 : decode cX11_init 10 = .ok (.putfield 9, 3) := by decide +kernel
theorem dX11_init_13 : decode cX11_init 13 = .ok (.aload_n 0, 1) := by decide +kernel
theorem dX11_init_14 : decode cX11_init 14 = .ok (.iconst 0, 1) := by decide +kernel
theorem dX11_init_15 : decode cX11_init 15 = .ok (.putfield 13, 3) := by decide +kernel
theorem dX11_init_18 : decode cX11_init 18 = .ok (.aload_n 0, 1) := by decide +kernel
theorem dX11_init_19 : decode cX11_init 19 = .ok (.iconst (-1), 1) := by decide +kernel
theorem dX11_init_20 : decode cX11_init 20 = .ok (.putfield 17, 3) := by decide +kernel
theorem dX11_init_23 : decode cX11_init 23 = .ok (.aload_n 0, 1) := by decide +kernel
theorem dX11_init_24 : decode cX11_init 24 = .ok (.new 20, 3) := by decide +kernel
theorem dX11_init_27 : decode cX11_init 27 = .ok (.dup, 1) := by decide +kernel
theorem dX11_init_28 : decode cX11_init 28 = .ok (.invokespecial 22, 3) := by decide +kernel
theorem dX11_init_31 : decode cX11_init 31 = .ok (.putfield 23, 3) := by decide +kernel
theorem dX11_init_34 : decode cX11_init 34 = .ok (.aload_n 0, 1) := by decide +kernel
theorem dX11_init_35 : decode cX11_init 35 = .ok (.bipush 20, 2) := by decide +kernel
theorem dX11_init_37 : decode cX11_init 37 = .ok (.anewarray 27, 3) := by decide +kernel
theorem dX11_init_40 : decode cX11_init 40 = .ok (.putfield 29, 3) := by decide +kernel
theorem dX11_init_43 : decode cX11_init 43 = .ok (.aload_n 0, 1) := by decide +kernel
theorem dX11_init_44 : decode cX11_init 44 = .ok (.iconst 0, 1) := by decide +kernel
theorem dX11_init_45 : decode cX11_init 45 = .ok (.putfield 33, 3) := by decide +kernel
theorem dX11_init_48 : decode cX11_init 48 = .ok (.aload_n 0, 1) := by decide +kernel
theorem dX11_init_49 : decode cX11_init 49 = .ok (.new 36, 3) := by decide +kernel
theorem dX11_init_52 : decode cX11_init 52 = .ok (.dup, 1) := by decide +kernel
theorem dX11_init_53 : decode cX11_init 53 = .ok (.invokespecial 38, 3) := by decide +kernel
theorem dX11_init_56 : decode cX11_init 56 = .ok (.putfield 39, 3) := by decide +kernel
theorem dX11_init_59 : decode cX11_init 59 = .ok (.aload_n 0, 1) := by decide +kernel
theorem dX11_init_60 : decode cX11_init 60 = .ok (.sipush 512, 3) := by decide +kernel
theorem dX11_init_63 : decode cX11_init 63 = .ok (.anewarray 43, 3) := by decide +kernel
theorem dX11_init_66 : decode cX11_init 66 = .ok (.putfield 45, 3) := by decide +kernel
theorem dX11_init_69 : decode cX11_init 69 = .ok (.aload_n 0, 1) := by decide +kernel
theorem dX11_init_70 : decode cX11_init 70 = .ok (.iconst 0, 1) := by decide +kernel
theorem dX11_init_71 : decode cX11_init 71 = .ok (.putfield 49, 3) := by decide +kernel
theorem dX11_init_74 : decode cX11_init 74 = .ok (.aload_n 0, 1) := by decide +kernel
theorem dX11_init_75 : decode cX11_init 75 = .ok (.iconst 5, 1) := by decide +kernel
theorem dX11_init_76 : decode cX11_init 76 = .ok (.newarray .int, 2) := by decide +kernel
theorem dX11_init_78 : decode cX11_init 78 = .ok (.putfield 52, 3) := by decide +kernel
theorem dX11_init_81 : decode cX11_init 81 = .ok (.new 56, 3) := by decide +kernel
theorem dX11_init_84 : decode cX11_init 84 = .ok (.dup, 1) := by decide +kernel
theorem dX11_init_85 : decode cX11_init 85 = .ok (.ldc 58, 2) := by decide +kernel
theorem dX11_init_87 : decode cX11_init 87 = .ok (.invokestatic 60, 3) := by decide +kernel
theorem dX11_init_90 : decode cX11_init 90 = .ok (.iconst 0, 1) := by decide +kernel
theorem dX11_init_91 : decode cX11_init 91 = .ok (.invokespecial 64, 3) := by decide +kernel
theorem dX11_init_94 : decode cX11_init 94 = .ok (.astore_n 1, 1) := by decide +kernel
theorem dX11_init_95 : decode cX11_init 95 = .ok (.iconst 0, 1) := by decide +kernel
theorem dX11_init_96 : decode cX11_init 96 = .ok (.istore_n 2, 1) := by decide +kernel
theorem dX11_init_97 : decode cX11_init 97 = .ok (.iload_n 2, 1) := by decide +kernel
theorem dX11_init_98 : decode cX11_init 98 = .ok (.bipush 6, 2) := by decide +kernel
theorem dX11_init_100 : decode cX11_init 100 = .ok (.if_icmp .ge 39, 3) := by decide +kernel
theorem dX11_init_103 : decode cX11_init 103 = .ok (.aload_n 1, 1) := by decide +kernel
theorem dX11_init_104 : decode cX11_init 104 = .ok (.new 67, 3) := by decide +kernel
theorem dX11_init_107 : decode cX11_init 107 = .ok (.dup, 1) := by decide +kernel
theorem dX11_init_108 : decode cX11_init 108 = .ok (.aload_n 1, 1) := by decide +kernel
theorem dX11_init_109 : decode cX11_init 109 = .ok (.iload_n 2, 1) := by decide +kernel
theorem dX11_init_110 : decode cX11_init 110 = .ok (.iload_n 2, 1) := by decide +kernel
theorem dX11_init_111 : decode cX11_init 111 = .ok (.invokestatic 69, 3) := by decide +kernel
theorem dX11_init_114 : decode cX11_init 114 = .ok (.iconst 0, 1) := by decide +kernel
theorem dX11_init_115 : decode cX11_init 115 = .ok (.iconst 0, 1) := by decide +kernel
theorem dX11_init_116 : decode cX11_init 116 = .ok (.invokespecial 73, 3) := by decide +kernel
theorem dX11_init_119 : decode cX11_init 119 = .ok (.invokevirtual 76, 3) := by decide +kernel
theorem dX11_init_122 : decode cX11_init 122 = .ok (.aload_n 1, 1) := by decide +kernel
theorem dX11_init_123 : decode cX11_init 123 = .ok (.iload_n 2, 1) := by decide +kernel
theorem dX11_init_124 : decode cX11_init 124 = .ok (.invokevirtual 80, 3) := by decide +kernel
theorem dX11_init_127 : decode cX11_init 127 = .ok (.bipush 15, 2) := by decide +kernel
theorem dX11_init_129 : decode cX11_init 129 = .ok (.iload_n 2, 1) := by decide +kernel
theorem dX11_init_130 : decode cX11_init 130 = .ok (.invokestatic 84, 3) := by decide +kernel
theorem dX11_init_133 : decode cX11_init 133 = .ok (.iinc 2 1, 3) := by decide +kernel
theorem dX11_init_136 : decode cX11_init 136 = .ok (.goto (-39), 3) := by decide +kernel
theorem dX11_init_139 : decode cX11_init 139 = .ok (.aload_n 0, 1) := by decide +kernel
theorem dX11_init_140 : decode cX11_init 140 = .ok (.getfield 23, 3) := by decide +kernel
theorem dX11_init_143 : decode cX11_init 143 = .ok (.aload_n 1, 1) := by decide +kernel
theorem dX11_init_144 : decode cX11_init 144 = .ok (.aconst_null, 1) := by decide +kernel
theorem dX11_init_145 : decode cX11_init 145 = .ok (.iconst 0, 1) := by decide +kernel
theorem dX11_init_146 : decode cX11_init 146 = .ok (.bipush (-7), 2) := by decide +kernel
theorem dX11_init_148 : decode cX11_init 148 = .ok (.invokevirtual 88, 3) := by decide +kernel
theorem dX11_init_151 : decode cX11_init 151 = .ok (.new 56, 3) := by decide +kernel
theorem dX11_init_154 : decode cX11_init 154 = .ok (.dup, 1) := by decide +kernel
theorem dX11_init_155 : decode cX11_init 155 = .ok (.ldc 92, 2) := by decide +kernel
theorem dX11_init_157 : decode cX11_init 157 = .ok (.invokestatic 60, 3) := by decide +kernel
theorem dX11_init_160 : decode cX11_init 160 = .ok (.iconst 0, 1) := by decide +kernel
theorem dX11_init_161 : decode cX11_init 161 = .ok (.invokespecial 64, 3) := by decide +kernel
theorem dX11_init_164 : decode cX11_init 164 = .ok (.astore_n 2, 1) := by decide +kernel
theorem dX11_init_165 : decode cX11_init 165 = .ok (.aload_n 2, 1) := by decide +kernel
theorem dX11_init_166 : decode cX11_init 166 = .ok (.new 67, 3) := by decide +kernel
theorem dX11_init_169 : decode cX11_init 169 = .ok (.dup, 1) := by decide +kernel
theorem dX11_init_170 : decode cX11_init 170 = .ok (.aload_n 2, 1) := by decide +kernel
theorem dX11_init_171 : decode cX11_init 171 = .ok (.iconst 4, 1) := by decide +kernel
theorem dX11_init_172 : decode cX11_init 172 = .ok (.iconst 2, 1) := by decide +kernel
theorem dX11_init_173 : decode cX11_init 173 = .ok (.iconst 0, 1) := by decide +kernel
theorem dX11_init_174 : decode cX11_init 174 = .ok (.iconst 0, 1) := by decide +kernel
theorem dX11_init_175 : decode cX11_init 175 = .ok (.invokespecial 73, 3) := by decide +kernel
theorem dX11_init_178 : decode cX11_init 178 = .ok (.invokevirtual 76, 3) := by decide +kernel
theorem dX11_init_181 : decode cX11_init 181 = .ok (.aload_n 2, 1) := by decide +kernel
theorem dX11_init_182 : decode cX11_init 182 = .ok (.iconst 4, 1) := by decide +kernel
theorem dX11_init_183 : decode cX11_init 183 = .ok (.invokevirtual 80, 3) := by decide +kernel
theorem dX11_init_186 : decode cX11_init 186 = .ok (.bipush 13, 2) := by decide +kernel
theorem dX11_init_188 : decode cX11_init 188 = .ok (.iconst 0, 1) := by decide +kernel
theorem dX11_init_189 : decode cX11_init 189 = .ok (.invokestatic 84, 3) := by decide +kernel
theorem dX11_init_192 : decode cX11_init 192 = .ok (.aload_n 2, 1) := by decide +kernel
theorem dX11_init_193 : decode cX11_init 193 = .ok (.iconst 4, 1) := by decide +kernel
theorem dX11_init_194 : decode cX11_init 194 = .ok (.invokevirtual 80, 3) := by decide +kernel
theorem dX11_init_197 : decode cX11_init 197 = .ok (.bipush 15, 2) := by decide +kernel
theorem dX11_init_199 : decode cX11_init 199 = .ok (.bipush 14, 2) := by decide +kernel
theorem dX11_init_201 : decode cX11_init 201 = .ok (.invokestatic 84, 3) := by decide +kernel
theorem dX11_init_204 : decode cX11_init 204 = .ok (.aload_n 0, 1) := by decide +kernel
theorem dX11_init_205 : decode cX11_init 205 = .ok (.getfield 23, 3) := by decide +kernel
theorem dX11_init_208 : decode cX11_init 208 = .ok (.aload_n 2, 1) := by decide +kernel
theorem dX11_init_209 : decode cX11_init 209 = .ok (.aload_n 1, 1) := by decide +kernel
theorem dX11_init_210 : decode cX11_init 210 = .ok (.iconst 0, 1) := by decide +kernel
theorem dX11_init_211 : decode cX11_init 211 = .ok (.bipush (-7), 2) := by decide +kernel
theorem dX11_init_213 : decode cX11_init 213 = .ok (.invokevirtual 88, 3) := by decide +kernel
theorem dX11_init_216 : decode cX11_init 216 = .ok (.new 56, 3) := by decide +kernel
theorem dX11_init_219 : decode cX11_init 219 = .ok (.dup, 1) := by decide +kernel
theorem dX11_init_220 : decode cX11_init 220 = .ok (.ldc 94, 2) := by decide +kernel
theorem dX11_init_222 : decode cX11_init 222 = .ok (.invokestatic 60, 3) := by decide +kernel
theorem dX11_init_225 : decode cX11_init 225 = .ok (.iconst 0, 1) := by decide +kernel
theorem dX11_init_226 : decode cX11_init 226 = .ok (.invokespecial 64, 3) := by decide +kernel
theorem dX11_init_229 : decode cX11_init 229 = .ok (.astore_n 3, 1) := by decide +kernel
theorem dX11_init_230 : decode cX11_init 230 = .ok (.aload_n 3, 1) := by decide +kernel
theorem dX11_init_231 : decode cX11_init 231 = .ok (.new 67, 3) := by decide +kernel
theorem dX11_init_234 : decode cX11_init 234 = .ok (.dup, 1) := by decide +kernel
theorem dX11_init_235 : decode cX11_init 235 = .ok (.aload_n 3, 1) := by decide +kernel
theorem dX11_init_236 : decode cX11_init 236 = .ok (.iconst 2, 1) := by decide +kernel
theorem dX11_init_237 : decode cX11_init 237 = .ok (.iconst 1, 1) := by decide +kernel
theorem dX11_init_238 : decode cX11_init 238 = .ok (.iconst 1, 1) := by decide +kernel
theorem dX11_init_239 : decode cX11_init 239 = .ok (.iconst 0, 1) := by decide +kernel
theorem dX11_init_240 : decode cX11_init 240 = .ok (.invokespecial 73, 3) := by decide +kernel
theorem dX11_init_243 : decode cX11_init 243 = .ok (.invokevirtual 76, 3) := by decide +kernel
theorem dX11_init_246 : decode cX11_init 246 = .ok (.aload_n 3, 1) := by decide +kernel
theorem dX11_init_247 : decode cX11_init 247 = .ok (.iconst 2, 1) := by decide +kernel
theorem dX11_init_248 : decode cX11_init 248 = .ok (.invokevirtual 80, 3) := by decide +kernel
theorem dX11_init_251 : decode cX11_init 251 = .ok (.bipush 13, 2) := by decide +kernel
theorem dX11_init_253 : decode cX11_init 253 = .ok (.iconst 0, 1) := by decide +kernel
theorem dX11_init_254 : decode cX11_init 254 = .ok (.invokestatic 84, 3) := by decide +kernel
theorem dX11_init_257 : decode cX11_init 257 = .ok (.aload_n 3, 1) := by decide +kernel
theorem dX11_init_258 : decode cX11_init 258 = .ok (.iconst 2, 1) := by decide +kernel
theorem dX11_init_259 : decode cX11_init 259 = .ok (.invokevirtual 80, 3) := by decide +kernel
theorem dX11_init_262 : decode cX11_init 262 = .ok (.bipush 16, 2) := by decide +kernel
theorem dX11_init_264 : decode cX11_init 264 = .ok (.iconst 1, 1) := by decide +kernel
theorem dX11_init_265 : decode cX11_init 265 = .ok (.invokestatic 84, 3) := by decide +kernel
theorem dX11_init_268 : decode cX11_init 268 = .ok (.aload_n 0, 1) := by decide +kernel
theorem dX11_init_269 : decode cX11_init 269 = .ok (.getfield 23, 3) := by decide +kernel
theorem dX11_init_272 : decode cX11_init 272 = .ok (.aload_n 3, 1) := by decide +kernel
theorem dX11_init_273 : decode cX11_init 273 = .ok (.aload_n 2, 1) := by decide +kernel
theorem dX11_init_274 : decode cX11_init 274 = .ok (.iconst 0, 1) := by decide +kernel
theorem dX11_init_275 : decode cX11_init 275 = .ok (.bipush (-7), 2) := by decide +kernel
theorem dX11_init_277 : decode cX11_init 277 = .ok (.invokevirtual 88, 3) := by decide +kernel
theorem dX11_init_280 : decode cX11_init 280 = .ok (.return_, 1) := by decide +kernel
theorem dX11_feed_0 : decode cX11_feed 0 = .ok (.iload_n 3, 1) := by decide +kernel
theorem dX11_feed_1 : decode cX11_feed 1 = .ok (.iconst 1, 1) := by decide +kernel
theorem dX11_feed_2 : decode cX11_feed 2 = .ok (.if_icmp .lt 9, 3) := by decide +kernel
theorem dX11_feed_5 : decode cX11_feed 5 = .ok (.iload_n 3, 1) := by decide +kernel
theorem dX11_feed_6 : decode cX11_feed 6 = .ok (.bipush 8, 2) := by decide +kernel
theorem dX11_feed_8 : decode cX11_feed 8 = .ok (.if_icmp .le 9, 3) := by decide +kernel
theorem dX11_feed_11 : decode cX11_feed 11 = .ok (.aload_n 0, 1) := by decide +kernel
theorem dX11_feed_12 : decode cX11_feed 12 = .ok (.iconst (-1), 1) := by decide +kernel
theorem dX11_feed_13 : decode cX11_feed 13 = .ok (.invokevirtual 96, 3) := by decide +kernel
theorem dX11_feed_16 : decode cX11_feed 16 = .ok (.ireturn, 1) := by decide +kernel
theorem dX11_feed_17 : decode cX11_feed 17 = .ok (.aload_n 0, 1) := by decide +kernel
theorem dX11_feed_18 : decode cX11_feed 18 = .ok (.getfield 13, 3) := by decide +kernel
theorem dX11_feed_21 : decode cX11_feed 21 = .ok (.iload_n 3, 1) := by decide +kernel
theorem dX11_feed_22 : decode cX11_feed 22 = .ok (.iadd, 1) := by decide +kernel
theorem dX11_feed_23 : decode cX11_feed 23 = .ok (.aload_n 0, 1) := by decide +kernel
theorem dX11_feed_24 : decode cX11_feed 24 = .ok (.getfield 9, 3) := by decide +kernel
theorem dX11_feed_27 : decode cX11_feed 27 = .ok (.arraylength, 1) := by decide +kernel
theorem dX11_feed_28 : decode cX11_feed 28 = .ok (.if_icmp .le 10, 3) := by decide +kernel
theorem dX11_feed_31 : decode cX11_feed 31 = .ok (.aload_n 0, 1) := by decide +kernel
theorem dX11_feed_32 : decode cX11_feed 32 = .ok (.bipush (-3), 2) := by decide +kernel
theorem dX11_feed_34 : decode cX11_feed 34 = .ok (.invokevirtual 96, 3) := by decide +kernel
theorem dX11_feed_37 : decode cX11_feed 37 = .ok (.ireturn, 1) := by decide +kernel
theorem dX11_feed_38 : decode cX11_feed 38 = .ok (.iconst 0, 1) := by decide +kernel
theorem dX11_feed_39 : decode cX11_feed 39 = .ok (.istore 4, 2) := by decide +kernel
theorem dX11_feed_41 : decode cX11_feed 41 = .ok (.iload 4, 2) := by decide +kernel
theorem dX11_feed_43 : decode cX11_feed 43 = .ok (.iload_n 3, 1) := by decide +kernel
theorem dX11_feed_44 : decode cX11_feed 44 = .ok (.if_icmp .ge 30, 3) := by decide +kernel
theorem dX11_feed_47 : decode cX11_feed 47 = .ok (.aload_n 0, 1) := by decide +kernel
theorem dX11_feed_48 : decode cX11_feed 48 = .ok (.getfield 9, 3) := by decide +kernel
theorem dX11_feed_51 : decode cX11_feed 51 = .ok (.aload_n 0, 1) := by decide +kernel
theorem dX11_feed_52 : decode cX11_feed 52 = .ok (.getfield 13, 3) := by decide +kernel
theorem dX11_feed_55 : decode cX11_feed 55 = .ok (.iload 4, 2) := by decide +kernel
theorem dX11_feed_57 : decode cX11_feed 57 = .ok (.iadd, 1) := by decide +kernel
theorem dX11_feed_58 : decode cX11_feed 58 = .ok (.lload_n 1, 1) := by decide +kernel
theorem dX11_feed_59 : decode cX11_feed 59 = .ok (.bipush 8, 2) := by decide +kernel
theorem dX11_feed_61 : decode cX11_feed 61 = .ok (.iload 4, 2) := by decide +kernel
theorem dX11_feed_63 : decode cX11_feed 63 = .ok (.imul, 1) := by decide +kernel
theorem dX11_feed_64 : decode cX11_feed 64 = .ok (.lushr, 1) := by decide +kernel
theorem dX11_feed_65 : decode cX11_feed 65 = .ok (.l2i, 1) := by decide +kernel
theorem dX11_feed_66 : decode cX11_feed 66 = .ok (.i2b, 1) := by decide +kernel
theorem dX11_feed_67 : decode cX11_feed 67 = .ok (.bastore, 1) := by decide +kernel
theorem dX11_feed_68 : decode cX11_feed 68 = .ok (.iinc 4 1, 3) := by decide +kernel
theorem dX11_feed_71 : decode cX11_feed 71 = .ok (.goto (-30), 3) := by decide +kernel
theorem dX11_feed_74 : decode cX11_feed 74 = .ok (.aload_n 0, 1) := by decide +kernel
theorem dX11_feed_75 : decode cX11_feed 75 = .ok (.dup, 1) := by decide +kernel
theorem dX11_feed_76 : decode cX11_feed 76 = .ok (.getfield 13, 3) := by decide +kernel
theorem dX11_feed_79 : decode cX11_feed 79 = .ok (.iload_n 3, 1) := by decide +kernel
theorem dX11_feed_80 : decode cX11_feed 80 = .ok (.iadd, 1) := by decide +kernel
theorem dX11_feed_81 : decode cX11_feed 81 = .ok (.putfield 13, 3) := by decide +kernel
theorem dX11_feed_84 : decode cX11_feed 84 = .ok (.aload_n 0, 1) := by decide +kernel
theorem dX11_feed_85 : decode cX11_feed 85 = .ok (.getfield 13, 3) := by decide +kernel
theorem dX11_feed_88 : decode cX11_feed 88 = .ok (.ireturn, 1) := by decide +kernel
theorem dX11_pack_0 : decode cX11_pack 0 = .ok (.new 99, 3) := by decide +kernel
theorem dX11_pack_3 : decode cX11_pack 3 = .ok (.dup, 1) := by decide +kernel
theorem dX11_pack_4 : decode cX11_pack 4 = .ok (.invokespecial 101, 3) := by decide +kernel
theorem dX11_pack_7 : decode cX11_pack 7 = .ok (.astore_n 1, 1) := by decide +kernel
theorem dX11_pack_8 : decode cX11_pack 8 = .ok (.aload_n 1, 1) := by decide +kernel
theorem dX11_pack_9 : decode cX11_pack 9 = .ok (.aload_n 0, 1) := by decide +kernel
theorem dX11_pack_10 : decode cX11_pack 10 = .ok (.getfield 9, 3) := by decide +kernel
theorem dX11_pack_13 : decode cX11_pack 13 = .ok (.aload_n 0, 1) := by decide +kernel
theorem dX11_pack_14 : decode cX11_pack 14 = .ok (.getfield 13, 3) := by decide +kernel
theorem dX11_pack_17 : decode cX11_pack 17 = .ok (.invokevirtual 102, 3) := by decide +kernel
theorem dX11_pack_20 : decode cX11_pack 20 = .ok (.astore_n 2, 1) := by decide +kernel
theorem dX11_pack_21 : decode cX11_pack 21 = .ok (.aload_n 0, 1) := by decide +kernel
theorem dX11_pack_22 : decode cX11_pack 22 = .ok (.iconst 0, 1) := by decide +kernel
theorem dX11_pack_23 : decode cX11_pack 23 = .ok (.putfield 13, 3) := by decide +kernel
theorem dX11_pack_26 : decode cX11_pack 26 = .ok (.aload_n 0, 1) := by decide +kernel
theorem dX11_pack_27 : decode cX11_pack 27 = .ok (.aload_n 1, 1) := by decide +kernel
theorem dX11_pack_28 : decode cX11_pack 28 = .ok (.getfield 106, 3) := by decide +kernel
theorem dX11_pack_31 : decode cX11_pack 31 = .ok (.putfield 17, 3) := by decide +kernel
theorem dX11_pack_34 : decode cX11_pack 34 = .ok (.aload_n 0, 1) := by decide +kernel
theorem dX11_pack_35 : decode cX11_pack 35 = .ok (.getfield 17, 3) := by decide +kernel
theorem dX11_pack_38 : decode cX11_pack 38 = .ok (.ifCond .lt 5, 3) := by decide +kernel
theorem dX11_pack_41 : decode cX11_pack 41 = .ok (.iconst 1, 1) := by decide +kernel
theorem dX11_pack_42 : decode cX11_pack 42 = .ok (.ireturn, 1) := by decide +kernel
theorem dX11_pack_43 : decode cX11_pack 43 = .ok (.new 109, 3) := by decide +kernel
theorem dX11_pack_46 : decode cX11_pack 46 = .ok (.dup, 1) := by decide +kernel
theorem dX11_pack_47 : decode cX11_pack 47 = .ok (.aload_n 0, 1) := by decide +kernel
theorem dX11_pack_48 : decode cX11_pack 48 = .ok (.getfield 23, 3) := by decide +kernel
theorem dX11_pack_51 : decode cX11_pack 51 = .ok (.aload_n 2, 1) := by decide +kernel
theorem dX11_pack_52 : decode cX11_pack 52 = .ok (.invokespecial 111, 3) := by decide +kernel
theorem dX11_pack_55 : decode cX11_pack 55 = .ok (.astore_n 3, 1) := by decide +kernel
theorem dX11_pack_56 : decode cX11_pack 56 = .ok (.aload_n 3, 1) := by decide +kernel
theorem dX11_pack_57 : decode cX11_pack 57 = .ok (.invokevirtual 114, 3) := by decide +kernel
theorem dX11_pack_60 : decode cX11_pack 60 = .ok (.aload_n 0, 1) := by decide +kernel
theorem dX11_pack_61 : decode cX11_pack 61 = .ok (.aload_n 3, 1) := by decide +kernel
theorem dX11_pack_62 : decode cX11_pack 62 = .ok (.getfield 117, 3) := by decide +kernel
theorem dX11_pack_65 : decode cX11_pack 65 = .ok (.putfield 17, 3) := by decide +kernel
theorem dX11_pack_68 : decode cX11_pack 68 = .ok (.aload_n 3, 1) := by decide +kernel
theorem dX11_pack_69 : decode cX11_pack 69 = .ok (.getfield 120, 3) := by decide +kernel
theorem dX11_pack_72 : decode cX11_pack 72 = .ok (.ifCond .eq 8, 3) := by decide +kernel
theorem dX11_pack_75 : decode cX11_pack 75 = .ok (.aload_n 3, 1) := by decide +kernel
theorem dX11_pack_76 : decode cX11_pack 76 = .ok (.getfield 120, 3) := by decide +kernel
theorem dX11_pack_79 : decode cX11_pack 79 = .ok (.ireturn, 1) := by decide +kernel
theorem dX11_pack_80 : decode cX11_pack 80 = .ok (.aload_n 0, 1) := by decide +kernel
theorem dX11_pack_81 : decode cX11_pack 81 = .ok (.getfield 23, 3) := by decide +kernel
theorem dX11_pack_84 : decode cX11_pack 84 = .ok (.aload_n 2, 1) := by decide +kernel
theorem dX11_pack_85 : decode cX11_pack 85 = .ok (.invokevirtual 121, 3) := by decide +kernel
theorem dX11_pack_88 : decode cX11_pack 88 = .ok (.ifCond .ne 10, 3) := by decide +kernel
theorem dX11_pack_91 : decode cX11_pack 91 = .ok (.aload_n 0, 1) := by decide +kernel
theorem dX11_pack_92 : decode cX11_pack 92 = .ok (.bipush (-3), 2) := by decide +kernel
theorem dX11_pack_94 : decode cX11_pack 94 = .ok (.invokevirtual 96, 3) := by decide +kernel
theorem dX11_pack_97 : decode cX11_pack 97 = .ok (.ireturn, 1) := by decide +kernel
theorem dX11_pack_98 : decode cX11_pack 98 = .ok (.aload_n 0, 1) := by decide +kernel
theorem dX11_pack_99 : decode cX11_pack 99 = .ok (.getfield 23, 3) := by decide +kernel
theorem dX11_pack_102 : decode cX11_pack 102 = .ok (.aload_n 2, 1) := by decide +kernel
theorem dX11_pack_103 : decode cX11_pack 103 = .ok (.invokevirtual 125, 3) := by decide +kernel
theorem dX11_pack_106 : decode cX11_pack 106 = .ok (.iconst 0, 1) := by decide +kernel
theorem dX11_pack_107 : decode cX11_pack 107 = .ok (.ireturn, 1) := by decide +kernel
theorem dX11_place_0 : decode cX11_place 0 = .ok (.aload_n 0, 1) := by decide +kernel
theorem dX11_place_1 : decode cX11_place 1 = .ok (.getfield 17, 3) := by decide +kernel
theorem dX11_place_4 : decode cX11_place 4 = .ok (.ireturn, 1) := by decide +kernel
theorem dX11_retire_0 : decode cX11_retire 0 = .ok (.aload_n 0, 1) := by decide +kernel
theorem dX11_retire_1 : decode cX11_retire 1 = .ok (.getfield 23, 3) := by decide +kernel
theorem dX11_retire_4 : decode cX11_retire 4 = .ok (.iload_n 1, 1) := by decide +kernel
theorem dX11_retire_5 : decode cX11_retire 5 = .ok (.invokevirtual 129, 3) := by decide +kernel
theorem dX11_retire_8 : decode cX11_retire 8 = .ok (.astore_n 2, 1) := by decide +kernel
theorem dX11_retire_9 : decode cX11_retire 9 = .ok (.aload_n 2, 1) := by decide +kernel
theorem dX11_retire_10 : decode cX11_retire 10 = .ok (.ifnonnull 9, 3) := by decide +kernel
theorem dX11_retire_13 : decode cX11_retire 13 = .ok (.aload_n 0, 1) := by decide +kernel
theorem dX11_retire_14 : decode cX11_retire 14 = .ok (.iconst (-1), 1) := by decide +kernel
theorem dX11_retire_15 : decode cX11_retire 15 = .ok (.invokevirtual 96, 3) := by decide +kernel
theorem dX11_retire_18 : decode cX11_retire 18 = .ok (.ireturn, 1) := by decide +kernel
theorem dX11_retire_19 : decode cX11_retire 19 = .ok (.aload_n 2, 1) := by decide +kernel
theorem dX11_retire_20 : decode cX11_retire 20 = .ok (.getfield 133, 3) := by decide +kernel
theorem dX11_retire_23 : decode cX11_retire 23 = .ok (.ifCond .eq 5, 3) := by decide +kernel
theorem dX11_retire_26 : decode cX11_retire 26 = .ok (.iconst 0, 1) := by decide +kernel
theorem dX11_retire_27 : decode cX11_retire 27 = .ok (.ireturn, 1) := by decide +kernel
theorem dX11_retire_28 : decode cX11_retire 28 = .ok (.aload_n 2, 1) := by decide +kernel
theorem dX11_retire_29 : decode cX11_retire 29 = .ok (.iconst 1, 1) := by decide +kernel
theorem dX11_retire_30 : decode cX11_retire 30 = .ok (.putfield 133, 3) := by decide +kernel
theorem dX11_retire_33 : decode cX11_retire 33 = .ok (.iconst 1, 1) := by decide +kernel
theorem dX11_retire_34 : decode cX11_retire 34 = .ok (.ireturn, 1) := by decide +kernel
theorem dX11_kind_0 : decode cX11_kind 0 = .ok (.aload_n 0, 1) := by decide +kernel
theorem dX11_kind_1 : decode cX11_kind 1 = .ok (.getfield 23, 3) := by decide +kernel
theorem dX11_kind_4 : decode cX11_kind 4 = .ok (.iload_n 1, 1) := by decide +kernel
theorem dX11_kind_5 : decode cX11_kind 5 = .ok (.invokevirtual 139, 3) := by decide +kernel
theorem dX11_kind_8 : decode cX11_kind 8 = .ok (.astore_n 3, 1) := by decide +kernel
theorem dX11_kind_9 : decode cX11_kind 9 = .ok (.aload_n 3, 1) := by decide +kernel
theorem dX11_kind_10 : decode cX11_kind 10 = .ok (.ifnonnull 9, 3) := by decide +kernel
theorem dX11_kind_13 : decode cX11_kind 13 = .ok (.aload_n 0, 1) := by decide +kernel
theorem dX11_kind_14 : decode cX11_kind 14 = .ok (.iconst (-1), 1) := by decide +kernel
theorem dX11_kind_15 : decode cX11_kind 15 = .ok (.invokevirtual 96, 3) := by decide +kernel
theorem dX11_kind_18 : decode cX11_kind 18 = .ok (.ireturn, 1) := by decide +kernel
theorem dX11_kind_19 : decode cX11_kind 19 = .ok (.iload_n 2, 1) := by decide +kernel
theorem dX11_kind_20 : decode cX11_kind 20 = .ok (.tableswitch 76 0 4 #[36, 41, 61, 66, 71], 36) := by decide +kernel
theorem dX11_kind_56 : decode cX11_kind 56 = .ok (.aload_n 3, 1) := by decide +kernel
theorem dX11_kind_57 : decode cX11_kind 57 = .ok (.getfield 143, 3) := by decide +kernel
theorem dX11_kind_60 : decode cX11_kind 60 = .ok (.ireturn, 1) := by decide +kernel
theorem dX11_kind_61 : decode cX11_kind 61 = .ok (.aload_n 3, 1) := by decide +kernel
theorem dX11_kind_62 : decode cX11_kind 62 = .ok (.getfield 146, 3) := by decide +kernel
theorem dX11_kind_65 : decode cX11_kind 65 = .ok (.ifnonnull 8, 3) := by decide +kernel
theorem dX11_kind_68 : decode cX11_kind 68 = .ok (.bipush (-7), 2) := by decide +kernel
theorem dX11_kind_70 : decode cX11_kind 70 = .ok (.goto 10, 3) := by decide +kernel
theorem dX11_kind_73 : decode cX11_kind 73 = .ok (.aload_n 3, 1) := by decide +kernel
theorem dX11_kind_74 : decode cX11_kind 74 = .ok (.getfield 146, 3) := by decide +kernel
theorem dX11_kind_77 : decode cX11_kind 77 = .ok (.getfield 150, 3) := by decide +kernel
theorem dX11_kind_80 : decode cX11_kind 80 = .ok (.ireturn, 1) := by decide +kernel
theorem dX11_kind_81 : decode cX11_kind 81 = .ok (.aload_n 3, 1) := by decide +kernel
theorem dX11_kind_82 : decode cX11_kind 82 = .ok (.getfield 153, 3) := by decide +kernel
theorem dX11_kind_85 : decode cX11_kind 85 = .ok (.ireturn, 1) := by decide +kernel
theorem dX11_kind_86 : decode cX11_kind 86 = .ok (.aload_n 3, 1) := by decide +kernel
theorem dX11_kind_87 : decode cX11_kind 87 = .ok (.invokevirtual 156, 3) := by decide +kernel
theorem dX11_kind_90 : decode cX11_kind 90 = .ok (.ireturn, 1) := by decide +kernel
theorem dX11_kind_91 : decode cX11_kind 91 = .ok (.aload_n 3, 1) := by decide +kernel
theorem dX11_kind_92 : decode cX11_kind 92 = .ok (.getfield 160, 3) := by decide +kernel
theorem dX11_kind_95 : decode cX11_kind 95 = .ok (.ireturn, 1) := by decide +kernel
theorem dX11_kind_96 : decode cX11_kind 96 = .ok (.aload_n 0, 1) := by decide +kernel
theorem dX11_kind_97 : decode cX11_kind 97 = .ok (.iconst (-1), 1) := by decide +kernel
theorem dX11_kind_98 : decode cX11_kind 98 = .ok (.invokevirtual 96, 3) := by decide +kernel
theorem dX11_kind_101 : decode cX11_kind 101 = .ok (.ireturn, 1) := by decide +kernel
theorem dX11_body_0 : decode cX11_body 0 = .ok (.aload_n 0, 1) := by decide +kernel
theorem dX11_body_1 : decode cX11_body 1 = .ok (.getfield 23, 3) := by decide +kernel
theorem dX11_body_4 : decode cX11_body 4 = .ok (.iload_n 1, 1) := by decide +kernel
theorem dX11_body_5 : decode cX11_body 5 = .ok (.invokevirtual 139, 3) := by decide +kernel
theorem dX11_body_8 : decode cX11_body 8 = .ok (.astore 4, 2) := by decide +kernel
theorem dX11_body_10 : decode cX11_body 10 = .ok (.aload 4, 2) := by decide +kernel
theorem dX11_body_12 : decode cX11_body 12 = .ok (.ifnull 19, 3) := by decide +kernel
theorem dX11_body_15 : decode cX11_body 15 = .ok (.iload_n 2, 1) := by decide +kernel
theorem dX11_body_16 : decode cX11_body 16 = .ok (.invokestatic 163, 3) := by decide +kernel
theorem dX11_body_19 : decode cX11_body 19 = .ok (.ifCond .eq 12, 3) := by decide +kernel
theorem dX11_body_22 : decode cX11_body 22 = .ok (.iload_n 3, 1) := by decide +kernel
theorem dX11_body_23 : decode cX11_body 23 = .ok (.ifCond .lt 8, 3) := by decide +kernel
theorem dX11_body_26 : decode cX11_body 26 = .ok (.iload_n 3, 1) := by decide +kernel
theorem dX11_body_27 : decode cX11_body 27 = .ok (.iconst 2, 1) := by decide +kernel
theorem dX11_body_28 : decode cX11_body 28 = .ok (.if_icmp .le 9, 3) := by decide +kernel
theorem dX11_body_31 : decode cX11_body 31 = .ok (.aload_n 0, 1) := by decide +kernel
theorem dX11_body_32 : decode cX11_body 32 = .ok (.iconst (-1), 1) := by decide +kernel
theorem dX11_body_33 : decode cX11_body 33 = .ok (.invokevirtual 96, 3) := by decide +kernel
theorem dX11_body_36 : decode cX11_body 36 = .ok (.ireturn, 1) := by decide +kernel
theorem dX11_body_37 : decode cX11_body 37 = .ok (.aload 4, 2) := by decide +kernel
theorem dX11_body_39 : decode cX11_body 39 = .ok (.iload_n 2, 1) := by decide +kernel
theorem dX11_body_40 : decode cX11_body 40 = .ok (.invokevirtual 80, 3) := by decide +kernel
theorem dX11_body_43 : decode cX11_body 43 = .ok (.astore 5, 2) := by decide +kernel
theorem dX11_body_45 : decode cX11_body 45 = .ok (.aload 5, 2) := by decide +kernel
theorem dX11_body_47 : decode cX11_body 47 = .ok (.ifnonnull 10, 3) := by decide +kernel
theorem dX11_body_50 : decode cX11_body 50 = .ok (.aload_n 0, 1) := by decide +kernel
theorem dX11_body_51 : decode cX11_body 51 = .ok (.bipush (-2), 2) := by decide +kernel
theorem dX11_body_53 : decode cX11_body 53 = .ok (.invokevirtual 96, 3) := by decide +kernel
theorem dX11_body_56 : decode cX11_body 56 = .ok (.ireturn, 1) := by decide +kernel
theorem dX11_body_57 : decode cX11_body 57 = .ok (.iload_n 3, 1) := by decide +kernel
theorem dX11_body_58 : decode cX11_body 58 = .ok (.ifCond .ne 9, 3) := by decide +kernel
theorem dX11_body_61 : decode cX11_body 61 = .ok (.aload 5, 2) := by decide +kernel
theorem dX11_body_63 : decode cX11_body 63 = .ok (.getfield 167, 3) := by decide +kernel
theorem dX11_body_66 : decode cX11_body 66 = .ok (.ireturn, 1) := by decide +kernel
theorem dX11_body_67 : decode cX11_body 67 = .ok (.iload_n 3, 1) := by decide +kernel
theorem dX11_body_68 : decode cX11_body 68 = .ok (.iconst 1, 1) := by decide +kernel
theorem dX11_body_69 : decode cX11_body 69 = .ok (.if_icmp .ne 17, 3) := by decide +kernel
theorem dX11_body_72 : decode cX11_body 72 = .ok (.aload 5, 2) := by decide +kernel
theorem dX11_body_74 : decode cX11_body 74 = .ok (.getfield 170, 3) := by decide +kernel
theorem dX11_body_77 : decode cX11_body 77 = .ok (.ifCond .eq 7, 3) := by decide +kernel
theorem dX11_body_80 : decode cX11_body 80 = .ok (.iconst 1, 1) := by decide +kernel
theorem dX11_body_81 : decode cX11_body 81 = .ok (.goto 4, 3) := by decide +kernel
theorem dX11_body_84 : decode cX11_body 84 = .ok (.iconst 0, 1) := by decide +kernel
theorem dX11_body_85 : decode cX11_body 85 = .ok (.ireturn, 1) := by decide +kernel
theorem dX11_body_86 : decode cX11_body 86 = .ok (.aload 5, 2) := by decide +kernel
theorem dX11_body_88 : decode cX11_body 88 = .ok (.getfield 173, 3) := by decide +kernel
theorem dX11_body_91 : decode cX11_body 91 = .ok (.ireturn, 1) := by decide +kernel
theorem dX11_overrides_0 : decode cX11_overrides 0 = .ok (.aload_n 0, 1) := by decide +kernel
theorem dX11_overrides_1 : decode cX11_overrides 1 = .ok (.getfield 23, 3) := by decide +kernel
theorem dX11_overrides_4 : decode cX11_overrides 4 = .ok (.iload_n 1, 1) := by decide +kernel
theorem dX11_overrides_5 : decode cX11_overrides 5 = .ok (.invokevirtual 139, 3) := by decide +kernel
theorem dX11_overrides_8 : decode cX11_overrides 8 = .ok (.astore 4, 2) := by decide +kernel
theorem dX11_overrides_10 : decode cX11_overrides 10 = .ok (.aload_n 0, 1) := by decide +kernel
theorem dX11_overrides_11 : decode cX11_overrides 11 = .ok (.getfield 23, 3) := by decide +kernel
theorem dX11_overrides_14 : decode cX11_overrides 14 = .ok (.iload_n 3, 1) := by decide +kernel
theorem dX11_overrides_15 : decode cX11_overrides 15 = .ok (.invokevirtual 139, 3) := by decide +kernel
theorem dX11_overrides_18 : decode cX11_overrides 18 = .ok (.astore 5, 2) := by decide +kernel
theorem dX11_overrides_20 : decode cX11_overrides 20 = .ok (.aload 4, 2) := by decide +kernel
theorem dX11_overrides_22 : decode cX11_overrides 22 = .ok (.ifnull 15, 3) := by decide +kernel
theorem dX11_overrides_25 : decode cX11_overrides 25 = .ok (.aload 5, 2) := by decide +kernel
theorem dX11_overrides_27 : decode cX11_overrides 27 = .ok (.ifnull 10, 3) := by decide +kernel
theorem dX11_overrides_30 : decode cX11_overrides 30 = .ok (.iload_n 2, 1) := by decide +kernel
theorem dX11_overrides_31 : decode cX11_overrides 31 = .ok (.invokestatic 163, 3) := by decide +kernel
theorem dX11_overrides_34 : decode cX11_overrides 34 = .ok (.ifCond .ne 9, 3) := by decide +kernel
theorem dX11_overrides_37 : decode cX11_overrides 37 = .ok (.aload_n 0, 1) := by decide +kernel
theorem dX11_overrides_38 : decode cX11_overrides 38 = .ok (.iconst (-1), 1) := by decide +kernel
theorem dX11_overrides_39 : decode cX11_overrides 39 = .ok (.invokevirtual 96, 3) := by decide +kernel
theorem dX11_overrides_42 : decode cX11_overrides 42 = .ok (.ireturn, 1) := by decide +kernel
theorem dX11_overrides_43 : decode cX11_overrides 43 = .ok (.aload 4, 2) := by decide +kernel
theorem dX11_overrides_45 : decode cX11_overrides 45 = .ok (.iload_n 2, 1) := by decide +kernel
theorem dX11_overrides_46 : decode cX11_overrides 46 = .ok (.invokevirtual 80, 3) := by decide +kernel
theorem dX11_overrides_49 : decode cX11_overrides 49 = .ok (.astore 6, 2) := by decide +kernel
theorem dX11_overrides_51 : decode cX11_overrides 51 = .ok (.aload 6, 2) := by decide +kernel
theorem dX11_overrides_53 : decode cX11_overrides 53 = .ok (.ifnull 12, 3) := by decide +kernel
theorem dX11_overrides_56 : decode cX11_overrides 56 = .ok (.aload 5, 2) := by decide +kernel
theorem dX11_overrides_58 : decode cX11_overrides 58 = .ok (.iload_n 2, 1) := by decide +kernel
theorem dX11_overrides_59 : decode cX11_overrides 59 = .ok (.invokevirtual 80, 3) := by decide +kernel
theorem dX11_overrides_62 : decode cX11_overrides 62 = .ok (.ifnonnull 10, 3) := by decide +kernel
theorem dX11_overrides_65 : decode cX11_overrides 65 = .ok (.aload_n 0, 1) := by decide +kernel
theorem dX11_overrides_66 : decode cX11_overrides 66 = .ok (.bipush (-2), 2) := by decide +kernel
theorem dX11_overrides_68 : decode cX11_overrides 68 = .ok (.invokevirtual 96, 3) := by decide +kernel
theorem dX11_overrides_71 : decode cX11_overrides 71 = .ok (.ireturn, 1) := by decide +kernel
theorem dX11_overrides_72 : decode cX11_overrides 72 = .ok (.aload 6, 2) := by decide +kernel
theorem dX11_overrides_74 : decode cX11_overrides 74 = .ok (.aload 5, 2) := by decide +kernel
theorem dX11_overrides_76 : decode cX11_overrides 76 = .ok (.invokevirtual 176, 3) := by decide +kernel
theorem dX11_overrides_79 : decode cX11_overrides 79 = .ok (.ifCond .eq 7, 3) := by decide +kernel
theorem dX11_overrides_82 : decode cX11_overrides 82 = .ok (.iconst 1, 1) := by decide +kernel
theorem dX11_overrides_83 : decode cX11_overrides 83 = .ok (.goto 4, 3) := by decide +kernel
theorem dX11_overrides_86 : decode cX11_overrides 86 = .ok (.iconst 0, 1) := by decide +kernel
theorem dX11_overrides_87 : decode cX11_overrides 87 = .ok (.ireturn, 1) := by decide +kernel
theorem dX11_chosen_0 : decode cX11_chosen 0 = .ok (.aload_n 0, 1) := by decide +kernel
theorem dX11_chosen_1 : decode cX11_chosen 1 = .ok (.getfield 23, 3) := by decide +kernel
theorem dX11_chosen_4 : decode cX11_chosen 4 = .ok (.iload_n 1, 1) := by decide +kernel
theorem dX11_chosen_5 : decode cX11_chosen 5 = .ok (.invokevirtual 139, 3) := by decide +kernel
theorem dX11_chosen_8 : decode cX11_chosen 8 = .ok (.astore 4, 2) := by decide +kernel
theorem dX11_chosen_10 : decode cX11_chosen 10 = .ok (.aload_n 0, 1) := by decide +kernel
theorem dX11_chosen_11 : decode cX11_chosen 11 = .ok (.getfield 23, 3) := by decide +kernel
theorem dX11_chosen_14 : decode cX11_chosen 14 = .ok (.iload_n 3, 1) := by decide +kernel
theorem dX11_chosen_15 : decode cX11_chosen 15 = .ok (.invokevirtual 139, 3) := by decide +kernel
theorem dX11_chosen_18 : decode cX11_chosen 18 = .ok (.astore 5, 2) := by decide +kernel
theorem dX11_chosen_20 : decode cX11_chosen 20 = .ok (.aload 4, 2) := by decide +kernel
theorem dX11_chosen_22 : decode cX11_chosen 22 = .ok (.ifnull 15, 3) := by decide +kernel
theorem dX11_chosen_25 : decode cX11_chosen 25 = .ok (.aload 5, 2) := by decide +kernel
theorem dX11_chosen_27 : decode cX11_chosen 27 = .ok (.ifnull 10, 3) := by decide +kernel
theorem dX11_chosen_30 : decode cX11_chosen 30 = .ok (.iload_n 2, 1) := by decide +kernel
theorem dX11_chosen_31 : decode cX11_chosen 31 = .ok (.invokestatic 163, 3) := by decide +kernel
theorem dX11_chosen_34 : decode cX11_chosen 34 = .ok (.ifCond .ne 9, 3) := by decide +kernel
theorem dX11_chosen_37 : decode cX11_chosen 37 = .ok (.aload_n 0, 1) := by decide +kernel
theorem dX11_chosen_38 : decode cX11_chosen 38 = .ok (.iconst (-1), 1) := by decide +kernel
theorem dX11_chosen_39 : decode cX11_chosen 39 = .ok (.invokevirtual 96, 3) := by decide +kernel
theorem dX11_chosen_42 : decode cX11_chosen 42 = .ok (.ireturn, 1) := by decide +kernel
theorem dX11_chosen_43 : decode cX11_chosen 43 = .ok (.aload 5, 2) := by decide +kernel
theorem dX11_chosen_45 : decode cX11_chosen 45 = .ok (.aload 4, 2) := by decide +kernel
theorem dX11_chosen_47 : decode cX11_chosen 47 = .ok (.iload_n 2, 1) := by decide +kernel
theorem dX11_chosen_48 : decode cX11_chosen 48 = .ok (.invokevirtual 80, 3) := by decide +kernel
theorem dX11_chosen_51 : decode cX11_chosen 51 = .ok (.invokevirtual 180, 3) := by decide +kernel
theorem dX11_chosen_54 : decode cX11_chosen 54 = .ok (.astore 6, 2) := by decide +kernel
theorem dX11_chosen_56 : decode cX11_chosen 56 = .ok (.aload 6, 2) := by decide +kernel
theorem dX11_chosen_58 : decode cX11_chosen 58 = .ok (.ifnonnull 12, 3) := by decide +kernel
theorem dX11_chosen_61 : decode cX11_chosen 61 = .ok (.aload_n 0, 1) := by decide +kernel
theorem dX11_chosen_62 : decode cX11_chosen 62 = .ok (.bipush (-2), 2) := by decide +kernel
theorem dX11_chosen_64 : decode cX11_chosen 64 = .ok (.invokevirtual 96, 3) := by decide +kernel
theorem dX11_chosen_67 : decode cX11_chosen 67 = .ok (.goto 11, 3) := by decide +kernel
theorem dX11_chosen_70 : decode cX11_chosen 70 = .ok (.aload 6, 2) := by decide +kernel
theorem dX11_chosen_72 : decode cX11_chosen 72 = .ok (.getfield 184, 3) := by decide +kernel
theorem dX11_chosen_75 : decode cX11_chosen 75 = .ok (.getfield 150, 3) := by decide +kernel
theorem dX11_chosen_78 : decode cX11_chosen 78 = .ok (.ireturn, 1) := by decide +kernel
theorem dX11_resolved_0 : decode cX11_resolved 0 = .ok (.aload_n 0, 1) := by decide +kernel
theorem dX11_resolved_1 : decode cX11_resolved 1 = .ok (.getfield 23, 3) := by decide +kernel
theorem dX11_resolved_4 : decode cX11_resolved 4 = .ok (.iload_n 1, 1) := by decide +kernel
theorem dX11_resolved_5 : decode cX11_resolved 5 = .ok (.invokevirtual 139, 3) := by decide +kernel
theorem dX11_resolved_8 : decode cX11_resolved 8 = .ok (.astore 4, 2) := by decide +kernel
theorem dX11_resolved_10 : decode cX11_resolved 10 = .ok (.aload 4, 2) := by decide +kernel
theorem dX11_resolved_12 : decode cX11_resolved 12 = .ok (.ifnull 10, 3) := by decide +kernel
theorem dX11_resolved_15 : decode cX11_resolved 15 = .ok (.iload_n 2, 1) := by decide +kernel
theorem dX11_resolved_16 : decode cX11_resolved 16 = .ok (.invokestatic 163, 3) := by decide +kernel
theorem dX11_resolved_19 : decode cX11_resolved 19 = .ok (.ifCond .ne 9, 3) := by decide +kernel
theorem dX11_resolved_22 : decode cX11_resolved 22 = .ok (.aload_n 0, 1) := by decide +kernel
theorem dX11_resolved_23 : decode cX11_resolved 23 = .ok (.iconst (-1), 1) := by decide +kernel
theorem dX11_resolved_24 : decode cX11_resolved 24 = .ok (.invokevirtual 96, 3) := by decide +kernel
theorem dX11_resolved_27 : decode cX11_resolved 27 = .ok (.ireturn, 1) := by decide +kernel
theorem dX11_resolved_28 : decode cX11_resolved 28 = .ok (.aload 4, 2) := by decide +kernel
theorem dX11_resolved_30 : decode cX11_resolved 30 = .ok (.iload_n 2, 1) := by decide +kernel
theorem dX11_resolved_31 : decode cX11_resolved 31 = .ok (.iload_n 3, 1) := by decide +kernel
theorem dX11_resolved_32 : decode cX11_resolved 32 = .ok (.ifCond .eq 11, 3) := by decide +kernel
theorem dX11_resolved_35 : decode cX11_resolved 35 = .ok (.aload 4, 2) := by decide +kernel
theorem dX11_resolved_37 : decode cX11_resolved 37 = .ok (.getfield 146, 3) := by decide +kernel
theorem dX11_resolved_40 : decode cX11_resolved 40 = .ok (.goto 5, 3) := by decide +kernel
theorem dX11_resolved_43 : decode cX11_resolved 43 = .ok (.aload 4, 2) := by decide +kernel
theorem dX11_resolved_45 : decode cX11_resolved 45 = .ok (.invokevirtual 187, 3) := by decide +kernel
theorem dX11_resolved_48 : decode cX11_resolved 48 = .ok (.astore 5, 2) := by decide +kernel
theorem dX11_resolved_50 : decode cX11_resolved 50 = .ok (.aload 5, 2) := by decide +kernel
theorem dX11_resolved_52 : decode cX11_resolved 52 = .ok (.ifnonnull 12, 3) := by decide +kernel
theorem dX11_resolved_55 : decode cX11_resolved 55 = .ok (.aload_n 0, 1) := by decide +kernel
theorem dX11_resolved_56 : decode cX11_resolved 56 = .ok (.bipush (-2), 2) := by decide +kernel
theorem dX11_resolved_58 : decode cX11_resolved 58 = .ok (.invokevirtual 96, 3) := by decide +kernel
theorem dX11_resolved_61 : decode cX11_resolved 61 = .ok (.goto 11, 3) := by decide +kernel
theorem dX11_resolved_64 : decode cX11_resolved 64 = .ok (.aload 5, 2) := by decide +kernel
theorem dX11_resolved_66 : decode cX11_resolved 66 = .ok (.getfield 184, 3) := by decide +kernel
theorem dX11_resolved_69 : decode cX11_resolved 69 = .ok (.getfield 150, 3) := by decide +kernel
theorem dX11_resolved_72 : decode cX11_resolved 72 = .ok (.ireturn, 1) := by decide +kernel
theorem dX11_count_0 : decode cX11_count 0 = .ok (.iload_n 1, 1) := by decide +kernel
theorem dX11_count_1 : decode cX11_count 1 = .ok (.tableswitch 57 0 3 #[31, 39, 47, 52], 31) := by decide +kernel
theorem dX11_count_32 : decode cX11_count 32 = .ok (.aload_n 0, 1) := by decide +kernel
theorem dX11_count_33 : decode cX11_count 33 = .ok (.getfield 23, 3) := by decide +kernel
theorem dX11_count_36 : decode cX11_count 36 = .ok (.getfield 191, 3) := by decide +kernel
theorem dX11_count_39 : decode cX11_count 39 = .ok (.ireturn, 1) := by decide +kernel
theorem dX11_count_40 : decode cX11_count 40 = .ok (.aload_n 0, 1) := by decide +kernel
theorem dX11_count_41 : decode cX11_count 41 = .ok (.getfield 23, 3) := by decide +kernel
theorem dX11_count_44 : decode cX11_count 44 = .ok (.getfield 194, 3) := by decide +kernel
theorem dX11_count_47 : decode cX11_count 47 = .ok (.ireturn, 1) := by decide +kernel
theorem dX11_count_48 : decode cX11_count 48 = .ok (.aload_n 0, 1) := by decide +kernel
theorem dX11_count_49 : decode cX11_count 49 = .ok (.getfield 33, 3) := by decide +kernel
theorem dX11_count_52 : decode cX11_count 52 = .ok (.ireturn, 1) := by decide +kernel
theorem dX11_count_53 : decode cX11_count 53 = .ok (.aload_n 0, 1) := by decide +kernel
theorem dX11_count_54 : decode cX11_count 54 = .ok (.getfield 49, 3) := by decide +kernel
theorem dX11_count_57 : decode cX11_count 57 = .ok (.ireturn, 1) := by decide +kernel
theorem dX11_count_58 : decode cX11_count 58 = .ok (.aload_n 0, 1) := by decide +kernel
theorem dX11_count_59 : decode cX11_count 59 = .ok (.iconst (-1), 1) := by decide +kernel
theorem dX11_count_60 : decode cX11_count 60 = .ok (.invokevirtual 96, 3) := by decide +kernel
theorem dX11_count_63 : decode cX11_count 63 = .ok (.ireturn, 1) := by decide +kernel
theorem dX11_make_0 : decode cX11_make 0 = .ok (.aload_n 0, 1) := by decide +kernel
theorem dX11_make_1 : decode cX11_make 1 = .ok (.getfield 23, 3) := by decide +kernel
theorem dX11_make_4 : decode cX11_make 4 = .ok (.iload_n 1, 1) := by decide +kernel
theorem dX11_make_5 : decode cX11_make 5 = .ok (.invokevirtual 139, 3) := by decide +kernel
theorem dX11_make_8 : decode cX11_make 8 = .ok (.astore_n 3, 1) := by decide +kernel
theorem dX11_make_9 : decode cX11_make 9 = .ok (.aload_n 3, 1) := by decide +kernel
theorem dX11_make_10 : decode cX11_make 10 = .ok (.ifnull 14, 3) := by decide +kernel
theorem dX11_make_13 : decode cX11_make 13 = .ok (.iload_n 2, 1) := by decide +kernel
theorem dX11_make_14 : decode cX11_make 14 = .ok (.ifCond .lt 10, 3) := by decide +kernel
theorem dX11_make_17 : decode cX11_make 17 = .ok (.iload_n 2, 1) := by decide +kernel
theorem dX11_make_18 : decode cX11_make 18 = .ok (.sipush 10000, 3) := by decide +kernel
theorem dX11_make_21 : decode cX11_make 21 = .ok (.if_icmp .le 9, 3) := by decide +kernel
theorem dX11_make_24 : decode cX11_make 24 = .ok (.aload_n 0, 1) := by decide +kernel
theorem dX11_make_25 : decode cX11_make 25 = .ok (.iconst (-1), 1) := by decide +kernel
theorem dX11_make_26 : decode cX11_make 26 = .ok (.invokevirtual 96, 3) := by decide +kernel
theorem dX11_make_29 : decode cX11_make 29 = .ok (.ireturn, 1) := by decide +kernel
theorem dX11_make_30 : decode cX11_make 30 = .ok (.aload_n 0, 1) := by decide +kernel
theorem dX11_make_31 : decode cX11_make 31 = .ok (.getfield 23, 3) := by decide +kernel
theorem dX11_make_34 : decode cX11_make 34 = .ok (.aload_n 3, 1) := by decide +kernel
theorem dX11_make_35 : decode cX11_make 35 = .ok (.getfield 153, 3) := by decide +kernel
theorem dX11_make_38 : decode cX11_make 38 = .ok (.invokevirtual 129, 3) := by decide +kernel
theorem dX11_make_41 : decode cX11_make 41 = .ok (.astore 4, 2) := by decide +kernel
theorem dX11_make_43 : decode cX11_make 43 = .ok (.aload 4, 2) := by decide +kernel
theorem dX11_make_45 : decode cX11_make 45 = .ok (.ifnull 18, 3) := by decide +kernel
theorem dX11_make_48 : decode cX11_make 48 = .ok (.aload 4, 2) := by decide +kernel
theorem dX11_make_50 : decode cX11_make 50 = .ok (.getfield 133, 3) := by decide +kernel
theorem dX11_make_53 : decode cX11_make 53 = .ok (.ifCond .eq 10, 3) := by decide +kernel
theorem dX11_make_56 : decode cX11_make 56 = .ok (.aload_n 0, 1) := by decide +kernel
theorem dX11_make_57 : decode cX11_make 57 = .ok (.bipush (-4), 2) := by decide +kernel
theorem dX11_make_59 : decode cX11_make 59 = .ok (.invokevirtual 96, 3) := by decide +kernel
theorem dX11_make_62 : decode cX11_make 62 = .ok (.ireturn, 1) := by decide +kernel
theorem dX11_make_63 : decode cX11_make 63 = .ok (.aload_n 0, 1) := by decide +kernel
theorem dX11_make_64 : decode cX11_make 64 = .ok (.getfield 33, 3) := by decide +kernel
theorem dX11_make_67 : decode cX11_make 67 = .ok (.aload_n 0, 1) := by decide +kernel
theorem dX11_make_68 : decode cX11_make 68 = .ok (.getfield 29, 3) := by decide +kernel
theorem dX11_make_71 : decode cX11_make 71 = .ok (.arraylength, 1) := by decide +kernel
theorem dX11_make_72 : decode cX11_make 72 = .ok (.if_icmp .lt 10, 3) := by decide +kernel
theorem dX11_make_75 : decode cX11_make 75 = .ok (.aload_n 0, 1) := by decide +kernel
theorem dX11_make_76 : decode cX11_make 76 = .ok (.bipush (-3), 2) := by decide +kernel
theorem dX11_make_78 : decode cX11_make 78 = .ok (.invokevirtual 96, 3) := by decide +kernel
theorem dX11_make_81 : decode cX11_make 81 = .ok (.ireturn, 1) := by decide +kernel
theorem dX11_make_82 : decode cX11_make 82 = .ok (.aload_n 0, 1) := by decide +kernel
theorem dX11_make_83 : decode cX11_make 83 = .ok (.getfield 29, 3) := by decide +kernel
theorem dX11_make_86 : decode cX11_make 86 = .ok (.aload_n 0, 1) := by decide +kernel
theorem dX11_make_87 : decode cX11_make 87 = .ok (.getfield 33, 3) := by decide +kernel
theorem dX11_make_90 : decode cX11_make 90 = .ok (.new 27, 3) := by decide +kernel
theorem dX11_make_93 : decode cX11_make 93 = .ok (.dup, 1) := by decide +kernel
theorem dX11_make_94 : decode cX11_make 94 = .ok (.aload_n 0, 1) := by decide +kernel
theorem dX11_make_95 : decode cX11_make 95 = .ok (.getfield 33, 3) := by decide +kernel
theorem dX11_make_98 : decode cX11_make 98 = .ok (.aload_n 3, 1) := by decide +kernel
theorem dX11_make_99 : decode cX11_make 99 = .ok (.iload_n 2, 1) := by decide +kernel
theorem dX11_make_100 : decode cX11_make 100 = .ok (.invokespecial 197, 3) := by decide +kernel
theorem dX11_make_103 : decode cX11_make 103 = .ok (.aastore, 1) := by decide +kernel
theorem dX11_make_104 : decode cX11_make 104 = .ok (.aload_n 0, 1) := by decide +kernel
theorem dX11_make_105 : decode cX11_make 105 = .ok (.dup, 1) := by decide +kernel
theorem dX11_make_106 : decode cX11_make 106 = .ok (.getfield 33, 3) := by decide +kernel
theorem dX11_make_109 : decode cX11_make 109 = .ok (.iconst 1, 1) := by decide +kernel
theorem dX11_make_110 : decode cX11_make 110 = .ok (.iadd, 1) := by decide +kernel
theorem dX11_make_111 : decode cX11_make 111 = .ok (.putfield 33, 3) := by decide +kernel
theorem dX11_make_114 : decode cX11_make 114 = .ok (.aload_n 0, 1) := by decide +kernel
theorem dX11_make_115 : decode cX11_make 115 = .ok (.getfield 33, 3) := by decide +kernel
theorem dX11_make_118 : decode cX11_make 118 = .ok (.iconst 1, 1) := by decide +kernel
theorem dX11_make_119 : decode cX11_make 119 = .ok (.isub, 1) := by decide +kernel
theorem dX11_make_120 : decode cX11_make 120 = .ok (.ireturn, 1) := by decide +kernel
theorem dX11_charge_0 : decode cX11_charge 0 = .ok (.aload_n 0, 1) := by decide +kernel
theorem dX11_charge_1 : decode cX11_charge 1 = .ok (.iload_n 1, 1) := by decide +kernel
theorem dX11_charge_2 : decode cX11_charge 2 = .ok (.invokevirtual 200, 3) := by decide +kernel
theorem dX11_charge_5 : decode cX11_charge 5 = .ok (.astore 4, 2) := by decide +kernel
theorem dX11_charge_7 : decode cX11_charge 7 = .ok (.aload 4, 2) := by decide +kernel
theorem dX11_charge_9 : decode cX11_charge 9 = .ok (.ifnull 23, 3) := by decide +kernel
theorem dX11_charge_12 : decode cX11_charge 12 = .ok (.iload_n 2, 1) := by decide +kernel
theorem dX11_charge_13 : decode cX11_charge 13 = .ok (.ifCond .lt 19, 3) := by decide +kernel
theorem dX11_charge_16 : decode cX11_charge 16 = .ok (.iload_n 2, 1) := by decide +kernel
theorem dX11_charge_17 : decode cX11_charge 17 = .ok (.ldc 204, 2) := by decide +kernel
theorem dX11_charge_19 : decode cX11_charge 19 = .ok (.if_icmp .gt 13, 3) := by decide +kernel
theorem dX11_charge_22 : decode cX11_charge 22 = .ok (.iload_n 3, 1) := by decide +kernel
theorem dX11_charge_23 : decode cX11_charge 23 = .ok (.ifCond .lt 9, 3) := by decide +kernel
theorem dX11_charge_26 : decode cX11_charge 26 = .ok (.iload_n 3, 1) := by decide +kernel
theorem dX11_charge_27 : decode cX11_charge 27 = .ok (.ldc 204, 2) := by decide +kernel
theorem dX11_charge_29 : decode cX11_charge 29 = .ok (.if_icmp .le 9, 3) := by decide +kernel
theorem dX11_charge_32 : decode cX11_charge 32 = .ok (.aload_n 0, 1) := by decide +kernel
theorem dX11_charge_33 : decode cX11_charge 33 = .ok (.iconst (-1), 1) := by decide +kernel
theorem dX11_charge_34 : decode cX11_charge 34 = .ok (.invokevirtual 96, 3) := by decide +kernel
theorem dX11_charge_37 : decode cX11_charge 37 = .ok (.ireturn, 1) := by decide +kernel
theorem dX11_charge_38 : decode cX11_charge 38 = .ok (.aload 4, 2) := by decide +kernel
theorem dX11_charge_40 : decode cX11_charge 40 = .ok (.iload_n 2, 1) := by decide +kernel
theorem dX11_charge_41 : decode cX11_charge 41 = .ok (.iload_n 3, 1) := by decide +kernel
theorem dX11_charge_42 : decode cX11_charge 42 = .ok (.invokevirtual 205, 3) := by decide +kernel
theorem dX11_charge_45 : decode cX11_charge 45 = .ok (.ifCond .eq 15, 3) := by decide +kernel
theorem dX11_charge_48 : decode cX11_charge 48 = .ok (.aload_n 0, 1) := by decide +kernel
theorem dX11_charge_49 : decode cX11_charge 49 = .ok (.getfield 49, 3) := by decide +kernel
theorem dX11_charge_52 : decode cX11_charge 52 = .ok (.aload_n 0, 1) := by decide +kernel
theorem dX11_charge_53 : decode cX11_charge 53 = .ok (.getfield 45, 3) := by decide +kernel
theorem dX11_charge_56 : decode cX11_charge 56 = .ok (.arraylength, 1) := by decide +kernel
theorem dX11_charge_57 : decode cX11_charge 57 = .ok (.if_icmp .lt 10, 3) := by decide +kernel
theorem dX11_charge_60 : decode cX11_charge 60 = .ok (.aload_n 0, 1) := by decide +kernel
theorem dX11_charge_61 : decode cX11_charge 61 = .ok (.bipush (-3), 2) := by decide +kernel
theorem dX11_charge_63 : decode cX11_charge 63 = .ok (.invokevirtual 96, 3) := by decide +kernel
theorem dX11_charge_66 : decode cX11_charge 66 = .ok (.ireturn, 1) := by decide +kernel
theorem dX11_charge_67 : decode cX11_charge 67 = .ok (.aload 4, 2) := by decide +kernel
theorem dX11_charge_69 : decode cX11_charge 69 = .ok (.dup, 1) := by decide +kernel
theorem dX11_charge_70 : decode cX11_charge 70 = .ok (.getfield 208, 3) := by decide +kernel
theorem dX11_charge_73 : decode cX11_charge 73 = .ok (.iload_n 2, 1) := by decide +kernel
theorem dX11_charge_74 : decode cX11_charge 74 = .ok (.iadd, 1) := by decide +kernel
theorem dX11_charge_75 : decode cX11_charge 75 = .ok (.putfield 208, 3) := by decide +kernel
theorem dX11_charge_78 : decode cX11_charge 78 = .ok (.aload 4, 2) := by decide +kernel
theorem dX11_charge_80 : decode cX11_charge 80 = .ok (.dup, 1) := by decide +kernel
theorem dX11_charge_81 : decode cX11_charge 81 = .ok (.getfield 211, 3) := by decide +kernel
theorem dX11_charge_84 : decode cX11_charge 84 = .ok (.iload_n 3, 1) := by decide +kernel
theorem dX11_charge_85 : decode cX11_charge 85 = .ok (.iadd, 1) := by decide +kernel
theorem dX11_charge_86 : decode cX11_charge 86 = .ok (.putfield 211, 3) := by decide +kernel
theorem dX11_charge_89 : decode cX11_charge 89 = .ok (.aload_n 0, 1) := by decide +kernel
theorem dX11_charge_90 : decode cX11_charge 90 = .ok (.new 43, 3) := by decide +kernel
theorem dX11_charge_93 : decode cX11_charge 93 = .ok (.dup, 1) := by decide +kernel
theorem dX11_charge_94 : decode cX11_charge 94 = .ok (.iconst 1, 1) := by decide +kernel
theorem dX11_charge_95 : decode cX11_charge 95 = .ok (.aload 4, 2) := by decide +kernel
theorem dX11_charge_97 : decode cX11_charge 97 = .ok (.aconst_null, 1) := by decide +kernel
theorem dX11_charge_98 : decode cX11_charge 98 = .ok (.iload_n 2, 1) := by decide +kernel
theorem dX11_charge_99 : decode cX11_charge 99 = .ok (.iload_n 2, 1) := by decide +kernel
theorem dX11_charge_100 : decode cX11_charge 100 = .ok (.iconst 0, 1) := by decide +kernel
theorem dX11_charge_101 : decode cX11_charge 101 = .ok (.iload_n 3, 1) := by decide +kernel
theorem dX11_charge_102 : decode cX11_charge 102 = .ok (.invokespecial 214, 3) := by decide +kernel
theorem dX11_charge_105 : decode cX11_charge 105 = .ok (.invokevirtual 217, 3) := by decide +kernel
theorem dX11_charge_108 : decode cX11_charge 108 = .ok (.aload 4, 2) := by decide +kernel
theorem dX11_charge_110 : decode cX11_charge 110 = .ok (.getfield 208, 3) := by decide +kernel
theorem dX11_charge_113 : decode cX11_charge 113 = .ok (.ireturn, 1) := by decide +kernel
theorem dX11_pour_0 : decode cX11_pour 0 = .ok (.aload_n 0, 1) := by decide +kernel
theorem dX11_pour_1 : decode cX11_pour 1 = .ok (.iload_n 1, 1) := by decide +kernel
theorem dX11_pour_2 : decode cX11_pour 2 = .ok (.invokevirtual 200, 3) := by decide +kernel
theorem dX11_pour_5 : decode cX11_pour 5 = .ok (.astore 4, 2) := by decide +kernel
theorem dX11_pour_7 : decode cX11_pour 7 = .ok (.aload_n 0, 1) := by decide +kernel
theorem dX11_pour_8 : decode cX11_pour 8 = .ok (.iload_n 2, 1) := by decide +kernel
theorem dX11_pour_9 : decode cX11_pour 9 = .ok (.invokevirtual 200, 3) := by decide +kernel
theorem dX11_pour_12 : decode cX11_pour 12 = .ok (.astore 5, 2) := by decide +kernel
theorem dX11_pour_14 : decode cX11_pour 14 = .ok (.aload 4, 2) := by decide +kernel
theorem dX11_pour_16 : decode cX11_pour 16 = .ok (.ifnull 27, 3) := by decide +kernel
theorem dX11_pour_19 : decode cX11_pour 19 = .ok (.aload 5, 2) := by decide +kernel
theorem dX11_pour_21 : decode cX11_pour 21 = .ok (.ifnull 22, 3) := by decide +kernel
theorem dX11_pour_24 : decode cX11_pour 24 = .ok (.iload_n 1, 1) := by decide +kernel
theorem dX11_pour_25 : decode cX11_pour 25 = .ok (.iload_n 2, 1) := by decide +kernel
theorem dX11_pour_26 : decode cX11_pour 26 = .ok (.if_icmp .eq 17, 3) := by decide +kernel
theorem dX11_pour_29 : decode cX11_pour 29 = .ok (.iload_n 3, 1) := by decide +kernel
theorem dX11_pour_30 : decode cX11_pour 30 = .ok (.iconst 1, 1) := by decide +kernel
theorem dX11_pour_31 : decode cX11_pour 31 = .ok (.if_icmp .lt 12, 3) := by decide +kernel
theorem dX11_pour_34 : decode cX11_pour 34 = .ok (.iload_n 3, 1) := by decide +kernel
theorem dX11_pour_35 : decode cX11_pour 35 = .ok (.aload 4, 2) := by decide +kernel
theorem dX11_pour_37 : decode cX11_pour 37 = .ok (.getfield 208, 3) := by decide +kernel
theorem dX11_pour_40 : decode cX11_pour 40 = .ok (.if_icmp .le 9, 3) := by decide +kernel
theorem dX11_pour_43 : decode cX11_pour 43 = .ok (.aload_n 0, 1) := by decide +kernel
theorem dX11_pour_44 : decode cX11_pour 44 = .ok (.iconst (-1), 1) := by decide +kernel
theorem dX11_pour_45 : decode cX11_pour 45 = .ok (.invokevirtual 96, 3) := by decide +kernel
theorem dX11_pour_48 : decode cX11_pour 48 = .ok (.ireturn, 1) := by decide +kernel
theorem dX11_pour_49 : decode cX11_pour 49 = .ok (.aload 4, 2) := by decide +kernel
theorem dX11_pour_51 : decode cX11_pour 51 = .ok (.iload_n 3, 1) := by decide +kernel
theorem dX11_pour_52 : decode cX11_pour 52 = .ok (.invokevirtual 221, 3) := by decide +kernel
theorem dX11_pour_55 : decode cX11_pour 55 = .ok (.istore 6, 2) := by decide +kernel
theorem dX11_pour_57 : decode cX11_pour 57 = .ok (.aload 5, 2) := by decide +kernel
theorem dX11_pour_59 : decode cX11_pour 59 = .ok (.iload_n 3, 1) := by decide +kernel
theorem dX11_pour_60 : decode cX11_pour 60 = .ok (.iload 6, 2) := by decide +kernel
theorem dX11_pour_62 : decode cX11_pour 62 = .ok (.invokevirtual 205, 3) := by decide +kernel
theorem dX11_pour_65 : decode cX11_pour 65 = .ok (.ifCond .eq 15, 3) := by decide +kernel
theorem dX11_pour_68 : decode cX11_pour 68 = .ok (.aload_n 0, 1) := by decide +kernel
theorem dX11_pour_69 : decode cX11_pour 69 = .ok (.getfield 49, 3) := by decide +kernel
theorem dX11_pour_72 : decode cX11_pour 72 = .ok (.aload_n 0, 1) := by decide +kernel
theorem dX11_pour_73 : decode cX11_pour 73 = .ok (.getfield 45, 3) := by decide +kernel
theorem dX11_pour_76 : decode cX11_pour 76 = .ok (.arraylength, 1) := by decide +kernel
theorem dX11_pour_77 : decode cX11_pour 77 = .ok (.if_icmp .lt 10, 3) := by decide +kernel
theorem dX11_pour_80 : decode cX11_pour 80 = .ok (.aload_n 0, 1) := by decide +kernel
theorem dX11_pour_81 : decode cX11_pour 81 = .ok (.bipush (-3), 2) := by decide +kernel
theorem dX11_pour_83 : decode cX11_pour 83 = .ok (.invokevirtual 96, 3) := by decide +kernel
theorem dX11_pour_86 : decode cX11_pour 86 = .ok (.ireturn, 1) := by decide +kernel
theorem dX11_pour_87 : decode cX11_pour 87 = .ok (.aload 4, 2) := by decide +kernel
theorem dX11_pour_89 : decode cX11_pour 89 = .ok (.dup, 1) := by decide +kernel
theorem dX11_pour_90 : decode cX11_pour 90 = .ok (.getfield 208, 3) := by decide +kernel
theorem dX11_pour_93 : decode cX11_pour 93 = .ok (.iload_n 3, 1) := by decide +kernel
theorem dX11_pour_94 : decode cX11_pour 94 = .ok (.isub, 1) := by decide +kernel
theorem dX11_pour_95 : decode cX11_pour 95 = .ok (.putfield 208, 3) := by decide +kernel
theorem dX11_pour_98 : decode cX11_pour 98 = .ok (.aload 4, 2) := by decide +kernel
theorem dX11_pour_100 : decode cX11_pour 100 = .ok (.dup, 1) := by decide +kernel
theorem dX11_pour_101 : decode cX11_pour 101 = .ok (.getfield 211, 3) := by decide +kernel
theorem dX11_pour_104 : decode cX11_pour 104 = .ok (.iload 6, 2) := by decide +kernel
theorem dX11_pour_106 : decode cX11_pour 106 = .ok (.isub, 1) := by decide +kernel
theorem dX11_pour_107 : decode cX11_pour 107 = .ok (.putfield 211, 3) := by decide +kernel
theorem dX11_pour_110 : decode cX11_pour 110 = .ok (.aload 5, 2) := by decide +kernel
theorem dX11_pour_112 : decode cX11_pour 112 = .ok (.dup, 1) := by decide +kernel
theorem dX11_pour_113 : decode cX11_pour 113 = .ok (.getfield 208, 3) := by decide +kernel
theorem dX11_pour_116 : decode cX11_pour 116 = .ok (.iload_n 3, 1) := by decide +kernel
theorem dX11_pour_117 : decode cX11_pour 117 = .ok (.iadd, 1) := by decide +kernel
theorem dX11_pour_118 : decode cX11_pour 118 = .ok (.putfield 208, 3) := by decide +kernel
theorem dX11_pour_121 : decode cX11_pour 121 = .ok (.aload 5, 2) := by decide +kernel
theorem dX11_pour_123 : decode cX11_pour 123 = .ok (.dup, 1) := by decide +kernel
theorem dX11_pour_124 : decode cX11_pour 124 = .ok (.getfield 211, 3) := by decide +kernel
theorem dX11_pour_127 : decode cX11_pour 127 = .ok (.iload 6, 2) := by decide +kernel
theorem dX11_pour_129 : decode cX11_pour 129 = .ok (.iadd, 1) := by decide +kernel
theorem dX11_pour_130 : decode cX11_pour 130 = .ok (.putfield 211, 3) := by decide +kernel
theorem dX11_pour_133 : decode cX11_pour 133 = .ok (.aload_n 0, 1) := by decide +kernel
theorem dX11_pour_134 : decode cX11_pour 134 = .ok (.new 43, 3) := by decide +kernel
theorem dX11_pour_137 : decode cX11_pour 137 = .ok (.dup, 1) := by decide +kernel
theorem dX11_pour_138 : decode cX11_pour 138 = .ok (.iconst 2, 1) := by decide +kernel
theorem dX11_pour_139 : decode cX11_pour 139 = .ok (.aload 4, 2) := by decide +kernel
theorem dX11_pour_141 : decode cX11_pour 141 = .ok (.aload 5, 2) := by decide +kernel
theorem dX11_pour_143 : decode cX11_pour 143 = .ok (.iload_n 3, 1) := by decide +kernel
theorem dX11_pour_144 : decode cX11_pour 144 = .ok (.iconst 0, 1) := by decide +kernel
theorem dX11_pour_145 : decode cX11_pour 145 = .ok (.iload_n 3, 1) := by decide +kernel
theorem dX11_pour_146 : decode cX11_pour 146 = .ok (.iload 6, 2) := by decide +kernel
theorem dX11_pour_148 : decode cX11_pour 148 = .ok (.ineg, 1) := by decide +kernel
theorem dX11_pour_149 : decode cX11_pour 149 = .ok (.invokespecial 214, 3) := by decide +kernel
theorem dX11_pour_152 : decode cX11_pour 152 = .ok (.invokevirtual 217, 3) := by decide +kernel
theorem dX11_pour_155 : decode cX11_pour 155 = .ok (.iload 6, 2) := by decide +kernel
theorem dX11_pour_157 : decode cX11_pour 157 = .ok (.ireturn, 1) := by decide +kernel
theorem dX11_act_0 : decode cX11_act 0 = .ok (.aload_n 0, 1) := by decide +kernel
theorem dX11_act_1 : decode cX11_act 1 = .ok (.iload_n 1, 1) := by decide +kernel
theorem dX11_act_2 : decode cX11_act 2 = .ok (.invokevirtual 200, 3) := by decide +kernel
theorem dX11_act_5 : decode cX11_act 5 = .ok (.astore_n 3, 1) := by decide +kernel
theorem dX11_act_6 : decode cX11_act 6 = .ok (.aload_n 0, 1) := by decide +kernel
theorem dX11_act_7 : decode cX11_act 7 = .ok (.getfield 23, 3) := by decide +kernel
theorem dX11_act_10 : decode cX11_act 10 = .ok (.iconst 0, 1) := by decide +kernel
theorem dX11_act_11 : decode cX11_act 11 = .ok (.invokevirtual 139, 3) := by decide +kernel
theorem dX11_act_14 : decode cX11_act 14 = .ok (.astore 4, 2) := by decide +kernel
theorem dX11_act_16 : decode cX11_act 16 = .ok (.aload_n 3, 1) := by decide +kernel
theorem dX11_act_17 : decode cX11_act 17 = .ok (.ifnull 19, 3) := by decide +kernel
theorem dX11_act_20 : decode cX11_act 20 = .ok (.aload 4, 2) := by decide +kernel
theorem dX11_act_22 : decode cX11_act 22 = .ok (.ifnull 14, 3) := by decide +kernel
theorem dX11_act_25 : decode cX11_act 25 = .ok (.iload_n 2, 1) := by decide +kernel
theorem dX11_act_26 : decode cX11_act 26 = .ok (.ifCond .lt 10, 3) := by decide +kernel
theorem dX11_act_29 : decode cX11_act 29 = .ok (.iload_n 2, 1) := by decide +kernel
theorem dX11_act_30 : decode cX11_act 30 = .ok (.sipush 999, 3) := by decide +kernel
theorem dX11_act_33 : decode cX11_act 33 = .ok (.if_icmp .le 9, 3) := by decide +kernel
theorem dX11_act_36 : decode cX11_act 36 = .ok (.aload_n 0, 1) := by decide +kernel
theorem dX11_act_37 : decode cX11_act 37 = .ok (.iconst (-1), 1) := by decide +kernel
theorem dX11_act_38 : decode cX11_act 38 = .ok (.invokevirtual 96, 3) := by decide +kernel
theorem dX11_act_41 : decode cX11_act 41 = .ok (.ireturn, 1) := by decide +kernel
theorem dX11_act_42 : decode cX11_act 42 = .ok (.aload_n 0, 1) := by decide +kernel
theorem dX11_act_43 : decode cX11_act 43 = .ok (.getfield 49, 3) := by decide +kernel
theorem dX11_act_46 : decode cX11_act 46 = .ok (.aload_n 0, 1) := by decide +kernel
theorem dX11_act_47 : decode cX11_act 47 = .ok (.getfield 45, 3) := by decide +kernel
theorem dX11_act_50 : decode cX11_act 50 = .ok (.arraylength, 1) := by decide +kernel
theorem dX11_act_51 : decode cX11_act 51 = .ok (.if_icmp .lt 10, 3) := by decide +kernel
theorem dX11_act_54 : decode cX11_act 54 = .ok (.aload_n 0, 1) := by decide +kernel
theorem dX11_act_55 : decode cX11_act 55 = .ok (.bipush (-3), 2) := by decide +kernel
theorem dX11_act_57 : decode cX11_act 57 = .ok (.invokevirtual 96, 3) := by decide +kernel
theorem dX11_act_60 : decode cX11_act 60 = .ok (.ireturn, 1) := by decide +kernel
theorem dX11_act_61 : decode cX11_act 61 = .ok (.aload_n 3, 1) := by decide +kernel
theorem dX11_act_62 : decode cX11_act 62 = .ok (.getfield 208, 3) := by decide +kernel
theorem dX11_act_65 : decode cX11_act 65 = .ok (.istore 5, 2) := by decide +kernel
theorem dX11_act_67 : decode cX11_act 67 = .ok (.aload_n 3, 1) := by decide +kernel
theorem dX11_act_68 : decode cX11_act 68 = .ok (.getfield 211, 3) := by decide +kernel
theorem dX11_act_71 : decode cX11_act 71 = .ok (.istore 6, 2) := by decide +kernel
theorem dX11_act_73 : decode cX11_act 73 = .ok (.aload_n 0, 1) := by decide +kernel
theorem dX11_act_74 : decode cX11_act 74 = .ok (.getfield 39, 3) := by decide +kernel
theorem dX11_act_77 : decode cX11_act 77 = .ok (.aload 4, 2) := by decide +kernel
theorem dX11_act_79 : decode cX11_act 79 = .ok (.aload_n 3, 1) := by decide +kernel
theorem dX11_act_80 : decode cX11_act 80 = .ok (.iload_n 2, 1) := by decide +kernel
theorem dX11_act_81 : decode cX11_act 81 = .ok (.invokevirtual 224, 3) := by decide +kernel
theorem dX11_act_84 : decode cX11_act 84 = .ok (.istore 7, 2) := by decide +kernel
theorem dX11_act_86 : decode cX11_act 86 = .ok (.iload 7, 2) := by decide +kernel
theorem dX11_act_88 : decode cX11_act 88 = .ok (.ifCond .ne 42, 3) := by decide +kernel
theorem dX11_act_91 : decode cX11_act 91 = .ok (.aload_n 0, 1) := by decide +kernel
theorem dX11_act_92 : decode cX11_act 92 = .ok (.new 43, 3) := by decide +kernel
theorem dX11_act_95 : decode cX11_act 95 = .ok (.dup, 1) := by decide +kernel
theorem dX11_act_96 : decode cX11_act 96 = .ok (.iconst 0, 1) := by decide +kernel
theorem dX11_act_97 : decode cX11_act 97 = .ok (.aload_n 3, 1) := by decide +kernel
theorem dX11_act_98 : decode cX11_act 98 = .ok (.aconst_null, 1) := by decide +kernel
theorem dX11_act_99 : decode cX11_act 99 = .ok (.iload_n 2, 1) := by decide +kernel
theorem dX11_act_100 : decode cX11_act 100 = .ok (.aload_n 0, 1) := by decide +kernel
theorem dX11_act_101 : decode cX11_act 101 = .ok (.getfield 39, 3) := by decide +kernel
theorem dX11_act_104 : decode cX11_act 104 = .ok (.getfield 228, 3) := by decide +kernel
theorem dX11_act_107 : decode cX11_act 107 = .ok (.aload_n 0, 1) := by decide +kernel
theorem dX11_act_108 : decode cX11_act 108 = .ok (.getfield 39, 3) := by decide +kernel
theorem dX11_act_111 : decode cX11_act 111 = .ok (.getfield 231, 3) := by decide +kernel
theorem dX11_act_114 : decode cX11_act 114 = .ok (.aload_n 0, 1) := by decide +kernel
theorem dX11_act_115 : decode cX11_act 115 = .ok (.getfield 39, 3) := by decide +kernel
theorem dX11_act_118 : decode cX11_act 118 = .ok (.getfield 234, 3) := by decide +kernel
theorem dX11_act_121 : decode cX11_act 121 = .ok (.invokespecial 214, 3) := by decide +kernel
theorem dX11_act_124 : decode cX11_act 124 = .ok (.invokevirtual 217, 3) := by decide +kernel
theorem dX11_act_127 : decode cX11_act 127 = .ok (.goto 15, 3) := by decide +kernel
theorem dX11_act_130 : decode cX11_act 130 = .ok (.aload_n 3, 1) := by decide +kernel
theorem dX11_act_131 : decode cX11_act 131 = .ok (.iload 5, 2) := by decide +kernel
theorem dX11_act_133 : decode cX11_act 133 = .ok (.putfield 208, 3) := by decide +kernel
theorem dX11_act_136 : decode cX11_act 136 = .ok (.aload_n 3, 1) := by decide +kernel
theorem dX11_act_137 : decode cX11_act 137 = .ok (.iload 6, 2) := by decide +kernel
theorem dX11_act_139 : decode cX11_act 139 = .ok (.putfield 211, 3) := by decide +kernel
theorem dX11_act_142 : decode cX11_act 142 = .ok (.iload 7, 2) := by decide +kernel
theorem dX11_act_144 : decode cX11_act 144 = .ok (.ireturn, 1) := by decide +kernel
theorem dX11_outcome_0 : decode cX11_outcome 0 = .ok (.iload_n 1, 1) := by decide +kernel
theorem dX11_outcome_1 : decode cX11_outcome 1 = .ok (.tableswitch 63 0 3 #[31, 39, 47, 55], 31) := by decide +kernel
theorem dX11_outcome_32 : decode cX11_outcome 32 = .ok (.aload_n 0, 1) := by decide +kernel
theorem dX11_outcome_33 : decode cX11_outcome 33 = .ok (.getfield 39, 3) := by decide +kernel
theorem dX11_outcome_36 : decode cX11_outcome 36 = .ok (.getfield 237, 3) := by decide +kernel
theorem dX11_outcome_39 : decode cX11_outcome 39 = .ok (.ireturn, 1) := by decide +kernel
theorem dX11_outcome_40 : decode cX11_outcome 40 = .ok (.aload_n 0, 1) := by decide +kernel
theorem dX11_outcome_41 : decode cX11_outcome 41 = .ok (.getfield 39, 3) := by decide +kernel
theorem dX11_outcome_44 : decode cX11_outcome 44 = .ok (.getfield 238, 3) := by decide +kernel
theorem dX11_outcome_47 : decode cX11_outcome 47 = .ok (.ireturn, 1) := by decide +kernel
theorem dX11_outcome_48 : decode cX11_outcome 48 = .ok (.aload_n 0, 1) := by decide +kernel
theorem dX11_outcome_49 : decode cX11_outcome 49 = .ok (.getfield 39, 3) := by decide +kernel
theorem dX11_outcome_52 : decode cX11_outcome 52 = .ok (.getfield 241, 3) := by decide +kernel
theorem dX11_outcome_55 : decode cX11_outcome 55 = .ok (.ireturn, 1) := by decide +kernel
theorem dX11_outcome_56 : decode cX11_outcome 56 = .ok (.aload_n 0, 1) := by decide +kernel
theorem dX11_outcome_57 : decode cX11_outcome 57 = .ok (.getfield 39, 3) := by decide +kernel
theorem dX11_outcome_60 : decode cX11_outcome 60 = .ok (.getfield 244, 3) := by decide +kernel
theorem dX11_outcome_63 : decode cX11_outcome 63 = .ok (.ireturn, 1) := by decide +kernel
theorem dX11_outcome_64 : decode cX11_outcome 64 = .ok (.aload_n 0, 1) := by decide +kernel
theorem dX11_outcome_65 : decode cX11_outcome 65 = .ok (.iconst (-1), 1) := by decide +kernel
theorem dX11_outcome_66 : decode cX11_outcome 66 = .ok (.invokevirtual 96, 3) := by decide +kernel
theorem dX11_outcome_69 : decode cX11_outcome 69 = .ok (.ireturn, 1) := by decide +kernel
theorem dX11_ran_0 : decode cX11_ran 0 = .ok (.iload_n 1, 1) := by decide +kernel
theorem dX11_ran_1 : decode cX11_ran 1 = .ok (.ifCond .lt 26, 3) := by decide +kernel
theorem dX11_ran_4 : decode cX11_ran 4 = .ok (.iload_n 1, 1) := by decide +kernel
theorem dX11_ran_5 : decode cX11_ran 5 = .ok (.aload_n 0, 1) := by decide +kernel
theorem dX11_ran_6 : decode cX11_ran 6 = .ok (.getfield 39, 3) := by decide +kernel
theorem dX11_ran_9 : decode cX11_ran 9 = .ok (.getfield 238, 3) := by decide +kernel
theorem dX11_ran_12 : decode cX11_ran 12 = .ok (.if_icmp .ge 15, 3) := by decide +kernel
theorem dX11_ran_15 : decode cX11_ran 15 = .ok (.iload_n 1, 1) := by decide +kernel
theorem dX11_ran_16 : decode cX11_ran 16 = .ok (.aload_n 0, 1) := by decide +kernel
theorem dX11_ran_17 : decode cX11_ran 17 = .ok (.getfield 39, 3) := by decide +kernel
theorem dX11_ran_20 : decode cX11_ran 20 = .ok (.getfield 247, 3) := by decide +kernel
theorem dX11_ran_23 : decode cX11_ran 23 = .ok (.arraylength, 1) := by decide +kernel
theorem dX11_ran_24 : decode cX11_ran 24 = .ok (.if_icmp .lt 9, 3) := by decide +kernel
theorem dX11_ran_27 : decode cX11_ran 27 = .ok (.aload_n 0, 1) := by decide +kernel
theorem dX11_ran_28 : decode cX11_ran 28 = .ok (.iconst (-1), 1) := by decide +kernel
theorem dX11_ran_29 : decode cX11_ran 29 = .ok (.invokevirtual 96, 3) := by decide +kernel
theorem dX11_ran_32 : decode cX11_ran 32 = .ok (.ireturn, 1) := by decide +kernel
theorem dX11_ran_33 : decode cX11_ran 33 = .ok (.iload_n 2, 1) := by decide +kernel
theorem dX11_ran_34 : decode cX11_ran 34 = .ok (.tableswitch 56 0 2 #[26, 36, 46], 26) := by decide +kernel
theorem dX11_ran_60 : decode cX11_ran 60 = .ok (.aload_n 0, 1) := by decide +kernel
theorem dX11_ran_61 : decode cX11_ran 61 = .ok (.getfield 39, 3) := by decide +kernel
