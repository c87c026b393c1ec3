theorem dX0_init_0 : decode cX0_init 0 = .ok (.aload_n 0, 1) := by decide +kernel
theorem dX0_init_1 : decode cX0_init 1 = .ok (.invokespecial 1, 3) := by decide +kernel
theorem dX0_init_4 : decode cX0_init 4 = .ok (.aload_n 0, 1) := by decide +kernel
theorem dX0_init_5 : decode cX0_init 5 = .ok (.iconst 0, 1) := by decide +kernel
theorem dX0_init_6 : decode cX0_init 6 = .ok (.putfield 7, 3) := by decide +kernel
theorem dX0_init_9 : decode cX0_init 9 = .ok (.aload_n 0, 1) := by decide +kernel
theorem dX0_init_10 : decode cX0_init 10 = .ok (.aconst_null, 1) := by decide +kernel
theorem dX0_init_11 : decode cX0_init 11 = .ok (.putfield 13, 3) := by decide +kernel
theorem dX0_init_14 : decode cX0_init 14 = .ok (.aload_n 0, 1) := by decide +kernel
theorem dX0_init_15 : decode cX0_init 15 = .ok (.aconst_null, 1) := by decide +kernel
theorem dX0_init_16 : decode cX0_init 16 = .ok (.putfield 17, 3) := by decide +kernel
theorem dX0_init_19 : decode cX0_init 19 = .ok (.aload_n 0, 1) := by decide +kernel
theorem dX0_init_20 : decode cX0_init 20 = .ok (.aconst_null, 1) := by decide +kernel
theorem dX0_init_21 : decode cX0_init 21 = .ok (.putfield 20, 3) := by decide +kernel
theorem dX0_init_24 : decode cX0_init 24 = .ok (.aload_n 0, 1) := by decide +kernel
theorem dX0_init_25 : decode cX0_init 25 = .ok (.iload_n 1, 1) := by decide +kernel
theorem dX0_init_26 : decode cX0_init 26 = .ok (.putfield 23, 3) := by decide +kernel
theorem dX0_init_29 : decode cX0_init 29 = .ok (.aload_n 0, 1) := by decide +kernel
theorem dX0_init_30 : decode cX0_init 30 = .ok (.iload_n 2, 1) := by decide +kernel
theorem dX0_init_31 : decode cX0_init 31 = .ok (.putfield 26, 3) := by decide +kernel
theorem dX0_init_34 : decode cX0_init 34 = .ok (.return_, 1) := by decide +kernel
theorem dX1_init_0 : decode cX1_init 0 = .ok (.aload_n 0, 1) := by decide +kernel
theorem dX1_init_1 : decode cX1_init 1 = .ok (.invokespecial 1, 3) := by decide +kernel
theorem dX1_init_4 : decode cX1_init 4 = .ok (.aload_n 0, 1) := by decide +kernel
theorem dX1_init_5 : decode cX1_init 5 = .ok (.aconst_null, 1) := by decide +kernel
theorem dX1_init_6 : decode cX1_init 6 = .ok (.putfield 7, 3) := by decide +kernel
theorem dX1_init_9 : decode cX1_init 9 = .ok (.aload_n 0, 1) := by decide +kernel
theorem dX1_init_10 : decode cX1_init 10 = .ok (.iconst 0, 1) := by decide +kernel
theorem dX1_init_11 : decode cX1_init 11 = .ok (.putfield 13, 3) := by decide +kernel
theorem dX1_init_14 : decode cX1_init 14 = .ok (.aload_n 0, 1) := by decide +kernel
theorem dX1_init_15 : decode cX1_init 15 = .ok (.lconst 0, 1) := by decide +kernel
theorem dX1_init_16 : decode cX1_init 16 = .ok (.putfield 17, 3) := by decide +kernel
theorem dX1_init_19 : decode cX1_init 19 = .ok (.aload_n 0, 1) := by decide +kernel
theorem dX1_init_20 : decode cX1_init 20 = .ok (.aconst_null, 1) := by decide +kernel
theorem dX1_init_21 : decode cX1_init 21 = .ok (.putfield 21, 3) := by decide +kernel
theorem dX1_init_24 : decode cX1_init 24 = .ok (.aload_n 0, 1) := by decide +kernel
theorem dX1_init_25 : decode cX1_init 25 = .ok (.aload_n 1, 1) := by decide +kernel
theorem dX1_init_26 : decode cX1_init 26 = .ok (.putfield 25, 3) := by decide +kernel
theorem dX1_init_29 : decode cX1_init 29 = .ok (.aload_n 0, 1) := by decide +kernel
theorem dX1_init_30 : decode cX1_init 30 = .ok (.iload_n 2, 1) := by decide +kernel
theorem dX1_init_31 : decode cX1_init 31 = .ok (.putfield 29, 3) := by decide +kernel
theorem dX1_init_34 : decode cX1_init 34 = .ok (.aload_n 0, 1) := by decide +kernel
theorem dX1_init_35 : decode cX1_init 35 = .ok (.iload_n 3, 1) := by decide +kernel
theorem dX1_init_36 : decode cX1_init 36 = .ok (.putfield 32, 3) := by decide +kernel
theorem dX1_init_39 : decode cX1_init 39 = .ok (.aload_n 0, 1) := by decide +kernel
theorem dX1_init_40 : decode cX1_init 40 = .ok (.iload 4, 2) := by decide +kernel
theorem dX1_init_42 : decode cX1_init 42 = .ok (.putfield 35, 3) := by decide +kernel
theorem dX1_init_45 : decode cX1_init 45 = .ok (.aload_n 0, 1) := by decide +kernel
theorem dX1_init_46 : decode cX1_init 46 = .ok (.iload 5, 2) := by decide +kernel
theorem dX1_init_48 : decode cX1_init 48 = .ok (.putfield 39, 3) := by decide +kernel
theorem dX1_init_51 : decode cX1_init 51 = .ok (.return_, 1) := by decide +kernel
theorem dX1_standsFor_0 : decode cX1_standsFor 0 = .ok (.aload_n 0, 1) := by decide +kernel
theorem dX1_standsFor_1 : decode cX1_standsFor 1 = .ok (.getfield 17, 3) := by decide +kernel
theorem dX1_standsFor_4 : decode cX1_standsFor 4 = .ok (.aload_n 1, 1) := by decide +kernel
theorem dX1_standsFor_5 : decode cX1_standsFor 5 = .ok (.invokevirtual 42, 3) := by decide +kernel
theorem dX1_standsFor_8 : decode cX1_standsFor 8 = .ok (.land, 1) := by decide +kernel
theorem dX1_standsFor_9 : decode cX1_standsFor 9 = .ok (.lconst 0, 1) := by decide +kernel
theorem dX1_standsFor_10 : decode cX1_standsFor 10 = .ok (.lcmp, 1) := by decide +kernel
theorem dX1_standsFor_11 : decode cX1_standsFor 11 = .ok (.ifCond .eq 7, 3) := by decide +kernel
theorem dX1_standsFor_14 : decode cX1_standsFor 14 = .ok (.iconst 1, 1) := by decide +kernel
theorem dX1_standsFor_15 : decode cX1_standsFor 15 = .ok (.goto 4, 3) := by decide +kernel
theorem dX1_standsFor_18 : decode cX1_standsFor 18 = .ok (.iconst 0, 1) := by decide +kernel
theorem dX1_standsFor_19 : decode cX1_standsFor 19 = .ok (.ireturn, 1) := by decide +kernel
theorem dX2_init_0 : decode cX2_init 0 = .ok (.aload_n 0, 1) := by decide +kernel
theorem dX2_init_1 : decode cX2_init 1 = .ok (.invokespecial 3, 3) := by decide +kernel
theorem dX2_init_4 : decode cX2_init 4 = .ok (.aload_n 0, 1) := by decide +kernel
theorem dX2_init_5 : decode cX2_init 5 = .ok (.iconst 0, 1) := by decide +kernel
theorem dX2_init_6 : decode cX2_init 6 = .ok (.putfield 9, 3) := by decide +kernel
theorem dX2_init_9 : decode cX2_init 9 = .ok (.aload_n 0, 1) := by decide +kernel
theorem dX2_init_10 : decode cX2_init 10 = .ok (.iconst (-1), 1) := by decide +kernel
theorem dX2_init_11 : decode cX2_init 11 = .ok (.putfield 15, 3) := by decide +kernel
theorem dX2_init_14 : decode cX2_init 14 = .ok (.aload_n 0, 1) := by decide +kernel
theorem dX2_init_15 : decode cX2_init 15 = .ok (.aload_n 1, 1) := by decide +kernel
theorem dX2_init_16 : decode cX2_init 16 = .ok (.putfield 18, 3) := by decide +kernel
theorem dX2_init_19 : decode cX2_init 19 = .ok (.aload_n 0, 1) := by decide +kernel
theorem dX2_init_20 : decode cX2_init 20 = .ok (.aload_n 2, 1) := by decide +kernel
theorem dX2_init_21 : decode cX2_init 21 = .ok (.putfield 22, 3) := by decide +kernel
theorem dX2_init_24 : decode cX2_init 24 = .ok (.return_, 1) := by decide +kernel
theorem dX2_checkPack_0 : decode cX2_checkPack 0 = .ok (.aload_n 0, 1) := by decide +kernel
theorem dX2_checkPack_1 : decode cX2_checkPack 1 = .ok (.getfield 22, 3) := by decide +kernel
theorem dX2_checkPack_4 : decode cX2_checkPack 4 = .ok (.aload_n 0, 1) := by decide +kernel
theorem dX2_checkPack_5 : decode cX2_checkPack 5 = .ok (.getfield 22, 3) := by decide +kernel
theorem dX2_checkPack_8 : decode cX2_checkPack 8 = .ok (.getfield 26, 3) := by decide +kernel
theorem dX2_checkPack_11 : decode cX2_checkPack 11 = .ok (.ifCond .eq 20, 3) := by decide +kernel
theorem dX2_checkPack_14 : decode cX2_checkPack 14 = .ok (.aload_n 0, 1) := by decide +kernel
theorem dX2_checkPack_15 : decode cX2_checkPack 15 = .ok (.getfield 18, 3) := by decide +kernel
theorem dX2_checkPack_18 : decode cX2_checkPack 18 = .ok (.aload_n 0, 1) := by decide +kernel
theorem dX2_checkPack_19 : decode cX2_checkPack 19 = .ok (.getfield 22, 3) := by decide +kernel
theorem dX2_checkPack_22 : decode cX2_checkPack 22 = .ok (.getfield 32, 3) := by decide +kernel
theorem dX2_checkPack_25 : decode cX2_checkPack 25 = .ok (.invokevirtual 36, 3) := by decide +kernel
theorem dX2_checkPack_28 : decode cX2_checkPack 28 = .ok (.goto 12, 3) := by decide +kernel
theorem dX2_checkPack_31 : decode cX2_checkPack 31 = .ok (.aload_n 0, 1) := by decide +kernel
theorem dX2_checkPack_32 : decode cX2_checkPack 32 = .ok (.getfield 18, 3) := by decide +kernel
theorem dX2_checkPack_35 : decode cX2_checkPack 35 = .ok (.getfield 42, 3) := by decide +kernel
theorem dX2_checkPack_38 : decode cX2_checkPack 38 = .ok (.iconst 1, 1) := by decide +kernel
theorem dX2_checkPack_39 : decode cX2_checkPack 39 = .ok (.iadd, 1) := by decide +kernel
theorem dX2_checkPack_40 : decode cX2_checkPack 40 = .ok (.putfield 45, 3) := by decide +kernel
theorem dX2_checkPack_43 : decode cX2_checkPack 43 = .ok (.aload_n 0, 1) := by decide +kernel
theorem dX2_checkPack_44 : decode cX2_checkPack 44 = .ok (.getfield 22, 3) := by decide +kernel
theorem dX2_checkPack_47 : decode cX2_checkPack 47 = .ok (.getfield 45, 3) := by decide +kernel
theorem dX2_checkPack_50 : decode cX2_checkPack 50 = .ok (.ifCond .ge 15, 3) := by decide +kernel
theorem dX2_checkPack_53 : decode cX2_checkPack 53 = .ok (.aload_n 0, 1) := by decide +kernel
theorem dX2_checkPack_54 : decode cX2_checkPack 54 = .ok (.iconst 2, 1) := by decide +kernel
theorem dX2_checkPack_55 : decode cX2_checkPack 55 = .ok (.aload_n 0, 1) := by decide +kernel
theorem dX2_checkPack_56 : decode cX2_checkPack 56 = .ok (.getfield 22, 3) := by decide +kernel
theorem dX2_checkPack_59 : decode cX2_checkPack 59 = .ok (.getfield 48, 3) := by decide +kernel
theorem dX2_checkPack_62 : decode cX2_checkPack 62 = .ok (.invokevirtual 51, 3) := by decide +kernel
theorem dX2_checkPack_65 : decode cX2_checkPack 65 = .ok (.iconst 0, 1) := by decide +kernel
theorem dX2_checkPack_66 : decode cX2_checkPack 66 = .ok (.istore_n 1, 1) := by decide +kernel
theorem dX2_checkPack_67 : decode cX2_checkPack 67 = .ok (.iload_n 1, 1) := by decide +kernel
theorem dX2_checkPack_68 : decode cX2_checkPack 68 = .ok (.aload_n 0, 1) := by decide +kernel
theorem dX2_checkPack_69 : decode cX2_checkPack 69 = .ok (.getfield 22, 3) := by decide +kernel
theorem dX2_checkPack_72 : decode cX2_checkPack 72 = .ok (.getfield 55, 3) := by decide +kernel
theorem dX2_checkPack_75 : decode cX2_checkPack 75 = .ok (.if_icmp .ge 42, 3) := by decide +kernel
theorem dX2_checkPack_78 : decode cX2_checkPack 78 = .ok (.iload_n 1, 1) := by decide +kernel
theorem dX2_checkPack_79 : decode cX2_checkPack 79 = .ok (.aload_n 0, 1) := by decide +kernel
theorem dX2_checkPack_80 : decode cX2_checkPack 80 = .ok (.getfield 22, 3) := by decide +kernel
theorem dX2_checkPack_83 : decode cX2_checkPack 83 = .ok (.getfield 58, 3) := by decide +kernel
theorem dX2_checkPack_86 : decode cX2_checkPack 86 = .ok (.arraylength, 1) := by decide +kernel
theorem dX2_checkPack_87 : decode cX2_checkPack 87 = .ok (.if_icmp .ge 30, 3) := by decide +kernel
theorem dX2_checkPack_90 : decode cX2_checkPack 90 = .ok (.aload_n 0, 1) := by decide +kernel
theorem dX2_checkPack_91 : decode cX2_checkPack 91 = .ok (.getfield 9, 3) := by decide +kernel
theorem dX2_checkPack_94 : decode cX2_checkPack 94 = .ok (.ifCond .ne 23, 3) := by decide +kernel
theorem dX2_checkPack_97 : decode cX2_checkPack 97 = .ok (.aload_n 0, 1) := by decide +kernel
theorem dX2_checkPack_98 : decode cX2_checkPack 98 = .ok (.aload_n 0, 1) := by decide +kernel
theorem dX2_checkPack_99 : decode cX2_checkPack 99 = .ok (.getfield 22, 3) := by decide +kernel
theorem dX2_checkPack_102 : decode cX2_checkPack 102 = .ok (.getfield 58, 3) := by decide +kernel
theorem dX2_checkPack_105 : decode cX2_checkPack 105 = .ok (.iload_n 1, 1) := by decide +kernel
theorem dX2_checkPack_106 : decode cX2_checkPack 106 = .ok (.aaload, 1) := by decide +kernel
theorem dX2_checkPack_107 : decode cX2_checkPack 107 = .ok (.iload_n 1, 1) := by decide +kernel
theorem dX2_checkPack_108 : decode cX2_checkPack 108 = .ok (.invokevirtual 62, 3) := by decide +kernel
theorem dX2_checkPack_111 : decode cX2_checkPack 111 = .ok (.iinc 1 1, 3) := by decide +kernel
theorem dX2_checkPack_114 : decode cX2_checkPack 114 = .ok (.goto (-47), 3) := by decide +kernel
theorem dX2_checkPack_117 : decode cX2_checkPack 117 = .ok (.return_, 1) := by decide +kernel
theorem dX2_checkKind_0 : decode cX2_checkKind 0 = .ok (.aload_n 0, 1) := by decide +kernel
theorem dX2_checkKind_1 : decode cX2_checkKind 1 = .ok (.aload_n 1, 1) := by decide +kernel
theorem dX2_checkKind_2 : decode cX2_checkKind 2 = .ok (.getfield 66, 3) := by decide +kernel
theorem dX2_checkKind_5 : decode cX2_checkKind 5 = .ok (.iload_n 2, 1) := by decide +kernel
theorem dX2_checkKind_6 : decode cX2_checkKind 6 = .ok (.invokevirtual 71, 3) := by decide +kernel
theorem dX2_checkKind_9 : decode cX2_checkKind 9 = .ok (.ifnull 13, 3) := by decide +kernel
theorem dX2_checkKind_12 : decode cX2_checkKind 12 = .ok (.aload_n 0, 1) := by decide +kernel
theorem dX2_checkKind_13 : decode cX2_checkKind 13 = .ok (.iconst 2, 1) := by decide +kernel
theorem dX2_checkKind_14 : decode cX2_checkKind 14 = .ok (.aload_n 1, 1) := by decide +kernel
theorem dX2_checkKind_15 : decode cX2_checkKind 15 = .ok (.getfield 75, 3) := by decide +kernel
theorem dX2_checkKind_18 : decode cX2_checkKind 18 = .ok (.invokevirtual 51, 3) := by decide +kernel
theorem dX2_checkKind_21 : decode cX2_checkKind 21 = .ok (.return_, 1) := by decide +kernel
theorem dX2_checkKind_22 : decode cX2_checkKind 22 = .ok (.aload_n 0, 1) := by decide +kernel
theorem dX2_checkKind_23 : decode cX2_checkKind 23 = .ok (.aload_n 1, 1) := by decide +kernel
theorem dX2_checkKind_24 : decode cX2_checkKind 24 = .ok (.getfield 78, 3) := by decide +kernel
theorem dX2_checkKind_27 : decode cX2_checkKind 27 = .ok (.iload_n 2, 1) := by decide +kernel
theorem dX2_checkKind_28 : decode cX2_checkKind 28 = .ok (.invokevirtual 71, 3) := by decide +kernel
theorem dX2_checkKind_31 : decode cX2_checkKind 31 = .ok (.astore_n 3, 1) := by decide +kernel
theorem dX2_checkKind_32 : decode cX2_checkKind 32 = .ok (.aload_n 3, 1) := by decide +kernel
theorem dX2_checkKind_33 : decode cX2_checkKind 33 = .ok (.ifnonnull 13, 3) := by decide +kernel
theorem dX2_checkKind_36 : decode cX2_checkKind 36 = .ok (.aload_n 0, 1) := by decide +kernel
theorem dX2_checkKind_37 : decode cX2_checkKind 37 = .ok (.iconst 2, 1) := by decide +kernel
theorem dX2_checkKind_38 : decode cX2_checkKind 38 = .ok (.aload_n 1, 1) := by decide +kernel
theorem dX2_checkKind_39 : decode cX2_checkKind 39 = .ok (.getfield 81, 3) := by decide +kernel
theorem dX2_checkKind_42 : decode cX2_checkKind 42 = .ok (.invokevirtual 51, 3) := by decide +kernel
theorem dX2_checkKind_45 : decode cX2_checkKind 45 = .ok (.return_, 1) := by decide +kernel
theorem dX2_checkKind_46 : decode cX2_checkKind 46 = .ok (.aload_n 1, 1) := by decide +kernel
theorem dX2_checkKind_47 : decode cX2_checkKind 47 = .ok (.aload_n 0, 1) := by decide +kernel
theorem dX2_checkKind_48 : decode cX2_checkKind 48 = .ok (.getfield 18, 3) := by decide +kernel
theorem dX2_checkKind_51 : decode cX2_checkKind 51 = .ok (.getfield 84, 3) := by decide +kernel
theorem dX2_checkKind_54 : decode cX2_checkKind 54 = .ok (.iload_n 2, 1) := by decide +kernel
theorem dX2_checkKind_55 : decode cX2_checkKind 55 = .ok (.iadd, 1) := by decide +kernel
theorem dX2_checkKind_56 : decode cX2_checkKind 56 = .ok (.aload_n 3, 1) := by decide +kernel
theorem dX2_checkKind_57 : decode cX2_checkKind 57 = .ok (.aload_n 0, 1) := by decide +kernel
theorem dX2_checkKind_58 : decode cX2_checkKind 58 = .ok (.getfield 22, 3) := by decide +kernel
theorem dX2_checkKind_61 : decode cX2_checkKind 61 = .ok (.getfield 45, 3) := by decide +kernel
theorem dX2_checkKind_64 : decode cX2_checkKind 64 = .ok (.aload_n 0, 1) := by decide +kernel
theorem dX2_checkKind_65 : decode cX2_checkKind 65 = .ok (.getfield 18, 3) := by decide +kernel
theorem dX2_checkKind_68 : decode cX2_checkKind 68 = .ok (.getfield 85, 3) := by decide +kernel
theorem dX2_checkKind_71 : decode cX2_checkKind 71 = .ok (.invokevirtual 88, 3) := by decide +kernel
theorem dX2_checkKind_74 : decode cX2_checkKind 74 = .ok (.aload_n 1, 1) := by decide +kernel
theorem dX2_checkKind_75 : decode cX2_checkKind 75 = .ok (.getfield 92, 3) := by decide +kernel
theorem dX2_checkKind_78 : decode cX2_checkKind 78 = .ok (.astore 4, 2) := by decide +kernel
theorem dX2_checkKind_80 : decode cX2_checkKind 80 = .ok (.aload 4, 2) := by decide +kernel
theorem dX2_checkKind_82 : decode cX2_checkKind 82 = .ok (.ifnull 38, 3) := by decide +kernel
theorem dX2_checkKind_85 : decode cX2_checkKind 85 = .ok (.aload_n 0, 1) := by decide +kernel
theorem dX2_checkKind_86 : decode cX2_checkKind 86 = .ok (.getfield 9, 3) := by decide +kernel
theorem dX2_checkKind_89 : decode cX2_checkKind 89 = .ok (.ifCond .ne 31, 3) := by decide +kernel
theorem dX2_checkKind_92 : decode cX2_checkKind 92 = .ok (.aload_n 0, 1) := by decide +kernel
theorem dX2_checkKind_93 : decode cX2_checkKind 93 = .ok (.aload 4, 2) := by decide +kernel
theorem dX2_checkKind_95 : decode cX2_checkKind 95 = .ok (.invokevirtual 96, 3) := by decide +kernel
theorem dX2_checkKind_98 : decode cX2_checkKind 98 = .ok (.aload_n 0, 1) := by decide +kernel
theorem dX2_checkKind_99 : decode cX2_checkKind 99 = .ok (.aload 4, 2) := by decide +kernel
theorem dX2_checkKind_101 : decode cX2_checkKind 101 = .ok (.aload 4, 2) := by decide +kernel
theorem dX2_checkKind_103 : decode cX2_checkKind 103 = .ok (.getfield 100, 3) := by decide +kernel
theorem dX2_checkKind_106 : decode cX2_checkKind 106 = .ok (.iconst 1, 1) := by decide +kernel
theorem dX2_checkKind_107 : decode cX2_checkKind 107 = .ok (.invokevirtual 106, 3) := by decide +kernel
theorem dX2_checkKind_110 : decode cX2_checkKind 110 = .ok (.aload 4, 2) := by decide +kernel
theorem dX2_checkKind_112 : decode cX2_checkKind 112 = .ok (.getfield 110, 3) := by decide +kernel
theorem dX2_checkKind_115 : decode cX2_checkKind 115 = .ok (.astore 4, 2) := by decide +kernel
theorem dX2_checkKind_117 : decode cX2_checkKind 117 = .ok (.goto (-37), 3) := by decide +kernel
theorem dX2_checkKind_120 : decode cX2_checkKind 120 = .ok (.return_, 1) := by decide +kernel
theorem dX2_kindNamed_0 : decode cX2_kindNamed 0 = .ok (.aload_n 0, 1) := by decide +kernel
theorem dX2_kindNamed_1 : decode cX2_kindNamed 1 = .ok (.getfield 18, 3) := by decide +kernel
theorem dX2_kindNamed_4 : decode cX2_kindNamed 4 = .ok (.lload_n 1, 1) := by decide +kernel
theorem dX2_kindNamed_5 : decode cX2_kindNamed 5 = .ok (.invokevirtual 113, 3) := by decide +kernel
theorem dX2_kindNamed_8 : decode cX2_kindNamed 8 = .ok (.astore 4, 2) := by decide +kernel
theorem dX2_kindNamed_10 : decode cX2_kindNamed 10 = .ok (.iconst 0, 1) := by decide +kernel
theorem dX2_kindNamed_11 : decode cX2_kindNamed 11 = .ok (.istore 5, 2) := by decide +kernel
theorem dX2_kindNamed_13 : decode cX2_kindNamed 13 = .ok (.iload 5, 2) := by decide +kernel
theorem dX2_kindNamed_15 : decode cX2_kindNamed 15 = .ok (.iload_n 3, 1) := by decide +kernel
theorem dX2_kindNamed_16 : decode cX2_kindNamed 16 = .ok (.if_icmp .ge 57, 3) := by decide +kernel
theorem dX2_kindNamed_19 : decode cX2_kindNamed 19 = .ok (.iload 5, 2) := by decide +kernel
theorem dX2_kindNamed_21 : decode cX2_kindNamed 21 = .ok (.aload_n 0, 1) := by decide +kernel
theorem dX2_kindNamed_22 : decode cX2_kindNamed 22 = .ok (.getfield 22, 3) := by decide +kernel
theorem dX2_kindNamed_25 : decode cX2_kindNamed 25 = .ok (.getfield 58, 3) := by decide +kernel
theorem dX2_kindNamed_28 : decode cX2_kindNamed 28 = .ok (.arraylength, 1) := by decide +kernel
theorem dX2_kindNamed_29 : decode cX2_kindNamed 29 = .ok (.if_icmp .ge 44, 3) := by decide +kernel
theorem dX2_kindNamed_32 : decode cX2_kindNamed 32 = .ok (.aload 4, 2) := by decide +kernel
theorem dX2_kindNamed_34 : decode cX2_kindNamed 34 = .ok (.ifnonnull 39, 3) := by decide +kernel
theorem dX2_kindNamed_37 : decode cX2_kindNamed 37 = .ok (.aload_n 0, 1) := by decide +kernel
theorem dX2_kindNamed_38 : decode cX2_kindNamed 38 = .ok (.getfield 22, 3) := by decide +kernel
theorem dX2_kindNamed_41 : decode cX2_kindNamed 41 = .ok (.getfield 58, 3) := by decide +kernel
theorem dX2_kindNamed_44 : decode cX2_kindNamed 44 = .ok (.iload 5, 2) := by decide +kernel
theorem dX2_kindNamed_46 : decode cX2_kindNamed 46 = .ok (.aaload, 1) := by decide +kernel
theorem dX2_kindNamed_47 : decode cX2_kindNamed 47 = .ok (.getfield 66, 3) := by decide +kernel
theorem dX2_kindNamed_50 : decode cX2_kindNamed 50 = .ok (.lload_n 1, 1) := by decide +kernel
theorem dX2_kindNamed_51 : decode cX2_kindNamed 51 = .ok (.lcmp, 1) := by decide +kernel
theorem dX2_kindNamed_52 : decode cX2_kindNamed 52 = .ok (.ifCond .ne 15, 3) := by decide +kernel
theorem dX2_kindNamed_55 : decode cX2_kindNamed 55 = .ok (.aload_n 0, 1) := by decide +kernel
theorem dX2_kindNamed_56 : decode cX2_kindNamed 56 = .ok (.getfield 22, 3) := by decide +kernel
theorem dX2_kindNamed_59 : decode cX2_kindNamed 59 = .ok (.getfield 58, 3) := by decide +kernel
theorem dX2_kindNamed_62 : decode cX2_kindNamed 62 = .ok (.iload 5, 2) := by decide +kernel
theorem dX2_kindNamed_64 : decode cX2_kindNamed 64 = .ok (.aaload, 1) := by decide +kernel
theorem dX2_kindNamed_65 : decode cX2_kindNamed 65 = .ok (.astore 4, 2) := by decide +kernel
theorem dX2_kindNamed_67 : decode cX2_kindNamed 67 = .ok (.iinc 5 1, 3) := by decide +kernel
theorem dX2_kindNamed_70 : decode cX2_kindNamed 70 = .ok (.goto (-57), 3) := by decide +kernel
theorem dX2_kindNamed_73 : decode cX2_kindNamed 73 = .ok (.aload 4, 2) := by decide +kernel
theorem dX2_kindNamed_75 : decode cX2_kindNamed 75 = .ok (.areturn, 1) := by decide +kernel
theorem dX2_checkBody_0 : decode cX2_checkBody 0 = .ok (.aload_n 1, 1) := by decide +kernel
theorem dX2_checkBody_1 : decode cX2_checkBody 1 = .ok (.getfield 116, 3) := by decide +kernel
theorem dX2_checkBody_4 : decode cX2_checkBody 4 = .ok (.aload_n 1, 1) := by decide +kernel
theorem dX2_checkBody_5 : decode cX2_checkBody 5 = .ok (.getfield 120, 3) := by decide +kernel
theorem dX2_checkBody_8 : decode cX2_checkBody 8 = .ok (.invokevirtual 123, 3) := by decide +kernel
theorem dX2_checkBody_11 : decode cX2_checkBody 11 = .ok (.aload_n 1, 1) := by decide +kernel
theorem dX2_checkBody_12 : decode cX2_checkBody 12 = .ok (.if_acmp .eq 13, 3) := by decide +kernel
theorem dX2_checkBody_15 : decode cX2_checkBody 15 = .ok (.aload_n 0, 1) := by decide +kernel
theorem dX2_checkBody_16 : decode cX2_checkBody 16 = .ok (.iconst 3, 1) := by decide +kernel
theorem dX2_checkBody_17 : decode cX2_checkBody 17 = .ok (.aload_n 1, 1) := by decide +kernel
theorem dX2_checkBody_18 : decode cX2_checkBody 18 = .ok (.getfield 127, 3) := by decide +kernel
theorem dX2_checkBody_21 : decode cX2_checkBody 21 = .ok (.invokevirtual 51, 3) := by decide +kernel
theorem dX2_checkBody_24 : decode cX2_checkBody 24 = .ok (.return_, 1) := by decide +kernel
theorem dX2_checkBody_25 : decode cX2_checkBody 25 = .ok (.iconst 0, 1) := by decide +kernel
theorem dX2_checkBody_26 : decode cX2_checkBody 26 = .ok (.istore_n 2, 1) := by decide +kernel
theorem dX2_checkBody_27 : decode cX2_checkBody 27 = .ok (.iconst 0, 1) := by decide +kernel
theorem dX2_checkBody_28 : decode cX2_checkBody 28 = .ok (.istore_n 3, 1) := by decide +kernel
theorem dX2_checkBody_29 : decode cX2_checkBody 29 = .ok (.aload_n 1, 1) := by decide +kernel
theorem dX2_checkBody_30 : decode cX2_checkBody 30 = .ok (.getfield 116, 3) := by decide +kernel
theorem dX2_checkBody_33 : decode cX2_checkBody 33 = .ok (.getfield 128, 3) := by decide +kernel
theorem dX2_checkBody_36 : decode cX2_checkBody 36 = .ok (.astore 4, 2) := by decide +kernel
theorem dX2_checkBody_38 : decode cX2_checkBody 38 = .ok (.aload 4, 2) := by decide +kernel
theorem dX2_checkBody_40 : decode cX2_checkBody 40 = .ok (.ifnull 66, 3) := by decide +kernel
theorem dX2_checkBody_43 : decode cX2_checkBody 43 = .ok (.aload 4, 2) := by decide +kernel
theorem dX2_checkBody_45 : decode cX2_checkBody 45 = .ok (.aload_n 1, 1) := by decide +kernel
theorem dX2_checkBody_46 : decode cX2_checkBody 46 = .ok (.getfield 120, 3) := by decide +kernel
theorem dX2_checkBody_49 : decode cX2_checkBody 49 = .ok (.invokevirtual 123, 3) := by decide +kernel
theorem dX2_checkBody_52 : decode cX2_checkBody 52 = .ok (.astore 5, 2) := by decide +kernel
theorem dX2_checkBody_54 : decode cX2_checkBody 54 = .ok (.aload 5, 2) := by decide +kernel
theorem dX2_checkBody_56 : decode cX2_checkBody 56 = .ok (.ifnull 40, 3) := by decide +kernel
theorem dX2_checkBody_59 : decode cX2_checkBody 59 = .ok (.aload_n 1, 1) := by decide +kernel
theorem dX2_checkBody_60 : decode cX2_checkBody 60 = .ok (.aload 4, 2) := by decide +kernel
theorem dX2_checkBody_62 : decode cX2_checkBody 62 = .ok (.invokevirtual 131, 3) := by decide +kernel
theorem dX2_checkBody_65 : decode cX2_checkBody 65 = .ok (.ifCond .eq 31, 3) := by decide +kernel
theorem dX2_checkBody_68 : decode cX2_checkBody 68 = .ok (.iload_n 2, 1) := by decide +kernel
theorem dX2_checkBody_69 : decode cX2_checkBody 69 = .ok (.aload 5, 2) := by decide +kernel
theorem dX2_checkBody_71 : decode cX2_checkBody 71 = .ok (.getfield 135, 3) := by decide +kernel
theorem dX2_checkBody_74 : decode cX2_checkBody 74 = .ok (.ior, 1) := by decide +kernel
theorem dX2_checkBody_75 : decode cX2_checkBody 75 = .ok (.istore_n 2, 1) := by decide +kernel
theorem dX2_checkBody_76 : decode cX2_checkBody 76 = .ok (.iload_n 3, 1) := by decide +kernel
theorem dX2_checkBody_77 : decode cX2_checkBody 77 = .ok (.aload_n 1, 1) := by decide +kernel
theorem dX2_checkBody_78 : decode cX2_checkBody 78 = .ok (.getfield 138, 3) := by decide +kernel
theorem dX2_checkBody_81 : decode cX2_checkBody 81 = .ok (.aload 5, 2) := by decide +kernel
theorem dX2_checkBody_83 : decode cX2_checkBody 83 = .ok (.getfield 138, 3) := by decide +kernel
theorem dX2_checkBody_86 : decode cX2_checkBody 86 = .ok (.if_icmp .le 7, 3) := by decide +kernel
theorem dX2_checkBody_89 : decode cX2_checkBody 89 = .ok (.iconst 1, 1) := by decide +kernel
theorem dX2_checkBody_90 : decode cX2_checkBody 90 = .ok (.goto 4, 3) := by decide +kernel
theorem dX2_checkBody_93 : decode cX2_checkBody 93 = .ok (.iconst 0, 1) := by decide +kernel
theorem dX2_checkBody_94 : decode cX2_checkBody 94 = .ok (.ior, 1) := by decide +kernel
theorem dX2_checkBody_95 : decode cX2_checkBody 95 = .ok (.istore_n 3, 1) := by decide +kernel
theorem dX2_checkBody_96 : decode cX2_checkBody 96 = .ok (.aload 4, 2) := by decide +kernel
theorem dX2_checkBody_98 : decode cX2_checkBody 98 = .ok (.getfield 128, 3) := by decide +kernel
theorem dX2_checkBody_101 : decode cX2_checkBody 101 = .ok (.astore 4, 2) := by decide +kernel
theorem dX2_checkBody_103 : decode cX2_checkBody 103 = .ok (.goto (-65), 3) := by decide +kernel
theorem dX2_checkBody_106 : decode cX2_checkBody 106 = .ok (.iload_n 2, 1) := by decide +kernel
theorem dX2_checkBody_107 : decode cX2_checkBody 107 = .ok (.ifCond .eq 15, 3) := by decide +kernel
theorem dX2_checkBody_110 : decode cX2_checkBody 110 = .ok (.aload_n 0, 1) := by decide +kernel
theorem dX2_checkBody_111 : decode cX2_checkBody 111 = .ok (.iconst 5, 1) := by decide +kernel
theorem dX2_checkBody_112 : decode cX2_checkBody 112 = .ok (.aload_n 1, 1) := by decide +kernel
theorem dX2_checkBody_113 : decode cX2_checkBody 113 = .ok (.getfield 127, 3) := by decide +kernel
theorem dX2_checkBody_116 : decode cX2_checkBody 116 = .ok (.invokevirtual 51, 3) := by decide +kernel
theorem dX2_checkBody_119 : decode cX2_checkBody 119 = .ok (.goto 16, 3) := by decide +kernel
theorem dX2_checkBody_122 : decode cX2_checkBody 122 = .ok (.iload_n 3, 1) := by decide +kernel
theorem dX2_checkBody_123 : decode cX2_checkBody 123 = .ok (.ifCond .eq 12, 3) := by decide +kernel
theorem dX2_checkBody_126 : decode cX2_checkBody 126 = .ok (.aload_n 0, 1) := by decide +kernel
theorem dX2_checkBody_127 : decode cX2_checkBody 127 = .ok (.iconst 4, 1) := by decide +kernel
theorem dX2_checkBody_128 : decode cX2_checkBody 128 = .ok (.aload_n 1, 1) := by decide +kernel
theorem dX2_checkBody_129 : decode cX2_checkBody 129 = .ok (.getfield 127, 3) := by decide +kernel
theorem dX2_checkBody_132 : decode cX2_checkBody 132 = .ok (.invokevirtual 51, 3) := by decide +kernel
theorem dX2_checkBody_135 : decode cX2_checkBody 135 = .ok (.return_, 1) := by decide +kernel
theorem dX2_checkActions_0 : decode cX2_checkActions 0 = .ok (.iload_n 3, 1) := by decide +kernel
theorem dX2_checkActions_1 : decode cX2_checkActions 1 = .ok (.bipush 6, 2) := by decide +kernel
theorem dX2_checkActions_3 : decode cX2_checkActions 3 = .ok (.if_icmp .le 4, 3) := by decide +kernel
theorem dX2_checkActions_6 : decode cX2_checkActions 6 = .ok (.return_, 1) := by decide +kernel
theorem dX2_checkActions_7 : decode cX2_checkActions 7 = .ok (.aload_n 2, 1) := by decide +kernel
theorem dX2_checkActions_8 : decode cX2_checkActions 8 = .ok (.astore 4, 2) := by decide +kernel
theorem dX2_checkActions_10 : decode cX2_checkActions 10 = .ok (.aload 4, 2) := by decide +kernel
theorem dX2_checkActions_12 : decode cX2_checkActions 12 = .ok (.ifnull 53, 3) := by decide +kernel
theorem dX2_checkActions_15 : decode cX2_checkActions 15 = .ok (.aload_n 0, 1) := by decide +kernel
theorem dX2_checkActions_16 : decode cX2_checkActions 16 = .ok (.getfield 9, 3) := by decide +kernel
theorem dX2_checkActions_19 : decode cX2_checkActions 19 = .ok (.ifCond .ne 46, 3) := by decide +kernel
theorem dX2_checkActions_22 : decode cX2_checkActions 22 = .ok (.aload_n 0, 1) := by decide +kernel
theorem dX2_checkActions_23 : decode cX2_checkActions 23 = .ok (.aload_n 1, 1) := by decide +kernel
theorem dX2_checkActions_24 : decode cX2_checkActions 24 = .ok (.aload 4, 2) := by decide +kernel
theorem dX2_checkActions_26 : decode cX2_checkActions 26 = .ok (.invokevirtual 141, 3) := by decide +kernel
theorem dX2_checkActions_29 : decode cX2_checkActions 29 = .ok (.aload_n 0, 1) := by decide +kernel
theorem dX2_checkActions_30 : decode cX2_checkActions 30 = .ok (.aload_n 1, 1) := by decide +kernel
theorem dX2_checkActions_31 : decode cX2_checkActions 31 = .ok (.aload 4, 2) := by decide +kernel
theorem dX2_checkActions_33 : decode cX2_checkActions 33 = .ok (.getfield 145, 3) := by decide +kernel
theorem dX2_checkActions_36 : decode cX2_checkActions 36 = .ok (.iload_n 3, 1) := by decide +kernel
theorem dX2_checkActions_37 : decode cX2_checkActions 37 = .ok (.iconst 1, 1) := by decide +kernel
theorem dX2_checkActions_38 : decode cX2_checkActions 38 = .ok (.iadd, 1) := by decide +kernel
theorem dX2_checkActions_39 : decode cX2_checkActions 39 = .ok (.invokevirtual 106, 3) := by decide +kernel
theorem dX2_checkActions_42 : decode cX2_checkActions 42 = .ok (.aload_n 0, 1) := by decide +kernel
theorem dX2_checkActions_43 : decode cX2_checkActions 43 = .ok (.aload_n 1, 1) := by decide +kernel
theorem dX2_checkActions_44 : decode cX2_checkActions 44 = .ok (.aload 4, 2) := by decide +kernel
theorem dX2_checkActions_46 : decode cX2_checkActions 46 = .ok (.getfield 150, 3) := by decide +kernel
theorem dX2_checkActions_49 : decode cX2_checkActions 49 = .ok (.iload_n 3, 1) := by decide +kernel
theorem dX2_checkActions_50 : decode cX2_checkActions 50 = .ok (.iconst 1, 1) := by decide +kernel
theorem dX2_checkActions_51 : decode cX2_checkActions 51 = .ok (.iadd, 1) := by decide +kernel
theorem dX2_checkActions_52 : decode cX2_checkActions 52 = .ok (.invokevirtual 106, 3) := by decide +kernel
theorem dX2_checkActions_55 : decode cX2_checkActions 55 = .ok (.aload 4, 2) := by decide +kernel
theorem dX2_checkActions_57 : decode cX2_checkActions 57 = .ok (.getfield 153, 3) := by decide +kernel
theorem dX2_checkActions_60 : decode cX2_checkActions 60 = .ok (.astore 4, 2) := by decide +kernel
theorem dX2_checkActions_62 : decode cX2_checkActions 62 = .ok (.goto (-52), 3) := by decide +kernel
theorem dX2_checkActions_65 : decode cX2_checkActions 65 = .ok (.return_, 1) := by decide +kernel
theorem dX2_checkAction_0 : decode cX2_checkAction 0 = .ok (.aload_n 1, 1) := by decide +kernel
theorem dX2_checkAction_1 : decode cX2_checkAction 1 = .ok (.getfield 116, 3) := by decide +kernel
theorem dX2_checkAction_4 : decode cX2_checkAction 4 = .ok (.astore_n 3, 1) := by decide +kernel
theorem dX2_checkAction_5 : decode cX2_checkAction 5 = .ok (.aload_n 2, 1) := by decide +kernel
theorem dX2_checkAction_6 : decode cX2_checkAction 6 = .ok (.getfield 155, 3) := by decide +kernel
theorem dX2_checkAction_9 : decode cX2_checkAction 9 = .ok (.bipush 13, 2) := by decide +kernel
theorem dX2_checkAction_11 : decode cX2_checkAction 11 = .ok (.if_icmp .ne 28, 3) := by decide +kernel
theorem dX2_checkAction_14 : decode cX2_checkAction 14 = .ok (.aload_n 3, 1) := by decide +kernel
theorem dX2_checkAction_15 : decode cX2_checkAction 15 = .ok (.aload_n 1, 1) := by decide +kernel
theorem dX2_checkAction_16 : decode cX2_checkAction 16 = .ok (.getfield 120, 3) := by decide +kernel
theorem dX2_checkAction_19 : decode cX2_checkAction 19 = .ok (.aload_n 3, 1) := by decide +kernel
theorem dX2_checkAction_20 : decode cX2_checkAction 20 = .ok (.getfield 128, 3) := by decide +kernel
theorem dX2_checkAction_23 : decode cX2_checkAction 23 = .ok (.invokevirtual 158, 3) := by decide +kernel
theorem dX2_checkAction_26 : decode cX2_checkAction 26 = .ok (.ifnonnull 13, 3) := by decide +kernel
theorem dX2_checkAction_29 : decode cX2_checkAction 29 = .ok (.aload_n 0, 1) := by decide +kernel
theorem dX2_checkAction_30 : decode cX2_checkAction 30 = .ok (.bipush 6, 2) := by decide +kernel
theorem dX2_checkAction_32 : decode cX2_checkAction 32 = .ok (.aload_n 2, 1) := by decide +kernel
theorem dX2_checkAction_33 : decode cX2_checkAction 33 = .ok (.getfield 162, 3) := by decide +kernel
theorem dX2_checkAction_36 : decode cX2_checkAction 36 = .ok (.invokevirtual 51, 3) := by decide +kernel
theorem dX2_checkAction_39 : decode cX2_checkAction 39 = .ok (.aload_n 2, 1) := by decide +kernel
theorem dX2_checkAction_40 : decode cX2_checkAction 40 = .ok (.getfield 155, 3) := by decide +kernel
theorem dX2_checkAction_43 : decode cX2_checkAction 43 = .ok (.bipush 14, 2) := by decide +kernel
theorem dX2_checkAction_45 : decode cX2_checkAction 45 = .ok (.if_icmp .ne 25, 3) := by decide +kernel
theorem dX2_checkAction_48 : decode cX2_checkAction 48 = .ok (.aload_n 3, 1) := by decide +kernel
theorem dX2_checkAction_49 : decode cX2_checkAction 49 = .ok (.aload_n 2, 1) := by decide +kernel
theorem dX2_checkAction_50 : decode cX2_checkAction 50 = .ok (.getfield 163, 3) := by decide +kernel
theorem dX2_checkAction_53 : decode cX2_checkAction 53 = .ok (.aload_n 3, 1) := by decide +kernel
theorem dX2_checkAction_54 : decode cX2_checkAction 54 = .ok (.invokevirtual 158, 3) := by decide +kernel
theorem dX2_checkAction_57 : decode cX2_checkAction 57 = .ok (.ifnonnull 13, 3) := by decide +kernel
theorem dX2_checkAction_60 : decode cX2_checkAction 60 = .ok (.aload_n 0, 1) := by decide +kernel
theorem dX2_checkAction_61 : decode cX2_checkAction 61 = .ok (.bipush 6, 2) := by decide +kernel
theorem dX2_checkAction_63 : decode cX2_checkAction 63 = .ok (.aload_n 2, 1) := by decide +kernel
theorem dX2_checkAction_64 : decode cX2_checkAction 64 = .ok (.getfield 162, 3) := by decide +kernel
theorem dX2_checkAction_67 : decode cX2_checkAction 67 = .ok (.invokevirtual 51, 3) := by decide +kernel
theorem dX2_checkAction_70 : decode cX2_checkAction 70 = .ok (.aload_n 2, 1) := by decide +kernel
theorem dX2_checkAction_71 : decode cX2_checkAction 71 = .ok (.getfield 155, 3) := by decide +kernel
theorem dX2_checkAction_74 : decode cX2_checkAction 74 = .ok (.bipush 20, 2) := by decide +kernel
theorem dX2_checkAction_76 : decode cX2_checkAction 76 = .ok (.if_icmp .ne 20, 3) := by decide +kernel
theorem dX2_checkAction_79 : decode cX2_checkAction 79 = .ok (.aload_n 1, 1) := by decide +kernel
theorem dX2_checkAction_80 : decode cX2_checkAction 80 = .ok (.getfield 120, 3) := by decide +kernel
theorem dX2_checkAction_83 : decode cX2_checkAction 83 = .ok (.ifCond .eq 13, 3) := by decide +kernel
theorem dX2_checkAction_86 : decode cX2_checkAction 86 = .ok (.aload_n 0, 1) := by decide +kernel
theorem dX2_checkAction_87 : decode cX2_checkAction 87 = .ok (.bipush 7, 2) := by decide +kernel
theorem dX2_checkAction_89 : decode cX2_checkAction 89 = .ok (.aload_n 2, 1) := by decide +kernel
theorem dX2_checkAction_90 : decode cX2_checkAction 90 = .ok (.getfield 162, 3) := by decide +kernel
theorem dX2_checkAction_93 : decode cX2_checkAction 93 = .ok (.invokevirtual 51, 3) := by decide +kernel
theorem dX2_checkAction_96 : decode cX2_checkAction 96 = .ok (.return_, 1) := by decide +kernel
theorem dX2_blame_0 : decode cX2_blame 0 = .ok (.aload_n 0, 1) := by decide +kernel
theorem dX2_blame_1 : decode cX2_blame 1 = .ok (.getfield 9, 3) := by decide +kernel
theorem dX2_blame_4 : decode cX2_blame 4 = .ok (.ifCond .ne 13, 3) := by decide +kernel
theorem dX2_blame_7 : decode cX2_blame 7 = .ok (.aload_n 0, 1) := by decide +kernel
theorem dX2_blame_8 : decode cX2_blame 8 = .ok (.iload_n 1, 1) := by decide +kernel
theorem dX2_blame_9 : decode cX2_blame 9 = .ok (.putfield 9, 3) := by decide +kernel
theorem dX2_blame_12 : decode cX2_blame 12 = .ok (.aload_n 0, 1) := by decide +kernel
theorem dX2_blame_13 : decode cX2_blame 13 = .ok (.iload_n 2, 1) := by decide +kernel
theorem dX2_blame_14 : decode cX2_blame 14 = .ok (.putfield 15, 3) := by decide +kernel
theorem dX2_blame_17 : decode cX2_blame 17 = .ok (.return_, 1) := by decide +kernel
theorem dX3_init_0 : decode cX3_init 0 = .ok (.aload_n 0, 1) := by decide +kernel
theorem dX3_init_1 : decode cX3_init 1 = .ok (.invokespecial 1, 3) := by decide +kernel
theorem dX3_init_4 : decode cX3_init 4 = .ok (.aload_n 0, 1) := by decide +kernel
theorem dX3_init_5 : decode cX3_init 5 = .ok (.iload_n 1, 1) := by decide +kernel
theorem dX3_init_6 : decode cX3_init 6 = .ok (.putfield 7, 3) := by decide +kernel
theorem dX3_init_9 : decode cX3_init 9 = .ok (.aload_n 0, 1) := by decide +kernel
theorem dX3_init_10 : decode cX3_init 10 = .ok (.aload_n 2, 1) := by decide +kernel
theorem dX3_init_11 : decode cX3_init 11 = .ok (.putfield 13, 3) := by decide +kernel
theorem dX3_init_14 : decode cX3_init 14 = .ok (.aload_n 0, 1) := by decide +kernel
theorem dX3_init_15 : decode cX3_init 15 = .ok (.aload_n 3, 1) := by decide +kernel
theorem dX3_init_16 : decode cX3_init 16 = .ok (.putfield 17, 3) := by decide +kernel
theorem dX3_init_19 : decode cX3_init 19 = .ok (.aload_n 0, 1) := by decide +kernel
theorem dX3_init_20 : decode cX3_init 20 = .ok (.iload 4, 2) := by decide +kernel
theorem dX3_init_22 : decode cX3_init 22 = .ok (.putfield 20, 3) := by decide +kernel
theorem dX3_init_25 : decode cX3_init 25 = .ok (.aload_n 0, 1) := by decide +kernel
theorem dX3_init_26 : decode cX3_init 26 = .ok (.iload 5, 2) := by decide +kernel
theorem dX3_init_28 : decode cX3_init 28 = .ok (.putfield 23, 3) := by decide +kernel
theorem dX3_init_31 : decode cX3_init 31 = .ok (.aload_n 0, 1) := by decide +kernel
theorem dX3_init_32 : decode cX3_init 32 = .ok (.iload 6, 2) := by decide +kernel
theorem dX3_init_34 : decode cX3_init 34 = .ok (.putfield 26, 3) := by decide +kernel
theorem dX3_init_37 : decode cX3_init 37 = .ok (.aload_n 0, 1) := by decide +kernel
theorem dX3_init_38 : decode cX3_init 38 = .ok (.iload 7, 2) := by decide +kernel
theorem dX3_init_40 : decode cX3_init 40 = .ok (.putfield 29, 3) := by decide +kernel
theorem dX3_init_43 : decode cX3_init 43 = .ok (.return_, 1) := by decide +kernel
theorem dX3_partOf_0 : decode cX3_partOf 0 = .ok (.iload_n 1, 1) := by decide +kernel
theorem dX3_partOf_1 : decode cX3_partOf 1 = .ok (.ifCond .ne 8, 3) := by decide +kernel
theorem dX3_partOf_4 : decode cX3_partOf 4 = .ok (.aload_n 0, 1) := by decide +kernel
theorem dX3_partOf_5 : decode cX3_partOf 5 = .ok (.getfield 23, 3) := by decide +kernel
theorem dX3_partOf_8 : decode cX3_partOf 8 = .ok (.ireturn, 1) := by decide +kernel
theorem dX3_partOf_9 : decode cX3_partOf 9 = .ok (.iload_n 1, 1) := by decide +kernel
theorem dX3_partOf_10 : decode cX3_partOf 10 = .ok (.iconst 1, 1) := by decide +kernel
theorem dX3_partOf_11 : decode cX3_partOf 11 = .ok (.if_icmp .ne 10, 3) := by decide +kernel
theorem dX3_partOf_14 : decode cX3_partOf 14 = .ok (.aload_n 0, 1) := by decide +kernel
theorem dX3_partOf_15 : decode cX3_partOf 15 = .ok (.getfield 26, 3) := by decide +kernel
theorem dX3_partOf_18 : decode cX3_partOf 18 = .ok (.goto 7, 3) := by decide +kernel
theorem dX3_partOf_21 : decode cX3_partOf 21 = .ok (.aload_n 0, 1) := by decide +kernel
theorem dX3_partOf_22 : decode cX3_partOf 22 = .ok (.getfield 29, 3) := by decide +kernel
theorem dX3_partOf_25 : decode cX3_partOf 25 = .ok (.ireturn, 1) := by decide +kernel
theorem dX3_takeBack_0 : decode cX3_takeBack 0 = .ok (.aload_n 0, 1) := by decide +kernel
theorem dX3_takeBack_1 : decode cX3_takeBack 1 = .ok (.getfield 13, 3) := by decide +kernel
theorem dX3_takeBack_4 : decode cX3_takeBack 4 = .ok (.dup, 1) := by decide +kernel
theorem dX3_takeBack_5 : decode cX3_takeBack 5 = .ok (.getfield 32, 3) := by decide +kernel
theorem dX3_takeBack_8 : decode cX3_takeBack 8 = .ok (.aload_n 0, 1) := by decide +kernel
theorem dX3_takeBack_9 : decode cX3_takeBack 9 = .ok (.getfield 26, 3) := by decide +kernel
theorem dX3_takeBack_12 : decode cX3_takeBack 12 = .ok (.aload_n 0, 1) := by decide +kernel
theorem dX3_takeBack_13 : decode cX3_takeBack 13 = .ok (.getfield 23, 3) := by decide +kernel
theorem dX3_takeBack_16 : decode cX3_takeBack 16 = .ok (.isub, 1) := by decide +kernel
theorem dX3_takeBack_17 : decode cX3_takeBack 17 = .ok (.iadd, 1) := by decide +kernel
theorem dX3_takeBack_18 : decode cX3_takeBack 18 = .ok (.putfield 32, 3) := by decide +kernel
theorem dX3_takeBack_21 : decode cX3_takeBack 21 = .ok (.aload_n 0, 1) := by decide +kernel
theorem dX3_takeBack_22 : decode cX3_takeBack 22 = .ok (.getfield 13, 3) := by decide +kernel
theorem dX3_takeBack_25 : decode cX3_takeBack 25 = .ok (.dup, 1) := by decide +kernel
theorem dX3_takeBack_26 : decode cX3_takeBack 26 = .ok (.getfield 37, 3) := by decide +kernel
theorem dX3_takeBack_29 : decode cX3_takeBack 29 = .ok (.aload_n 0, 1) := by decide +kernel
theorem dX3_takeBack_30 : decode cX3_takeBack 30 = .ok (.getfield 29, 3) := by decide +kernel
theorem dX3_takeBack_33 : decode cX3_takeBack 33 = .ok (.isub, 1) := by decide +kernel
theorem dX3_takeBack_34 : decode cX3_takeBack 34 = .ok (.putfield 37, 3) := by decide +kernel
theorem dX3_takeBack_37 : decode cX3_takeBack 37 = .ok (.aload_n 0, 1) := by decide +kernel
theorem dX3_takeBack_38 : decode cX3_takeBack 38 = .ok (.getfield 17, 3) := by decide +kernel
theorem dX3_takeBack_41 : decode cX3_takeBack 41 = .ok (.ifnull 40, 3) := by decide +kernel
theorem dX3_takeBack_44 : decode cX3_takeBack 44 = .ok (.aload_n 0, 1) := by decide +kernel
theorem dX3_takeBack_45 : decode cX3_takeBack 45 = .ok (.getfield 17, 3) := by decide +kernel
theorem dX3_takeBack_48 : decode cX3_takeBack 48 = .ok (.dup, 1) := by decide +kernel
theorem dX3_takeBack_49 : decode cX3_takeBack 49 = .ok (.getfield 32, 3) := by decide +kernel
theorem dX3_takeBack_52 : decode cX3_takeBack 52 = .ok (.aload_n 0, 1) := by decide +kernel
theorem dX3_takeBack_53 : decode cX3_takeBack 53 = .ok (.getfield 26, 3) := by decide +kernel
theorem dX3_takeBack_56 : decode cX3_takeBack 56 = .ok (.aload_n 0, 1) := by decide +kernel
theorem dX3_takeBack_57 : decode cX3_takeBack 57 = .ok (.getfield 23, 3) := by decide +kernel
theorem dX3_takeBack_60 : decode cX3_takeBack 60 = .ok (.isub, 1) := by decide +kernel
theorem dX3_takeBack_61 : decode cX3_takeBack 61 = .ok (.isub, 1) := by decide +kernel
theorem dX3_takeBack_62 : decode cX3_takeBack 62 = .ok (.putfield 32, 3) := by decide +kernel
theorem dX3_takeBack_65 : decode cX3_takeBack 65 = .ok (.aload_n 0, 1) := by decide +kernel
theorem dX3_takeBack_66 : decode cX3_takeBack 66 = .ok (.getfield 17, 3) := by decide +kernel
theorem dX3_takeBack_69 : decode cX3_takeBack 69 = .ok (.dup, 1) := by decide +kernel
theorem dX3_takeBack_70 : decode cX3_takeBack 70 = .ok (.getfield 37, 3) := by decide +kernel
theorem dX3_takeBack_73 : decode cX3_takeBack 73 = .ok (.aload_n 0, 1) := by decide +kernel
theorem dX3_takeBack_74 : decode cX3_takeBack 74 = .ok (.getfield 29, 3) := by decide +kernel
theorem dX3_takeBack_77 : decode cX3_takeBack 77 = .ok (.iadd, 1) := by decide +kernel
theorem dX3_takeBack_78 : decode cX3_takeBack 78 = .ok (.putfield 37, 3) := by decide +kernel
theorem dX3_takeBack_81 : decode cX3_takeBack 81 = .ok (.return_, 1) := by decide +kernel
theorem dX4_init_0 : decode cX4_init 0 = .ok (.aload_n 0, 1) := by decide +kernel
theorem dX4_init_1 : decode cX4_init 1 = .ok (.invokespecial 3, 3) := by decide +kernel
theorem dX4_init_4 : decode cX4_init 4 = .ok (.aload_n 0, 1) := by decide +kernel
theorem dX4_init_5 : decode cX4_init 5 = .ok (.lconst 0, 1) := by decide +kernel
theorem dX4_init_6 : decode cX4_init 6 = .ok (.putfield 9, 3) := by decide +kernel
theorem dX4_init_9 : decode cX4_init 9 = .ok (.aload_n 0, 1) := by decide +kernel
theorem dX4_init_10 : decode cX4_init 10 = .ok (.iconst 0, 1) := by decide +kernel
theorem dX4_init_11 : decode cX4_init 11 = .ok (.putfield 15, 3) := by decide +kernel
theorem dX4_init_14 : decode cX4_init 14 = .ok (.aload_n 0, 1) := by decide +kernel
theorem dX4_init_15 : decode cX4_init 15 = .ok (.iconst 0, 1) := by decide +kernel
theorem dX4_init_16 : decode cX4_init 16 = .ok (.putfield 19, 3) := by decide +kernel
theorem dX4_init_19 : decode cX4_init 19 = .ok (.aload_n 0, 1) := by decide +kernel
theorem dX4_init_20 : decode cX4_init 20 = .ok (.aconst_null, 1) := by decide +kernel
theorem dX4_init_21 : decode cX4_init 21 = .ok (.putfield 22, 3) := by decide +kernel
theorem dX4_init_24 : decode cX4_init 24 = .ok (.aload_n 0, 1) := by decide +kernel
theorem dX4_init_25 : decode cX4_init 25 = .ok (.iconst 0, 1) := by decide +kernel
theorem dX4_init_26 : decode cX4_init 26 = .ok (.putfield 26, 3) := by decide +kernel
theorem dX4_init_29 : decode cX4_init 29 = .ok (.aload_n 0, 1) := by decide +kernel
theorem dX4_init_30 : decode cX4_init 30 = .ok (.bipush (-7), 2) := by decide +kernel
theorem dX4_init_32 : decode cX4_init 32 = .ok (.putfield 29, 3) := by decide +kernel
theorem dX4_init_35 : decode cX4_init 35 = .ok (.aload_n 0, 1) := by decide +kernel
theorem dX4_init_36 : decode cX4_init 36 = .ok (.iconst 0, 1) := by decide +kernel
theorem dX4_init_37 : decode cX4_init 37 = .ok (.putfield 32, 3) := by decide +kernel
theorem dX4_init_40 : decode cX4_init 40 = .ok (.aload_n 0, 1) := by decide +kernel
theorem dX4_init_41 : decode cX4_init 41 = .ok (.aconst_null, 1) := by decide +kernel
theorem dX4_init_42 : decode cX4_init 42 = .ok (.putfield 35, 3) := by decide +kernel
theorem dX4_init_45 : decode cX4_init 45 = .ok (.aload_n 0, 1) := by decide +kernel
theorem dX4_init_46 : decode cX4_init 46 = .ok (.aconst_null, 1) := by decide +kernel
theorem dX4_init_47 : decode cX4_init 47 = .ok (.putfield 39, 3) := by decide +kernel
theorem dX4_init_50 : decode cX4_init 50 = .ok (.aload_n 0, 1) := by decide +kernel
theorem dX4_init_51 : decode cX4_init 51 = .ok (.bipush 6, 2) := by decide +kernel
theorem dX4_init_53 : decode cX4_init 53 = .ok (.anewarray 42, 3) := by decide +kernel
theorem dX4_init_56 : decode cX4_init 56 = .ok (.putfield 44, 3) := by decide +kernel
theorem dX4_init_59 : decode cX4_init 59 = .ok (.aload_n 0, 1) := by decide +kernel
theorem dX4_init_60 : decode cX4_init 60 = .ok (.lload_n 1, 1) := by decide +kernel
theorem dX4_init_61 : decode cX4_init 61 = .ok (.putfield 48, 3) := by decide +kernel
theorem dX4_init_64 : decode cX4_init 64 = .ok (.aload_n 0, 1) := by decide +kernel
theorem dX4_init_65 : decode cX4_init 65 = .ok (.iload_n 3, 1) := by decide +kernel
theorem dX4_init_66 : decode cX4_init 66 = .ok (.putfield 51, 3) := by decide +kernel
theorem dX4_init_69 : decode cX4_init 69 = .ok (.return_, 1) := by decide +kernel
theorem dX4_give_0 : decode cX4_give 0 = .ok (.aload_n 0, 1) := by decide +kernel
theorem dX4_give_1 : decode cX4_give 1 = .ok (.getfield 39, 3) := by decide +kernel
theorem dX4_give_4 : decode cX4_give 4 = .ok (.ifnonnull 11, 3) := by decide +kernel
theorem dX4_give_7 : decode cX4_give 7 = .ok (.aload_n 0, 1) := by decide +kernel
theorem dX4_give_8 : decode cX4_give 8 = .ok (.aload_n 1, 1) := by decide +kernel
theorem dX4_give_9 : decode cX4_give 9 = .ok (.putfield 35, 3) := by decide +kernel
theorem dX4_give_12 : decode cX4_give 12 = .ok (.goto 11, 3) := by decide +kernel
theorem dX4_give_15 : decode cX4_give 15 = .ok (.aload_n 0, 1) := by decide +kernel
theorem dX4_give_16 : decode cX4_give 16 = .ok (.getfield 39, 3) := by decide +kernel
theorem dX4_give_19 : decode cX4_give 19 = .ok (.aload_n 1, 1) := by decide +kernel
theorem dX4_give_20 : decode cX4_give 20 = .ok (.putfield 54, 3) := by decide +kernel
theorem dX4_give_23 : decode cX4_give 23 = .ok (.aload_n 0, 1) := by decide +kernel
theorem dX4_give_24 : decode cX4_give 24 = .ok (.aload_n 1, 1) := by decide +kernel
theorem dX4_give_25 : decode cX4_give 25 = .ok (.putfield 39, 3) := by decide +kernel
theorem dX4_give_28 : decode cX4_give 28 = .ok (.aload_n 1, 1) := by decide +kernel
theorem dX4_give_29 : decode cX4_give 29 = .ok (.getfield 57, 3) := by decide +kernel
theorem dX4_give_32 : decode cX4_give 32 = .ok (.invokestatic 60, 3) := by decide +kernel
theorem dX4_give_35 : decode cX4_give 35 = .ok (.ifCond .eq 25, 3) := by decide +kernel
theorem dX4_give_38 : decode cX4_give 38 = .ok (.aload_n 0, 1) := by decide +kernel
theorem dX4_give_39 : decode cX4_give 39 = .ok (.getfield 44, 3) := by decide +kernel
theorem dX4_give_42 : decode cX4_give 42 = .ok (.aload_n 1, 1) := by decide +kernel
theorem dX4_give_43 : decode cX4_give 43 = .ok (.getfield 57, 3) := by decide +kernel
theorem dX4_give_46 : decode cX4_give 46 = .ok (.aaload, 1) := by decide +kernel
theorem dX4_give_47 : decode cX4_give 47 = .ok (.ifnonnull 13, 3) := by decide +kernel
theorem dX4_give_50 : decode cX4_give 50 = .ok (.aload_n 0, 1) := by decide +kernel
theorem dX4_give_51 : decode cX4_give 51 = .ok (.getfield 44, 3) := by decide +kernel
theorem dX4_give_54 : decode cX4_give 54 = .ok (.aload_n 1, 1) := by decide +kernel
theorem dX4_give_55 : decode cX4_give 55 = .ok (.getfield 57, 3) := by decide +kernel
theorem dX4_give_58 : decode cX4_give 58 = .ok (.aload_n 1, 1) := by decide +kernel
theorem dX4_give_59 : decode cX4_give 59 = .ok (.aastore, 1) := by decide +kernel
theorem dX4_give_60 : decode cX4_give 60 = .ok (.return_, 1) := by decide +kernel
theorem dX4_bodyOf_0 : decode cX4_bodyOf 0 = .ok (.iload_n 1, 1) := by decide +kernel
theorem dX4_bodyOf_1 : decode cX4_bodyOf 1 = .ok (.ifCond .lt 21, 3) := by decide +kernel
theorem dX4_bodyOf_4 : decode cX4_bodyOf 4 = .ok (.iload_n 1, 1) := by decide +kernel
theorem dX4_bodyOf_5 : decode cX4_bodyOf 5 = .ok (.aload_n 0, 1) := by decide +kernel
theorem dX4_bodyOf_6 : decode cX4_bodyOf 6 = .ok (.getfield 44, 3) := by decide +kernel
theorem dX4_bodyOf_9 : decode cX4_bodyOf 9 = .ok (.arraylength, 1) := by decide +kernel
theorem dX4_bodyOf_10 : decode cX4_bodyOf 10 = .ok (.if_icmp .ge 12, 3) := by decide +kernel
theorem dX4_bodyOf_13 : decode cX4_bodyOf 13 = .ok (.aload_n 0, 1) := by decide +kernel
theorem dX4_bodyOf_14 : decode cX4_bodyOf 14 = .ok (.getfield 44, 3) := by decide +kernel
theorem dX4_bodyOf_17 : decode cX4_bodyOf 17 = .ok (.iload_n 1, 1) := by decide +kernel
theorem dX4_bodyOf_18 : decode cX4_bodyOf 18 = .ok (.aaload, 1) := by decide +kernel
theorem dX4_bodyOf_19 : decode cX4_bodyOf 19 = .ok (.goto 4, 3) := by decide +kernel
theorem dX4_bodyOf_22 : decode cX4_bodyOf 22 = .ok (.aconst_null, 1) := by decide +kernel
theorem dX4_bodyOf_23 : decode cX4_bodyOf 23 = .ok (.areturn, 1) := by decide +kernel
theorem dX4_hookBits_0 : decode cX4_hookBits 0 = .ok (.iconst 0, 1) := by decide +kernel
theorem dX4_hookBits_1 : decode cX4_hookBits 1 = .ok (.istore_n 1, 1) := by decide +kernel
theorem dX4_hookBits_2 : decode cX4_hookBits 2 = .ok (.iconst 0, 1) := by decide +kernel
theorem dX4_hookBits_3 : decode cX4_hookBits 3 = .ok (.istore_n 2, 1) := by decide +kernel
theorem dX4_hookBits_4 : decode cX4_hookBits 4 = .ok (.iload_n 2, 1) := by decide +kernel
theorem dX4_hookBits_5 : decode cX4_hookBits 5 = .ok (.bipush 6, 2) := by decide +kernel
theorem dX4_hookBits_7 : decode cX4_hookBits 7 = .ok (.if_icmp .ge 24, 3) := by decide +kernel
theorem dX4_hookBits_10 : decode cX4_hookBits 10 = .ok (.aload_n 0, 1) := by decide +kernel
theorem dX4_hookBits_11 : decode cX4_hookBits 11 = .ok (.getfield 44, 3) := by decide +kernel
theorem dX4_hookBits_14 : decode cX4_hookBits 14 = .ok (.iload_n 2, 1) := by decide +kernel
theorem dX4_hookBits_15 : decode cX4_hookBits 15 = .ok (.aaload, 1) := by decide +kernel
theorem dX4_hookBits_16 : decode cX4_hookBits 16 = .ok (.ifnull 9, 3) := by decide +kernel
theorem dX4_hookBits_19 : decode cX4_hookBits 19 = .ok (.iload_n 1, 1) := by decide +kernel
theorem dX4_hookBits_20 : decode cX4_hookBits 20 = .ok (.iconst 1, 1) := by decide +kernel
theorem dX4_hookBits_21 : decode cX4_hookBits 21 = .ok (.iload_n 2, 1) := by decide +kernel
theorem dX4_hookBits_22 : decode cX4_hookBits 22 = .ok (.ishl, 1) := by decide +kernel
theorem dX4_hookBits_23 : decode cX4_hookBits 23 = .ok (.ior, 1) := by decide +kernel
theorem dX4_hookBits_24 : decode cX4_hookBits 24 = .ok (.istore_n 1, 1) := by decide +kernel
theorem dX4_hookBits_25 : decode cX4_hookBits 25 = .ok (.iinc 2 1, 3) := by decide +kernel
theorem dX4_hookBits_28 : decode cX4_hookBits 28 = .ok (.goto (-24), 3) := by decide +kernel
theorem dX4_hookBits_31 : decode cX4_hookBits 31 = .ok (.iload_n 1, 1) := by decide +kernel
theorem dX4_hookBits_32 : decode cX4_hookBits 32 = .ok (.ireturn, 1) := by decide +kernel
theorem dX4_settle_0 : decode cX4_settle 0 = .ok (.aload_n 0, 1) := by decide +kernel
theorem dX4_settle_1 : decode cX4_settle 1 = .ok (.iload_n 1, 1) := by decide +kernel
theorem dX4_settle_2 : decode cX4_settle 2 = .ok (.putfield 19, 3) := by decide +kernel
theorem dX4_settle_5 : decode cX4_settle 5 = .ok (.aload_n 0, 1) := by decide +kernel
theorem dX4_settle_6 : decode cX4_settle 6 = .ok (.aload_n 2, 1) := by decide +kernel
theorem dX4_settle_7 : decode cX4_settle 7 = .ok (.putfield 22, 3) := by decide +kernel
theorem dX4_settle_10 : decode cX4_settle 10 = .ok (.aload_n 0, 1) := by decide +kernel
theorem dX4_settle_11 : decode cX4_settle 11 = .ok (.iload_n 3, 1) := by decide +kernel
theorem dX4_settle_12 : decode cX4_settle 12 = .ok (.putfield 26, 3) := by decide +kernel
theorem dX4_settle_15 : decode cX4_settle 15 = .ok (.aload_n 0, 1) := by decide +kernel
theorem dX4_settle_16 : decode cX4_settle 16 = .ok (.iload 4, 2) := by decide +kernel
theorem dX4_settle_18 : decode cX4_settle 18 = .ok (.putfield 29, 3) := by decide +kernel
theorem dX4_settle_21 : decode cX4_settle 21 = .ok (.aload_n 0, 1) := by decide +kernel
theorem dX4_settle_22 : decode cX4_settle 22 = .ok (.aload_n 2, 1) := by decide +kernel
theorem dX4_settle_23 : decode cX4_settle 23 = .ok (.ifnonnull 7, 3) := by decide +kernel
theorem dX4_settle_26 : decode cX4_settle 26 = .ok (.iconst 0, 1) := by decide +kernel
theorem dX4_settle_27 : decode cX4_settle 27 = .ok (.goto 9, 3) := by decide +kernel
theorem dX4_settle_30 : decode cX4_settle 30 = .ok (.aload_n 2, 1) := by decide +kernel
theorem dX4_settle_31 : decode cX4_settle 31 = .ok (.getfield 32, 3) := by decide +kernel
theorem dX4_settle_34 : decode cX4_settle 34 = .ok (.iconst 1, 1) := by decide +kernel
theorem dX4_settle_35 : decode cX4_settle 35 = .ok (.iadd, 1) := by decide +kernel
theorem dX4_settle_36 : decode cX4_settle 36 = .ok (.putfield 32, 3) := by decide +kernel
theorem dX4_settle_39 : decode cX4_settle 39 = .ok (.iconst 0, 1) := by decide +kernel
theorem dX4_settle_40 : decode cX4_settle 40 = .ok (.istore 5, 2) := by decide +kernel
theorem dX4_settle_42 : decode cX4_settle 42 = .ok (.iload 5, 2) := by decide +kernel
theorem dX4_settle_44 : decode cX4_settle 44 = .ok (.bipush 6, 2) := by decide +kernel
theorem dX4_settle_46 : decode cX4_settle 46 = .ok (.if_icmp .ge 35, 3) := by decide +kernel
theorem dX4_settle_49 : decode cX4_settle 49 = .ok (.aload_n 0, 1) := by decide +kernel
theorem dX4_settle_50 : decode cX4_settle 50 = .ok (.getfield 44, 3) := by decide +kernel
theorem dX4_settle_53 : decode cX4_settle 53 = .ok (.iload 5, 2) := by decide +kernel
theorem dX4_settle_55 : decode cX4_settle 55 = .ok (.aaload, 1) := by decide +kernel
theorem dX4_settle_56 : decode cX4_settle 56 = .ok (.ifnull 19, 3) := by decide +kernel
theorem dX4_settle_59 : decode cX4_settle 59 = .ok (.aload_n 0, 1) := by decide +kernel
theorem dX4_settle_60 : decode cX4_settle 60 = .ok (.getfield 44, 3) := by decide +kernel
theorem dX4_settle_63 : decode cX4_settle 63 = .ok (.iload 5, 2) := by decide +kernel
theorem dX4_settle_65 : decode cX4_settle 65 = .ok (.aaload, 1) := by decide +kernel
theorem dX4_settle_66 : decode cX4_settle 66 = .ok (.aload_n 0, 1) := by decide +kernel
theorem dX4_settle_67 : decode cX4_settle 67 = .ok (.iload 5, 2) := by decide +kernel
theorem dX4_settle_69 : decode cX4_settle 69 = .ok (.invokevirtual 64, 3) := by decide +kernel
theorem dX4_settle_72 : decode cX4_settle 72 = .ok (.putfield 68, 3) := by decide +kernel
theorem dX4_settle_75 : decode cX4_settle 75 = .ok (.iinc 5 1, 3) := by decide +kernel
theorem dX4_settle_78 : decode cX4_settle 78 = .ok (.goto (-36), 3) := by decide +kernel
theorem dX4_settle_81 : decode cX4_settle 81 = .ok (.return_, 1) := by decide +kernel
theorem dX4_overriddenOf_0 : decode cX4_overriddenOf 0 = .ok (.lconst 0, 1) := by decide +kernel
theorem dX4_overriddenOf_1 : decode cX4_overriddenOf 1 = .ok (.lstore_n 2, 1) := by decide +kernel
theorem dX4_overriddenOf_2 : decode cX4_overriddenOf 2 = .ok (.aload_n 0, 1) := by decide +kernel
theorem dX4_overriddenOf_3 : decode cX4_overriddenOf 3 = .ok (.getfield 22, 3) := by decide +kernel
theorem dX4_overriddenOf_6 : decode cX4_overriddenOf 6 = .ok (.astore 4, 2) := by decide +kernel
theorem dX4_overriddenOf_8 : decode cX4_overriddenOf 8 = .ok (.aload 4, 2) := by decide +kernel
theorem dX4_overriddenOf_10 : decode cX4_overriddenOf 10 = .ok (.ifnull 61, 3) := by decide +kernel
theorem dX4_overriddenOf_13 : decode cX4_overriddenOf 13 = .ok (.aload 4, 2) := by decide +kernel
theorem dX4_overriddenOf_15 : decode cX4_overriddenOf 15 = .ok (.iload_n 1, 1) := by decide +kernel
theorem dX4_overriddenOf_16 : decode cX4_overriddenOf 16 = .ok (.invokevirtual 71, 3) := by decide +kernel
theorem dX4_overriddenOf_19 : decode cX4_overriddenOf 19 = .ok (.astore 5, 2) := by decide +kernel
theorem dX4_overriddenOf_21 : decode cX4_overriddenOf 21 = .ok (.aload 5, 2) := by decide +kernel
theorem dX4_overriddenOf_23 : decode cX4_overriddenOf 23 = .ok (.ifnull 38, 3) := by decide +kernel
theorem dX4_overriddenOf_26 : decode cX4_overriddenOf 26 = .ok (.aload_n 0, 1) := by decide +kernel
theorem dX4_overriddenOf_27 : decode cX4_overriddenOf 27 = .ok (.aload 5, 2) := by decide +kernel
theorem dX4_overriddenOf_29 : decode cX4_overriddenOf 29 = .ok (.invokevirtual 75, 3) := by decide +kernel
theorem dX4_overriddenOf_32 : decode cX4_overriddenOf 32 = .ok (.ifCond .ne 15, 3) := by decide +kernel
theorem dX4_overriddenOf_35 : decode cX4_overriddenOf 35 = .ok (.lload_n 2, 1) := by decide +kernel
theorem dX4_overriddenOf_36 : decode cX4_overriddenOf 36 = .ok (.aload 4, 2) := by decide +kernel
theorem dX4_overriddenOf_38 : decode cX4_overriddenOf 38 = .ok (.invokevirtual 79, 3) := by decide +kernel
theorem dX4_overriddenOf_41 : decode cX4_overriddenOf 41 = .ok (.land, 1) := by decide +kernel
theorem dX4_overriddenOf_42 : decode cX4_overriddenOf 42 = .ok (.lconst 0, 1) := by decide +kernel
theorem dX4_overriddenOf_43 : decode cX4_overriddenOf 43 = .ok (.lcmp, 1) := by decide +kernel
theorem dX4_overriddenOf_44 : decode cX4_overriddenOf 44 = .ok (.ifCond .eq 17, 3) := by decide +kernel
theorem dX4_overriddenOf_47 : decode cX4_overriddenOf 47 = .ok (.lload_n 2, 1) := by decide +kernel
theorem dX4_overriddenOf_48 : decode cX4_overriddenOf 48 = .ok (.aload 4, 2) := by decide +kernel
theorem dX4_overriddenOf_50 : decode cX4_overriddenOf 50 = .ok (.invokevirtual 79, 3) := by decide +kernel
theorem dX4_overriddenOf_53 : decode cX4_overriddenOf 53 = .ok (.aload 5, 2) := by decide +kernel
theorem dX4_overriddenOf_55 : decode cX4_overriddenOf 55 = .ok (.getfield 68, 3) := by decide +kernel
theorem dX4_overriddenOf_58 : decode cX4_overriddenOf 58 = .ok (.lor, 1) := by decide +kernel
theorem dX4_overriddenOf_59 : decode cX4_overriddenOf 59 = .ok (.lor, 1) := by decide +kernel
theorem dX4_overriddenOf_60 : decode cX4_overriddenOf 60 = .ok (.lstore_n 2, 1) := by decide +kernel
theorem dX4_overriddenOf_61 : decode cX4_overriddenOf 61 = .ok (.aload 4, 2) := by decide +kernel
theorem dX4_overriddenOf_63 : decode cX4_overriddenOf 63 = .ok (.getfield 22, 3) := by decide +kernel
theorem dX4_overriddenOf_66 : decode cX4_overriddenOf 66 = .ok (.astore 4, 2) := by decide +kernel
theorem dX4_overriddenOf_68 : decode cX4_overriddenOf 68 = .ok (.goto (-60), 3) := by decide +kernel
theorem dX4_overriddenOf_71 : decode cX4_overriddenOf 71 = .ok (.lload_n 2, 1) := by decide +kernel
theorem dX4_overriddenOf_72 : decode cX4_overriddenOf 72 = .ok (.lreturn, 1) := by decide +kernel
theorem dX4_bit_0 : decode cX4_bit 0 = .ok (.lconst 1, 1) := by decide +kernel
theorem dX4_bit_1 : decode cX4_bit 1 = .ok (.aload_n 0, 1) := by decide +kernel
theorem dX4_bit_2 : decode cX4_bit 2 = .ok (.getfield 19, 3) := by decide +kernel
theorem dX4_bit_5 : decode cX4_bit 5 = .ok (.lshl, 1) := by decide +kernel
theorem dX4_bit_6 : decode cX4_bit 6 = .ok (.lreturn, 1) := by decide +kernel
theorem dX4_maySee_0 : decode cX4_maySee 0 = .ok (.aload_n 1, 1) := by decide +kernel
theorem dX4_maySee_1 : decode cX4_maySee 1 = .ok (.getfield 83, 3) := by decide +kernel
theorem dX4_maySee_4 : decode cX4_maySee 4 = .ok (.iconst 2, 1) := by decide +kernel
theorem dX4_maySee_5 : decode cX4_maySee 5 = .ok (.if_icmp .ne 17, 3) := by decide +kernel
theorem dX4_maySee_8 : decode cX4_maySee 8 = .ok (.aload_n 1, 1) := by decide +kernel
theorem dX4_maySee_9 : decode cX4_maySee 9 = .ok (.getfield 86, 3) := by decide +kernel
theorem dX4_maySee_12 : decode cX4_maySee 12 = .ok (.getfield 26, 3) := by decide +kernel
theorem dX4_maySee_15 : decode cX4_maySee 15 = .ok (.aload_n 0, 1) := by decide +kernel
theorem dX4_maySee_16 : decode cX4_maySee 16 = .ok (.getfield 26, 3) := by decide +kernel
theorem dX4_maySee_19 : decode cX4_maySee 19 = .ok (.if_icmp .ne 7, 3) := by decide +kernel
theorem dX4_maySee_22 : decode cX4_maySee 22 = .ok (.iconst 1, 1) := by decide +kernel
theorem dX4_maySee_23 : decode cX4_maySee 23 = .ok (.goto 4, 3) := by decide +kernel
theorem dX4_maySee_26 : decode cX4_maySee 26 = .ok (.iconst 0, 1) := by decide +kernel
theorem dX4_maySee_27 : decode cX4_maySee 27 = .ok (.ireturn, 1) := by decide +kernel
theorem dX4_resolve_0 : decode cX4_resolve 0 = .ok (.aload_n 2, 1) := by decide +kernel
theorem dX4_resolve_1 : decode cX4_resolve 1 = .ok (.astore_n 3, 1) := by decide +kernel
theorem dX4_resolve_2 : decode cX4_resolve 2 = .ok (.aload_n 3, 1) := by decide +kernel
theorem dX4_resolve_3 : decode cX4_resolve 3 = .ok (.ifnull 40, 3) := by decide +kernel
theorem dX4_resolve_6 : decode cX4_resolve 6 = .ok (.aload_n 3, 1) := by decide +kernel
theorem dX4_resolve_7 : decode cX4_resolve 7 = .ok (.iload_n 1, 1) := by decide +kernel
theorem dX4_resolve_8 : decode cX4_resolve 8 = .ok (.invokevirtual 71, 3) := by decide +kernel
theorem dX4_resolve_11 : decode cX4_resolve 11 = .ok (.astore 4, 2) := by decide +kernel
theorem dX4_resolve_13 : decode cX4_resolve 13 = .ok (.aload 4, 2) := by decide +kernel
theorem dX4_resolve_15 : decode cX4_resolve 15 = .ok (.ifnull 20, 3) := by decide +kernel
theorem dX4_resolve_18 : decode cX4_resolve 18 = .ok (.aload_n 3, 1) := by decide +kernel
theorem dX4_resolve_19 : decode cX4_resolve 19 = .ok (.aload_n 0, 1) := by decide +kernel
theorem dX4_resolve_20 : decode cX4_resolve 20 = .ok (.if_acmp .eq 12, 3) := by decide +kernel
theorem dX4_resolve_23 : decode cX4_resolve 23 = .ok (.aload_n 0, 1) := by decide +kernel
theorem dX4_resolve_24 : decode cX4_resolve 24 = .ok (.aload 4, 2) := by decide +kernel
theorem dX4_resolve_26 : decode cX4_resolve 26 = .ok (.invokevirtual 75, 3) := by decide +kernel
theorem dX4_resolve_29 : decode cX4_resolve 29 = .ok (.ifCond .eq 6, 3) := by decide +kernel
theorem dX4_resolve_32 : decode cX4_resolve 32 = .ok (.aload 4, 2) := by decide +kernel
theorem dX4_resolve_34 : decode cX4_resolve 34 = .ok (.areturn, 1) := by decide +kernel
theorem dX4_resolve_35 : decode cX4_resolve 35 = .ok (.aload_n 3, 1) := by decide +kernel
theorem dX4_resolve_36 : decode cX4_resolve 36 = .ok (.getfield 22, 3) := by decide +kernel
theorem dX4_resolve_39 : decode cX4_resolve 39 = .ok (.astore_n 3, 1) := by decide +kernel
theorem dX4_resolve_40 : decode cX4_resolve 40 = .ok (.goto (-38), 3) := by decide +kernel
theorem dX4_resolve_43 : decode cX4_resolve 43 = .ok (.aconst_null, 1) := by decide +kernel
theorem dX4_resolve_44 : decode cX4_resolve 44 = .ok (.areturn, 1) := by decide +kernel
theorem dX4_choose_0 : decode cX4_choose 0 = .ok (.aload_n 1, 1) := by decide +kernel
theorem dX4_choose_1 : decode cX4_choose 1 = .ok (.ifnonnull 5, 3) := by decide +kernel
theorem dX4_choose_4 : decode cX4_choose 4 = .ok (.aconst_null, 1) := by decide +kernel
theorem dX4_choose_5 : decode cX4_choose 5 = .ok (.areturn, 1) := by decide +kernel
theorem dX4_choose_6 : decode cX4_choose 6 = .ok (.aload_n 0, 1) := by decide +kernel
theorem dX4_choose_7 : decode cX4_choose 7 = .ok (.astore_n 2, 1) := by decide +kernel
theorem dX4_choose_8 : decode cX4_choose 8 = .ok (.aload_n 2, 1) := by decide +kernel
theorem dX4_choose_9 : decode cX4_choose 9 = .ok (.ifnull 42, 3) := by decide +kernel
theorem dX4_choose_12 : decode cX4_choose 12 = .ok (.aload_n 2, 1) := by decide +kernel
theorem dX4_choose_13 : decode cX4_choose 13 = .ok (.aload_n 1, 1) := by decide +kernel
theorem dX4_choose_14 : decode cX4_choose 14 = .ok (.getfield 57, 3) := by decide +kernel
theorem dX4_choose_17 : decode cX4_choose 17 = .ok (.invokevirtual 71, 3) := by decide +kernel
theorem dX4_choose_20 : decode cX4_choose 20 = .ok (.astore_n 3, 1) := by decide +kernel
theorem dX4_choose_21 : decode cX4_choose 21 = .ok (.aload_n 3, 1) := by decide +kernel
theorem dX4_choose_22 : decode cX4_choose 22 = .ok (.ifnull 21, 3) := by decide +kernel
theorem dX4_choose_25 : decode cX4_choose 25 = .ok (.aload_n 3, 1) := by decide +kernel
theorem dX4_choose_26 : decode cX4_choose 26 = .ok (.aload_n 1, 1) := by decide +kernel
theorem dX4_choose_27 : decode cX4_choose 27 = .ok (.if_acmp .eq 14, 3) := by decide +kernel
theorem dX4_choose_30 : decode cX4_choose 30 = .ok (.aload_n 3, 1) := by decide +kernel
theorem dX4_choose_31 : decode cX4_choose 31 = .ok (.aload_n 1, 1) := by decide +kernel
theorem dX4_choose_32 : decode cX4_choose 32 = .ok (.getfield 86, 3) := by decide +kernel
theorem dX4_choose_35 : decode cX4_choose 35 = .ok (.invokevirtual 89, 3) := by decide +kernel
theorem dX4_choose_38 : decode cX4_choose 38 = .ok (.ifCond .eq 5, 3) := by decide +kernel
theorem dX4_choose_41 : decode cX4_choose 41 = .ok (.aload_n 3, 1) := by decide +kernel
theorem dX4_choose_42 : decode cX4_choose 42 = .ok (.areturn, 1) := by decide +kernel
theorem dX4_choose_43 : decode cX4_choose 43 = .ok (.aload_n 2, 1) := by decide +kernel
theorem dX4_choose_44 : decode cX4_choose 44 = .ok (.getfield 22, 3) := by decide +kernel
theorem dX4_choose_47 : decode cX4_choose 47 = .ok (.astore_n 2, 1) := by decide +kernel
theorem dX4_choose_48 : decode cX4_choose 48 = .ok (.goto (-40), 3) := by decide +kernel
theorem dX4_choose_51 : decode cX4_choose 51 = .ok (.aconst_null, 1) := by decide +kernel
theorem dX4_choose_52 : decode cX4_choose 52 = .ok (.areturn, 1) := by decide +kernel
theorem dX5_init_0 : decode cX5_init 0 = .ok (.aload_n 0, 1) := by decide +kernel
theorem dX5_init_1 : decode cX5_init 1 = .ok (.invokespecial 3, 3) := by decide +kernel
theorem dX5_init_4 : decode cX5_init 4 = .ok (.aload_n 0, 1) := by decide +kernel
theorem dX5_init_5 : decode cX5_init 5 = .ok (.lconst 0, 1) := by decide +kernel
theorem dX5_init_6 : decode cX5_init 6 = .ok (.putfield 9, 3) := by decide +kernel
theorem dX5_init_9 : decode cX5_init 9 = .ok (.aload_n 0, 1) := by decide +kernel
theorem dX5_init_10 : decode cX5_init 10 = .ok (.iconst 0, 1) := by decide +kernel
theorem dX5_init_11 : decode cX5_init 11 = .ok (.putfield 15, 3) := by decide +kernel
theorem dX5_init_14 : decode cX5_init 14 = .ok (.aload_n 0, 1) := by decide +kernel
theorem dX5_init_15 : decode cX5_init 15 = .ok (.lconst 0, 1) := by decide +kernel
theorem dX5_init_16 : decode cX5_init 16 = .ok (.putfield 19, 3) := by decide +kernel
theorem dX5_init_19 : decode cX5_init 19 = .ok (.aload_n 0, 1) := by decide +kernel
theorem dX5_init_20 : decode cX5_init 20 = .ok (.iconst 0, 1) := by decide +kernel
theorem dX5_init_21 : decode cX5_init 21 = .ok (.putfield 22, 3) := by decide +kernel
theorem dX5_init_24 : decode cX5_init 24 = .ok (.aload_n 0, 1) := by decide +kernel
theorem dX5_init_25 : decode cX5_init 25 = .ok (.iconst 0, 1) := by decide +kernel
theorem dX5_init_26 : decode cX5_init 26 = .ok (.putfield 26, 3) := by decide +kernel
theorem dX5_init_29 : decode cX5_init 29 = .ok (.aload_n 0, 1) := by decide +kernel
theorem dX5_init_30 : decode cX5_init 30 = .ok (.iconst 0, 1) := by decide +kernel
theorem dX5_init_31 : decode cX5_init 31 = .ok (.putfield 29, 3) := by decide +kernel
theorem dX5_init_34 : decode cX5_init 34 = .ok (.aload_n 0, 1) := by decide +kernel
theorem dX5_init_35 : decode cX5_init 35 = .ok (.bipush 10, 2) := by decide +kernel
theorem dX5_init_37 : decode cX5_init 37 = .ok (.anewarray 32, 3) := by decide +kernel
theorem dX5_init_40 : decode cX5_init 40 = .ok (.putfield 34, 3) := by decide +kernel
theorem dX5_init_43 : decode cX5_init 43 = .ok (.aload_n 0, 1) := by decide +kernel
theorem dX5_init_44 : decode cX5_init 44 = .ok (.iconst 0, 1) := by decide +kernel
theorem dX5_init_45 : decode cX5_init 45 = .ok (.putfield 38, 3) := by decide +kernel
theorem dX5_init_48 : decode cX5_init 48 = .ok (.return_, 1) := by decide +kernel
theorem dX5_add_0 : decode cX5_add 0 = .ok (.aload_n 0, 1) := by decide +kernel
theorem dX5_add_1 : decode cX5_add 1 = .ok (.getfield 38, 3) := by decide +kernel
theorem dX5_add_4 : decode cX5_add 4 = .ok (.aload_n 0, 1) := by decide +kernel
theorem dX5_add_5 : decode cX5_add 5 = .ok (.getfield 34, 3) := by decide +kernel
theorem dX5_add_8 : decode cX5_add 8 = .ok (.arraylength, 1) := by decide +kernel
theorem dX5_add_9 : decode cX5_add 9 = .ok (.if_icmp .ge 23, 3) := by decide +kernel
theorem dX5_add_12 : decode cX5_add 12 = .ok (.aload_n 0, 1) := by decide +kernel
theorem dX5_add_13 : decode cX5_add 13 = .ok (.getfield 34, 3) := by decide +kernel
theorem dX5_add_16 : decode cX5_add 16 = .ok (.aload_n 0, 1) := by decide +kernel
theorem dX5_add_17 : decode cX5_add 17 = .ok (.getfield 38, 3) := by decide +kernel
theorem dX5_add_20 : decode cX5_add 20 = .ok (.aload_n 1, 1) := by decide +kernel
theorem dX5_add_21 : decode cX5_add 21 = .ok (.aastore, 1) := by decide +kernel
theorem dX5_add_22 : decode cX5_add 22 = .ok (.aload_n 0, 1) := by decide +kernel
theorem dX5_add_23 : decode cX5_add 23 = .ok (.dup, 1) := by decide +kernel
theorem dX5_add_24 : decode cX5_add 24 = .ok (.getfield 38, 3) := by decide +kernel
theorem dX5_add_27 : decode cX5_add 27 = .ok (.iconst 1, 1) := by decide +kernel
theorem dX5_add_28 : decode cX5_add 28 = .ok (.iadd, 1) := by decide +kernel
theorem dX5_add_29 : decode cX5_add 29 = .ok (.putfield 38, 3) := by decide +kernel
theorem dX5_add_32 : decode cX5_add 32 = .ok (.return_, 1) := by decide +kernel
theorem dX6_init_0 : decode cX6_init 0 = .ok (.aload_n 0, 1) := by decide +kernel
theorem dX6_init_1 : decode cX6_init 1 = .ok (.invokespecial 3, 3) := by decide +kernel
theorem dX6_init_4 : decode cX6_init 4 = .ok (.aload_n 0, 1) := by decide +kernel
theorem dX6_init_5 : decode cX6_init 5 = .ok (.iconst (-1), 1) := by decide +kernel
theorem dX6_init_6 : decode cX6_init 6 = .ok (.putfield 9, 3) := by decide +kernel
theorem dX6_init_9 : decode cX6_init 9 = .ok (.aload_n 0, 1) := by decide +kernel
theorem dX6_init_10 : decode cX6_init 10 = .ok (.new 15, 3) := by decide +kernel
theorem dX6_init_13 : decode cX6_init 13 = .ok (.dup, 1) := by decide +kernel
theorem dX6_init_14 : decode cX6_init 14 = .ok (.iconst 0, 1) := by decide +kernel
theorem dX6_init_15 : decode cX6_init 15 = .ok (.iconst 0, 1) := by decide +kernel
theorem dX6_init_16 : decode cX6_init 16 = .ok (.iconst 0, 1) := by decide +kernel
theorem dX6_init_17 : decode cX6_init 17 = .ok (.lconst 0, 1) := by decide +kernel
theorem dX6_init_18 : decode cX6_init 18 = .ok (.invokespecial 17, 3) := by decide +kernel
theorem dX6_init_21 : decode cX6_init 21 = .ok (.putfield 20, 3) := by decide +kernel
theorem dX6_init_24 : decode cX6_init 24 = .ok (.return_, 1) := by decide +kernel
theorem dX6_readPack_0 : decode cX6_readPack 0 = .ok (.new 24, 3) := by decide +kernel
theorem dX6_readPack_3 : decode cX6_readPack 3 = .ok (.dup, 1) := by decide +kernel
theorem dX6_readPack_4 : decode cX6_readPack 4 = .ok (.invokespecial 26, 3) := by decide +kernel
theorem dX6_readPack_7 : decode cX6_readPack 7 = .ok (.astore_n 3, 1) := by decide +kernel
theorem dX6_readPack_8 : decode cX6_readPack 8 = .ok (.iload_n 2, 1) := by decide +kernel
theorem dX6_readPack_9 : decode cX6_readPack 9 = .ok (.sipush 700, 3) := by decide +kernel
theorem dX6_readPack_12 : decode cX6_readPack 12 = .ok (.if_icmp .gt 9, 3) := by decide +kernel
theorem dX6_readPack_15 : decode cX6_readPack 15 = .ok (.iload_n 2, 1) := by decide +kernel
theorem dX6_readPack_16 : decode cX6_readPack 16 = .ok (.aload_n 1, 1) := by decide +kernel
theorem dX6_readPack_17 : decode cX6_readPack 17 = .ok (.arraylength, 1) := by decide +kernel
theorem dX6_readPack_18 : decode cX6_readPack 18 = .ok (.if_icmp .le 12, 3) := by decide +kernel
theorem dX6_readPack_21 : decode cX6_readPack 21 = .ok (.aload_n 0, 1) := by decide +kernel
theorem dX6_readPack_22 : decode cX6_readPack 22 = .ok (.sipush 700, 3) := by decide +kernel
theorem dX6_readPack_25 : decode cX6_readPack 25 = .ok (.putfield 9, 3) := by decide +kernel
theorem dX6_readPack_28 : decode cX6_readPack 28 = .ok (.aload_n 3, 1) := by decide +kernel
theorem dX6_readPack_29 : decode cX6_readPack 29 = .ok (.areturn, 1) := by decide +kernel
theorem dX6_readPack_30 : decode cX6_readPack 30 = .ok (.aload_n 1, 1) := by decide +kernel
theorem dX6_readPack_31 : decode cX6_readPack 31 = .ok (.iload_n 2, 1) := by decide +kernel
theorem dX6_readPack_32 : decode cX6_readPack 32 = .ok (.invokestatic 27, 3) := by decide +kernel
theorem dX6_readPack_35 : decode cX6_readPack 35 = .ok (.astore 4, 2) := by decide +kernel
theorem dX6_readPack_37 : decode cX6_readPack 37 = .ok (.aload 4, 2) := by decide +kernel
theorem dX6_readPack_39 : decode cX6_readPack 39 = .ok (.ifnull 9, 3) := by decide +kernel
theorem dX6_readPack_42 : decode cX6_readPack 42 = .ok (.aload_n 0, 1) := by decide +kernel
theorem dX6_readPack_43 : decode cX6_readPack 43 = .ok (.aload 4, 2) := by decide +kernel
theorem dX6_readPack_45 : decode cX6_readPack 45 = .ok (.putfield 20, 3) := by decide +kernel
theorem dX6_readPack_48 : decode cX6_readPack 48 = .ok (.aload_n 0, 1) := by decide +kernel
theorem dX6_readPack_49 : decode cX6_readPack 49 = .ok (.bipush 23, 2) := by decide +kernel
theorem dX6_readPack_51 : decode cX6_readPack 51 = .ok (.invokevirtual 31, 3) := by decide +kernel
theorem dX6_readPack_54 : decode cX6_readPack 54 = .ok (.pop2, 1) := by decide +kernel
theorem dX6_readPack_55 : decode cX6_readPack 55 = .ok (.aload_n 3, 1) := by decide +kernel
theorem dX6_readPack_56 : decode cX6_readPack 56 = .ok (.aload_n 0, 1) := by decide +kernel
theorem dX6_readPack_57 : decode cX6_readPack 57 = .ok (.iconst 2, 1) := by decide +kernel
theorem dX6_readPack_58 : decode cX6_readPack 58 = .ok (.invokevirtual 31, 3) := by decide +kernel
theorem dX6_readPack_61 : decode cX6_readPack 61 = .ok (.putfield 35, 3) := by decide +kernel
theorem dX6_readPack_64 : decode cX6_readPack 64 = .ok (.aload_n 0, 1) := by decide +kernel
theorem dX6_readPack_65 : decode cX6_readPack 65 = .ok (.bipush 24, 2) := by decide +kernel
theorem dX6_readPack_67 : decode cX6_readPack 67 = .ok (.invokevirtual 39, 3) := by decide +kernel
theorem dX6_readPack_70 : decode cX6_readPack 70 = .ok (.ifCond .eq 35, 3) := by decide +kernel
theorem dX6_readPack_73 : decode cX6_readPack 73 = .ok (.aload_n 0, 1) := by decide +kernel
theorem dX6_readPack_74 : decode cX6_readPack 74 = .ok (.bipush 24, 2) := by decide +kernel
theorem dX6_readPack_76 : decode cX6_readPack 76 = .ok (.invokevirtual 31, 3) := by decide +kernel
theorem dX6_readPack_79 : decode cX6_readPack 79 = .ok (.pop2, 1) := by decide +kernel
theorem dX6_readPack_80 : decode cX6_readPack 80 = .ok (.aload_n 3, 1) := by decide +kernel
theorem dX6_readPack_81 : decode cX6_readPack 81 = .ok (.iconst 1, 1) := by decide +kernel
theorem dX6_readPack_82 : decode cX6_readPack 82 = .ok (.putfield 43, 3) := by decide +kernel
theorem dX6_readPack_85 : decode cX6_readPack 85 = .ok (.aload_n 3, 1) := by decide +kernel
theorem dX6_readPack_86 : decode cX6_readPack 86 = .ok (.aload_n 0, 1) := by decide +kernel
theorem dX6_readPack_87 : decode cX6_readPack 87 = .ok (.getfield 20, 3) := by decide +kernel
theorem dX6_readPack_90 : decode cX6_readPack 90 = .ok (.getfield 47, 3) := by decide +kernel
theorem dX6_readPack_93 : decode cX6_readPack 93 = .ok (.putfield 50, 3) := by decide +kernel
theorem dX6_readPack_96 : decode cX6_readPack 96 = .ok (.aload_n 3, 1) := by decide +kernel
theorem dX6_readPack_97 : decode cX6_readPack 97 = .ok (.aload_n 0, 1) := by decide +kernel
theorem dX6_readPack_98 : decode cX6_readPack 98 = .ok (.iconst 2, 1) := by decide +kernel
theorem dX6_readPack_99 : decode cX6_readPack 99 = .ok (.invokevirtual 31, 3) := by decide +kernel
theorem dX6_readPack_102 : decode cX6_readPack 102 = .ok (.putfield 53, 3) := by decide +kernel
theorem dX6_readPack_105 : decode cX6_readPack 105 = .ok (.aload_n 0, 1) := by decide +kernel
theorem dX6_readPack_106 : decode cX6_readPack 106 = .ok (.iconst 4, 1) := by decide +kernel
theorem dX6_readPack_107 : decode cX6_readPack 107 = .ok (.invokevirtual 31, 3) := by decide +kernel
theorem dX6_readPack_110 : decode cX6_readPack 110 = .ok (.pop2, 1) := by decide +kernel
theorem dX6_readPack_111 : decode cX6_readPack 111 = .ok (.aload_n 3, 1) := by decide +kernel
theorem dX6_readPack_112 : decode cX6_readPack 112 = .ok (.aload_n 0, 1) := by decide +kernel
theorem dX6_readPack_113 : decode cX6_readPack 113 = .ok (.invokevirtual 56, 3) := by decide +kernel
theorem dX6_readPack_116 : decode cX6_readPack 116 = .ok (.invokevirtual 60, 3) := by decide +kernel
theorem dX6_readPack_119 : decode cX6_readPack 119 = .ok (.iconst 1, 1) := by decide +kernel
theorem dX6_readPack_120 : decode cX6_readPack 120 = .ok (.istore 5, 2) := by decide +kernel
theorem dX6_readPack_122 : decode cX6_readPack 122 = .ok (.iload 5, 2) := by decide +kernel
theorem dX6_readPack_124 : decode cX6_readPack 124 = .ok (.bipush 10, 2) := by decide +kernel
theorem dX6_readPack_126 : decode cX6_readPack 126 = .ok (.if_icmp .ge 26, 3) := by decide +kernel
theorem dX6_readPack_129 : decode cX6_readPack 129 = .ok (.aload_n 0, 1) := by decide +kernel
theorem dX6_readPack_130 : decode cX6_readPack 130 = .ok (.bipush 25, 2) := by decide +kernel
theorem dX6_readPack_132 : decode cX6_readPack 132 = .ok (.invokevirtual 39, 3) := by decide +kernel
theorem dX6_readPack_135 : decode cX6_readPack 135 = .ok (.ifCond .eq 17, 3) := by decide +kernel
theorem dX6_readPack_138 : decode cX6_readPack 138 = .ok (.aload_n 3, 1) := by decide +kernel
theorem dX6_readPack_139 : decode cX6_readPack 139 = .ok (.aload_n 0, 1) := by decide +kernel
theorem dX6_readPack_140 : decode cX6_readPack 140 = .ok (.invokevirtual 56, 3) := by decide +kernel
theorem dX6_readPack_143 : decode cX6_readPack 143 = .ok (.invokevirtual 60, 3) := by decide +kernel
theorem dX6_readPack_146 : decode cX6_readPack 146 = .ok (.iinc 5 1, 3) := by decide +kernel
theorem dX6_readPack_149 : decode cX6_readPack 149 = .ok (.goto (-27), 3) := by decide +kernel
theorem dX6_readPack_152 : decode cX6_readPack 152 = .ok (.aload_n 0, 1) := by decide +kernel
theorem dX6_readPack_153 : decode cX6_readPack 153 = .ok (.iconst 5, 1) := by decide +kernel
theorem dX6_readPack_154 : decode cX6_readPack 154 = .ok (.invokevirtual 31, 3) := by decide +kernel
theorem dX6_readPack_157 : decode cX6_readPack 157 = .ok (.pop2, 1) := by decide +kernel
theorem dX6_readPack_158 : decode cX6_readPack 158 = .ok (.aload_n 0, 1) := by decide +kernel
theorem dX6_readPack_159 : decode cX6_readPack 159 = .ok (.iconst 0, 1) := by decide +kernel
theorem dX6_readPack_160 : decode cX6_readPack 160 = .ok (.invokevirtual 31, 3) := by decide +kernel
theorem dX6_readPack_163 : decode cX6_readPack 163 = .ok (.pop2, 1) := by decide +kernel
theorem dX6_readPack_164 : decode cX6_readPack 164 = .ok (.aload_n 3, 1) := by decide +kernel
theorem dX6_readPack_165 : decode cX6_readPack 165 = .ok (.areturn, 1) := by decide +kernel
theorem dX6_readKind_0 : decode cX6_readKind 0 = .ok (.aload_n 0, 1) := by decide +kernel
theorem dX6_readKind_1 : decode cX6_readKind 1 = .ok (.bipush 25, 2) := by decide +kernel
theorem dX6_readKind_3 : decode cX6_readKind 3 = .ok (.invokevirtual 31, 3) := by decide +kernel
theorem dX6_readKind_6 : decode cX6_readKind 6 = .ok (.pop2, 1) := by decide +kernel
theorem dX6_readKind_7 : decode cX6_readKind 7 = .ok (.aload_n 0, 1) := by decide +kernel
theorem dX6_readKind_8 : decode cX6_readKind 8 = .ok (.getfield 20, 3) := by decide +kernel
theorem dX6_readKind_11 : decode cX6_readKind 11 = .ok (.getfield 47, 3) := by decide +kernel
theorem dX6_readKind_14 : decode cX6_readKind 14 = .ok (.istore_n 1, 1) := by decide +kernel
theorem dX6_readKind_15 : decode cX6_readKind 15 = .ok (.new 64, 3) := by decide +kernel
theorem dX6_readKind_18 : decode cX6_readKind 18 = .ok (.dup, 1) := by decide +kernel
theorem dX6_readKind_19 : decode cX6_readKind 19 = .ok (.aload_n 0, 1) := by decide +kernel
theorem dX6_readKind_20 : decode cX6_readKind 20 = .ok (.iconst 2, 1) := by decide +kernel
theorem dX6_readKind_21 : decode cX6_readKind 21 = .ok (.invokevirtual 31, 3) := by decide +kernel
theorem dX6_readKind_24 : decode cX6_readKind 24 = .ok (.iload_n 1, 1) := by decide +kernel
theorem dX6_readKind_25 : decode cX6_readKind 25 = .ok (.invokespecial 66, 3) := by decide +kernel
theorem dX6_readKind_28 : decode cX6_readKind 28 = .ok (.astore_n 2, 1) := by decide +kernel
theorem dX6_readKind_29 : decode cX6_readKind 29 = .ok (.aload_n 0, 1) := by decide +kernel
theorem dX6_readKind_30 : decode cX6_readKind 30 = .ok (.bipush 26, 2) := by decide +kernel
theorem dX6_readKind_32 : decode cX6_readKind 32 = .ok (.invokevirtual 31, 3) := by decide +kernel
theorem dX6_readKind_35 : decode cX6_readKind 35 = .ok (.pop2, 1) := by decide +kernel
theorem dX6_readKind_36 : decode cX6_readKind 36 = .ok (.aload_n 2, 1) := by decide +kernel
theorem dX6_readKind_37 : decode cX6_readKind 37 = .ok (.aload_n 0, 1) := by decide +kernel
theorem dX6_readKind_38 : decode cX6_readKind 38 = .ok (.getfield 20, 3) := by decide +kernel
theorem dX6_readKind_41 : decode cX6_readKind 41 = .ok (.getfield 47, 3) := by decide +kernel
theorem dX6_readKind_44 : decode cX6_readKind 44 = .ok (.putfield 69, 3) := by decide +kernel
theorem dX6_readKind_47 : decode cX6_readKind 47 = .ok (.aload_n 2, 1) := by decide +kernel
theorem dX6_readKind_48 : decode cX6_readKind 48 = .ok (.aload_n 0, 1) := by decide +kernel
theorem dX6_readKind_49 : decode cX6_readKind 49 = .ok (.iconst 2, 1) := by decide +kernel
theorem dX6_readKind_50 : decode cX6_readKind 50 = .ok (.invokevirtual 31, 3) := by decide +kernel
theorem dX6_readKind_53 : decode cX6_readKind 53 = .ok (.putfield 72, 3) := by decide +kernel
theorem dX6_readKind_56 : decode cX6_readKind 56 = .ok (.aload_n 0, 1) := by decide +kernel
theorem dX6_readKind_57 : decode cX6_readKind 57 = .ok (.iconst 4, 1) := by decide +kernel
theorem dX6_readKind_58 : decode cX6_readKind 58 = .ok (.invokevirtual 31, 3) := by decide +kernel
theorem dX6_readKind_61 : decode cX6_readKind 61 = .ok (.pop2, 1) := by decide +kernel
theorem dX6_readKind_62 : decode cX6_readKind 62 = .ok (.iconst 0, 1) := by decide +kernel
theorem dX6_readKind_63 : decode cX6_readKind 63 = .ok (.istore_n 3, 1) := by decide +kernel
theorem dX6_readKind_64 : decode cX6_readKind 64 = .ok (.iload_n 3, 1) := by decide +kernel
theorem dX6_readKind_65 : decode cX6_readKind 65 = .ok (.sipush 700, 3) := by decide +kernel
theorem dX6_readKind_68 : decode cX6_readKind 68 = .ok (.if_icmp .ge 21, 3) := by decide +kernel
theorem dX6_readKind_71 : decode cX6_readKind 71 = .ok (.aload_n 0, 1) := by decide +kernel
theorem dX6_readKind_72 : decode cX6_readKind 72 = .ok (.invokevirtual 75, 3) := by decide +kernel
theorem dX6_readKind_75 : decode cX6_readKind 75 = .ok (.ifCond .eq 14, 3) := by decide +kernel
theorem dX6_readKind_78 : decode cX6_readKind 78 = .ok (.aload_n 0, 1) := by decide +kernel
theorem dX6_readKind_79 : decode cX6_readKind 79 = .ok (.aload_n 2, 1) := by decide +kernel
theorem dX6_readKind_80 : decode cX6_readKind 80 = .ok (.invokevirtual 79, 3) := by decide +kernel
theorem dX6_readKind_83 : decode cX6_readKind 83 = .ok (.iinc 3 1, 3) := by decide +kernel
theorem dX6_readKind_86 : decode cX6_readKind 86 = .ok (.goto (-22), 3) := by decide +kernel
theorem dX6_readKind_89 : decode cX6_readKind 89 = .ok (.aload_n 0, 1) := by decide +kernel
theorem dX6_readKind_90 : decode cX6_readKind 90 = .ok (.iconst 5, 1) := by decide +kernel
theorem dX6_readKind_91 : decode cX6_readKind 91 = .ok (.invokevirtual 31, 3) := by decide +kernel
theorem dX6_readKind_94 : decode cX6_readKind 94 = .ok (.pop2, 1) := by decide +kernel
theorem dX6_readKind_95 : decode cX6_readKind 95 = .ok (.aload_n 2, 1) := by decide +kernel
theorem dX6_readKind_96 : decode cX6_readKind 96 = .ok (.areturn, 1) := by decide +kernel
theorem dX6_readBody_0 : decode cX6_readBody 0 = .ok (.iconst 2, 1) := by decide +kernel
theorem dX6_readBody_1 : decode cX6_readBody 1 = .ok (.istore_n 2, 1) := by decide +kernel
theorem dX6_readBody_2 : decode cX6_readBody 2 = .ok (.aload_n 0, 1) := by decide +kernel
theorem dX6_readBody_3 : decode cX6_readBody 3 = .ok (.bipush 27, 2) := by decide +kernel
theorem dX6_readBody_5 : decode cX6_readBody 5 = .ok (.invokevirtual 39, 3) := by decide +kernel
theorem dX6_readBody_8 : decode cX6_readBody 8 = .ok (.ifCond .eq 15, 3) := by decide +kernel
theorem dX6_readBody_11 : decode cX6_readBody 11 = .ok (.aload_n 0, 1) := by decide +kernel
theorem dX6_readBody_12 : decode cX6_readBody 12 = .ok (.bipush 27, 2) := by decide +kernel
theorem dX6_readBody_14 : decode cX6_readBody 14 = .ok (.invokevirtual 31, 3) := by decide +kernel
theorem dX6_readBody_17 : decode cX6_readBody 17 = .ok (.pop2, 1) := by decide +kernel
theorem dX6_readBody_18 : decode cX6_readBody 18 = .ok (.iconst 0, 1) := by decide +kernel
theorem dX6_readBody_19 : decode cX6_readBody 19 = .ok (.istore_n 2, 1) := by decide +kernel
theorem dX6_readBody_20 : decode cX6_readBody 20 = .ok (.goto 21, 3) := by decide +kernel
theorem dX6_readBody_23 : decode cX6_readBody 23 = .ok (.aload_n 0, 1) := by decide +kernel
theorem dX6_readBody_24 : decode cX6_readBody 24 = .ok (.bipush 28, 2) := by decide +kernel
theorem dX6_readBody_26 : decode cX6_readBody 26 = .ok (.invokevirtual 39, 3) := by decide +kernel
theorem dX6_readBody_29 : decode cX6_readBody 29 = .ok (.ifCond .eq 12, 3) := by decide +kernel
theorem dX6_readBody_32 : decode cX6_readBody 32 = .ok (.aload_n 0, 1) := by decide +kernel
theorem dX6_readBody_33 : decode cX6_readBody 33 = .ok (.bipush 28, 2) := by decide +kernel
theorem dX6_readBody_35 : decode cX6_readBody 35 = .ok (.invokevirtual 31, 3) := by decide +kernel
theorem dX6_readBody_38 : decode cX6_readBody 38 = .ok (.pop2, 1) := by decide +kernel
theorem dX6_readBody_39 : decode cX6_readBody 39 = .ok (.iconst 1, 1) := by decide +kernel
theorem dX6_readBody_40 : decode cX6_readBody 40 = .ok (.istore_n 2, 1) := by decide +kernel
theorem dX6_readBody_41 : decode cX6_readBody 41 = .ok (.aload_n 0, 1) := by decide +kernel
theorem dX6_readBody_42 : decode cX6_readBody 42 = .ok (.bipush 29, 2) := by decide +kernel
theorem dX6_readBody_44 : decode cX6_readBody 44 = .ok (.invokevirtual 39, 3) := by decide +kernel
theorem dX6_readBody_47 : decode cX6_readBody 47 = .ok (.istore_n 3, 1) := by decide +kernel
theorem dX6_readBody_48 : decode cX6_readBody 48 = .ok (.iload_n 3, 1) := by decide +kernel
theorem dX6_readBody_49 : decode cX6_readBody 49 = .ok (.ifCond .eq 10, 3) := by decide +kernel
theorem dX6_readBody_52 : decode cX6_readBody 52 = .ok (.aload_n 0, 1) := by decide +kernel
theorem dX6_readBody_53 : decode cX6_readBody 53 = .ok (.bipush 29, 2) := by decide +kernel
theorem dX6_readBody_55 : decode cX6_readBody 55 = .ok (.invokevirtual 31, 3) := by decide +kernel
theorem dX6_readBody_58 : decode cX6_readBody 58 = .ok (.pop2, 1) := by decide +kernel
theorem dX6_readBody_59 : decode cX6_readBody 59 = .ok (.aload_n 0, 1) := by decide +kernel
theorem dX6_readBody_60 : decode cX6_readBody 60 = .ok (.getfield 20, 3) := by decide +kernel
theorem dX6_readBody_63 : decode cX6_readBody 63 = .ok (.getfield 47, 3) := by decide +kernel
theorem dX6_readBody_66 : decode cX6_readBody 66 = .ok (.istore 4, 2) := by decide +kernel
theorem dX6_readBody_68 : decode cX6_readBody 68 = .ok (.new 82, 3) := by decide +kernel
theorem dX6_readBody_71 : decode cX6_readBody 71 = .ok (.dup, 1) := by decide +kernel
theorem dX6_readBody_72 : decode cX6_readBody 72 = .ok (.aload_n 1, 1) := by decide +kernel
theorem dX6_readBody_73 : decode cX6_readBody 73 = .ok (.aload_n 0, 1) := by decide +kernel
theorem dX6_readBody_74 : decode cX6_readBody 74 = .ok (.invokevirtual 84, 3) := by decide +kernel
theorem dX6_readBody_77 : decode cX6_readBody 77 = .ok (.iload_n 2, 1) := by decide +kernel
theorem dX6_readBody_78 : decode cX6_readBody 78 = .ok (.iload_n 3, 1) := by decide +kernel
theorem dX6_readBody_79 : decode cX6_readBody 79 = .ok (.iload 4, 2) := by decide +kernel
theorem dX6_readBody_81 : decode cX6_readBody 81 = .ok (.invokespecial 88, 3) := by decide +kernel
theorem dX6_readBody_84 : decode cX6_readBody 84 = .ok (.astore 5, 2) := by decide +kernel
theorem dX6_readBody_86 : decode cX6_readBody 86 = .ok (.aload 5, 2) := by decide +kernel
theorem dX6_readBody_88 : decode cX6_readBody 88 = .ok (.aload_n 0, 1) := by decide +kernel
theorem dX6_readBody_89 : decode cX6_readBody 89 = .ok (.aload 5, 2) := by decide +kernel
theorem dX6_readBody_91 : decode cX6_readBody 91 = .ok (.iconst 1, 1) := by decide +kernel
theorem dX6_readBody_92 : decode cX6_readBody 92 = .ok (.invokevirtual 91, 3) := by decide +kernel
theorem dX6_readBody_95 : decode cX6_readBody 95 = .ok (.putfield 95, 3) := by decide +kernel
theorem dX6_readBody_98 : decode cX6_readBody 98 = .ok (.aload_n 1, 1) := by decide +kernel
theorem dX6_readBody_99 : decode cX6_readBody 99 = .ok (.aload 5, 2) := by decide +kernel
theorem dX6_readBody_101 : decode cX6_readBody 101 = .ok (.invokevirtual 99, 3) := by decide +kernel
theorem dX6_readBody_104 : decode cX6_readBody 104 = .ok (.return_, 1) := by decide +kernel
theorem dX6_readBlock_0 : decode cX6_readBlock 0 = .ok (.iload_n 2, 1) := by decide +kernel
theorem dX6_readBlock_1 : decode cX6_readBlock 1 = .ok (.bipush 6, 2) := by decide +kernel
theorem dX6_readBlock_3 : decode cX6_readBlock 3 = .ok (.if_icmp .le 9, 3) := by decide +kernel
theorem dX6_readBlock_6 : decode cX6_readBlock 6 = .ok (.aload_n 0, 1) := by decide +kernel
theorem dX6_readBlock_7 : decode cX6_readBlock 7 = .ok (.invokevirtual 103, 3) := by decide +kernel
theorem dX6_readBlock_10 : decode cX6_readBlock 10 = .ok (.aconst_null, 1) := by decide +kernel
theorem dX6_readBlock_11 : decode cX6_readBlock 11 = .ok (.areturn, 1) := by decide +kernel
theorem dX6_readBlock_12 : decode cX6_readBlock 12 = .ok (.aload_n 0, 1) := by decide +kernel
theorem dX6_readBlock_13 : decode cX6_readBlock 13 = .ok (.iconst 4, 1) := by decide +kernel
theorem dX6_readBlock_14 : decode cX6_readBlock 14 = .ok (.invokevirtual 31, 3) := by decide +kernel
theorem dX6_readBlock_17 : decode cX6_readBlock 17 = .ok (.pop2, 1) := by decide +kernel
theorem dX6_readBlock_18 : decode cX6_readBlock 18 = .ok (.aconst_null, 1) := by decide +kernel
theorem dX6_readBlock_19 : decode cX6_readBlock 19 = .ok (.astore_n 3, 1) := by decide +kernel
theorem dX6_readBlock_20 : decode cX6_readBlock 20 = .ok (.aconst_null, 1) := by decide +kernel
theorem dX6_readBlock_21 : decode cX6_readBlock 21 = .ok (.astore 4, 2) := by decide +kernel
theorem dX6_readBlock_23 : decode cX6_readBlock 23 = .ok (.iconst 0, 1) := by decide +kernel
theorem dX6_readBlock_24 : decode cX6_readBlock 24 = .ok (.istore 5, 2) := by decide +kernel
theorem dX6_readBlock_26 : decode cX6_readBlock 26 = .ok (.iload 5, 2) := by decide +kernel
theorem dX6_readBlock_28 : decode cX6_readBlock 28 = .ok (.bipush 60, 2) := by decide +kernel
theorem dX6_readBlock_30 : decode cX6_readBlock 30 = .ok (.if_icmp .ge 55, 3) := by decide +kernel
theorem dX6_readBlock_33 : decode cX6_readBlock 33 = .ok (.aload_n 1, 1) := by decide +kernel
theorem dX6_readBlock_34 : decode cX6_readBlock 34 = .ok (.getfield 106, 3) := by decide +kernel
theorem dX6_readBlock_37 : decode cX6_readBlock 37 = .ok (.bipush 60, 2) := by decide +kernel
theorem dX6_readBlock_39 : decode cX6_readBlock 39 = .ok (.if_icmp .ge 46, 3) := by decide +kernel
theorem dX6_readBlock_42 : decode cX6_readBlock 42 = .ok (.aload_n 0, 1) := by decide +kernel
theorem dX6_readBlock_43 : decode cX6_readBlock 43 = .ok (.invokevirtual 109, 3) := by decide +kernel
theorem dX6_readBlock_46 : decode cX6_readBlock 46 = .ok (.ifCond .eq 39, 3) := by decide +kernel
theorem dX6_readBlock_49 : decode cX6_readBlock 49 = .ok (.aload_n 0, 1) := by decide +kernel
theorem dX6_readBlock_50 : decode cX6_readBlock 50 = .ok (.aload_n 1, 1) := by decide +kernel
theorem dX6_readBlock_51 : decode cX6_readBlock 51 = .ok (.iload_n 2, 1) := by decide +kernel
theorem dX6_readBlock_52 : decode cX6_readBlock 52 = .ok (.invokevirtual 112, 3) := by decide +kernel
theorem dX6_readBlock_55 : decode cX6_readBlock 55 = .ok (.astore 6, 2) := by decide +kernel
theorem dX6_readBlock_57 : decode cX6_readBlock 57 = .ok (.aload 4, 2) := by decide +kernel
theorem dX6_readBlock_59 : decode cX6_readBlock 59 = .ok (.ifnonnull 9, 3) := by decide +kernel
theorem dX6_readBlock_62 : decode cX6_readBlock 62 = .ok (.aload 6, 2) := by decide +kernel
theorem dX6_readBlock_64 : decode cX6_readBlock 64 = .ok (.astore_n 3, 1) := by decide +kernel
theorem dX6_readBlock_65 : decode cX6_readBlock 65 = .ok (.goto 10, 3) := by decide +kernel
theorem dX6_readBlock_68 : decode cX6_readBlock 68 = .ok (.aload 4, 2) := by decide +kernel
theorem dX6_readBlock_70 : decode cX6_readBlock 70 = .ok (.aload 6, 2) := by decide +kernel
theorem dX6_readBlock_72 : decode cX6_readBlock 72 = .ok (.putfield 115, 3) := by decide +kernel
theorem dX6_readBlock_75 : decode cX6_readBlock 75 = .ok (.aload 6, 2) := by decide +kernel
theorem dX6_readBlock_77 : decode cX6_readBlock 77 = .ok (.astore 4, 2) := by decide +kernel
theorem dX6_readBlock_79 : decode cX6_readBlock 79 = .ok (.iinc 5 1, 3) := by decide +kernel
theorem dX6_readBlock_82 : decode cX6_readBlock 82 = .ok (.goto (-56), 3) := by decide +kernel
theorem dX6_readBlock_85 : decode cX6_readBlock 85 = .ok (.aload_n 0, 1) := by decide +kernel
theorem dX6_readBlock_86 : decode cX6_readBlock 86 = .ok (.iconst 5, 1) := by decide +kernel
theorem dX6_readBlock_87 : decode cX6_readBlock 87 = .ok (.invokevirtual 31, 3) := by decide +kernel
theorem dX6_readBlock_90 : decode cX6_readBlock 90 = .ok (.pop2, 1) := by decide +kernel
theorem dX6_readBlock_91 : decode cX6_readBlock 91 = .ok (.aload_n 3, 1) := by decide +kernel
theorem dX6_readBlock_92 : decode cX6_readBlock 92 = .ok (.areturn, 1) := by decide +kernel
theorem dX6_readAction_0 : decode cX6_readAction 0 = .ok (.new 116, 3) := by decide +kernel
theorem dX6_readAction_3 : decode cX6_readAction 3 = .ok (.dup, 1) := by decide +kernel
theorem dX6_readAction_4 : decode cX6_readAction 4 = .ok (.aload_n 0, 1) := by decide +kernel
theorem dX6_readAction_5 : decode cX6_readAction 5 = .ok (.getfield 20, 3) := by decide +kernel
theorem dX6_readAction_8 : decode cX6_readAction 8 = .ok (.getfield 120, 3) := by decide +kernel
theorem dX6_readAction_11 : decode cX6_readAction 11 = .ok (.aload_n 0, 1) := by decide +kernel
theorem dX6_readAction_12 : decode cX6_readAction 12 = .ok (.getfield 20, 3) := by decide +kernel
theorem dX6_readAction_15 : decode cX6_readAction 15 = .ok (.getfield 47, 3) := by decide +kernel
theorem dX6_readAction_18 : decode cX6_readAction 18 = .ok (.invokespecial 123, 3) := by decide +kernel
theorem dX6_readAction_21 : decode cX6_readAction 21 = .ok (.astore_n 3, 1) := by decide +kernel
theorem dX6_readAction_22 : decode cX6_readAction 22 = .ok (.aload_n 1, 1) := by decide +kernel
theorem dX6_readAction_23 : decode cX6_readAction 23 = .ok (.dup, 1) := by decide +kernel
theorem dX6_readAction_24 : decode cX6_readAction 24 = .ok (.getfield 106, 3) := by decide +kernel
theorem dX6_readAction_27 : decode cX6_readAction 27 = .ok (.iconst 1, 1) := by decide +kernel
theorem dX6_readAction_28 : decode cX6_readAction 28 = .ok (.iadd, 1) := by decide +kernel
theorem dX6_readAction_29 : decode cX6_readAction 29 = .ok (.putfield 106, 3) := by decide +kernel
theorem dX6_readAction_32 : decode cX6_readAction 32 = .ok (.aload_n 0, 1) := by decide +kernel
theorem dX6_readAction_33 : decode cX6_readAction 33 = .ok (.aload_n 3, 1) := by decide +kernel
theorem dX6_readAction_34 : decode cX6_readAction 34 = .ok (.getfield 126, 3) := by decide +kernel
theorem dX6_readAction_37 : decode cX6_readAction 37 = .ok (.invokevirtual 31, 3) := by decide +kernel
theorem dX6_readAction_40 : decode cX6_readAction 40 = .ok (.pop2, 1) := by decide +kernel
theorem dX6_readAction_41 : decode cX6_readAction 41 = .ok (.aload_n 3, 1) := by decide +kernel
theorem dX6_readAction_42 : decode cX6_readAction 42 = .ok (.getfield 126, 3) := by decide +kernel
theorem dX6_readAction_45 : decode cX6_readAction 45 = .ok (.tableswitch 163 13 22 #[138, 141, 163, 163, 163, 163, 163, 163, 55, 105], 55) := by decide +kernel
theorem dX6_readAction_100 : decode cX6_readAction 100 = .ok (.aload_n 3, 1) := by decide +kernel
theorem dX6_readAction_101 : decode cX6_readAction 101 = .ok (.aload_n 0, 1) := by decide +kernel
theorem dX6_readAction_102 : decode cX6_readAction 102 = .ok (.invokevirtual 127, 3) := by decide +kernel
theorem dX6_readAction_105 : decode cX6_readAction 105 = .ok (.putfield 130, 3) := by decide +kernel
theorem dX6_readAction_108 : decode cX6_readAction 108 = .ok (.aload_n 3, 1) := by decide +kernel
theorem dX6_readAction_109 : decode cX6_readAction 109 = .ok (.aload_n 0, 1) := by decide +kernel
theorem dX6_readAction_110 : decode cX6_readAction 110 = .ok (.aload_n 1, 1) := by decide +kernel
theorem dX6_readAction_111 : decode cX6_readAction 111 = .ok (.iload_n 2, 1) := by decide +kernel
theorem dX6_readAction_112 : decode cX6_readAction 112 = .ok (.iconst 1, 1) := by decide +kernel
theorem dX6_readAction_113 : decode cX6_readAction 113 = .ok (.iadd, 1) := by decide +kernel
theorem dX6_readAction_114 : decode cX6_readAction 114 = .ok (.invokevirtual 91, 3) := by decide +kernel
theorem dX6_readAction_117 : decode cX6_readAction 117 = .ok (.putfield 133, 3) := by decide +kernel
theorem dX6_readAction_120 : decode cX6_readAction 120 = .ok (.aload_n 0, 1) := by decide +kernel
theorem dX6_readAction_121 : decode cX6_readAction 121 = .ok (.bipush 30, 2) := by decide +kernel
theorem dX6_readAction_123 : decode cX6_readAction 123 = .ok (.invokevirtual 39, 3) := by decide +kernel
theorem dX6_readAction_126 : decode cX6_readAction 126 = .ok (.ifCond .eq 22, 3) := by decide +kernel
theorem dX6_readAction_129 : decode cX6_readAction 129 = .ok (.aload_n 0, 1) := by decide +kernel
theorem dX6_readAction_130 : decode cX6_readAction 130 = .ok (.bipush 30, 2) := by decide +kernel
theorem dX6_readAction_132 : decode cX6_readAction 132 = .ok (.invokevirtual 31, 3) := by decide +kernel
theorem dX6_readAction_135 : decode cX6_readAction 135 = .ok (.pop2, 1) := by decide +kernel
theorem dX6_readAction_136 : decode cX6_readAction 136 = .ok (.aload_n 3, 1) := by decide +kernel
theorem dX6_readAction_137 : decode cX6_readAction 137 = .ok (.aload_n 0, 1) := by decide +kernel
theorem dX6_readAction_138 : decode cX6_readAction 138 = .ok (.aload_n 1, 1) := by decide +kernel
theorem dX6_readAction_139 : decode cX6_readAction 139 = .ok (.iload_n 2, 1) := by decide +kernel
theorem dX6_readAction_140 : decode cX6_readAction 140 = .ok (.iconst 1, 1) := by decide +kernel
theorem dX6_readAction_141 : decode cX6_readAction 141 = .ok (.iadd, 1) := by decide +kernel
theorem dX6_readAction_142 : decode cX6_readAction 142 = .ok (.invokevirtual 91, 3) := by decide +kernel
theorem dX6_readAction_145 : decode cX6_readAction 145 = .ok (.putfield 136, 3) := by decide +kernel
theorem dX6_readAction_148 : decode cX6_readAction 148 = .ok (.aload_n 3, 1) := by decide +kernel
theorem dX6_readAction_149 : decode cX6_readAction 149 = .ok (.areturn, 1) := by decide +kernel
theorem dX6_readAction_150 : decode cX6_readAction 150 = .ok (.aload_n 3, 1) := by decide +kernel
theorem dX6_readAction_151 : decode cX6_readAction 151 = .ok (.aload_n 0, 1) := by decide +kernel
theorem dX6_readAction_152 : decode cX6_readAction 152 = .ok (.aload_n 1, 1) := by decide +kernel
theorem dX6_readAction_153 : decode cX6_readAction 153 = .ok (.iload_n 2, 1) := by decide +kernel
theorem dX6_readAction_154 : decode cX6_readAction 154 = .ok (.iconst 1, 1) := by decide +kernel
theorem dX6_readAction_155 : decode cX6_readAction 155 = .ok (.iadd, 1) := by decide +kernel
theorem dX6_readAction_156 : decode cX6_readAction 156 = .ok (.invokevirtual 91, 3) := by decide +kernel
theorem dX6_readAction_159 : decode cX6_readAction 159 = .ok (.putfield 133, 3) := by decide +kernel
theorem dX6_readAction_162 : decode cX6_readAction 162 = .ok (.aload_n 0, 1) := by decide +kernel
theorem dX6_readAction_163 : decode cX6_readAction 163 = .ok (.bipush 31, 2) := by decide +kernel
theorem dX6_readAction_165 : decode cX6_readAction 165 = .ok (.invokevirtual 31, 3) := by decide +kernel
theorem dX6_readAction_168 : decode cX6_readAction 168 = .ok (.pop2, 1) := by decide +kernel
theorem dX6_readAction_169 : decode cX6_readAction 169 = .ok (.aload_n 3, 1) := by decide +kernel
theorem dX6_readAction_170 : decode cX6_readAction 170 = .ok (.aload_n 0, 1) := by decide +kernel
theorem dX6_readAction_171 : decode cX6_readAction 171 = .ok (.aload_n 1, 1) := by decide +kernel
theorem dX6_readAction_172 : decode cX6_readAction 172 = .ok (.iload_n 2, 1) := by decide +kernel
theorem dX6_readAction_173 : decode cX6_readAction 173 = .ok (.iconst 1, 1) := by decide +kernel
theorem dX6_readAction_174 : decode cX6_readAction 174 = .ok (.iadd, 1) := by decide +kernel
theorem dX6_readAction_175 : decode cX6_readAction 175 = .ok (.invokevirtual 91, 3) := by decide +kernel
theorem dX6_readAction_178 : decode cX6_readAction 178 = .ok (.putfield 136, 3) := by decide +kernel
theorem dX6_readAction_181 : decode cX6_readAction 181 = .ok (.aload_n 3, 1) := by decide +kernel
theorem dX6_readAction_182 : decode cX6_readAction 182 = .ok (.areturn, 1) := by decide +kernel
theorem dX6_readAction_183 : decode cX6_readAction 183 = .ok (.goto 33, 3) := by decide +kernel
theorem dX6_readAction_186 : decode cX6_readAction 186 = .ok (.aload_n 3, 1) := by decide +kernel
theorem dX6_readAction_187 : decode cX6_readAction 187 = .ok (.aload_n 0, 1) := by decide +kernel
theorem dX6_readAction_188 : decode cX6_readAction 188 = .ok (.getfield 20, 3) := by decide +kernel
theorem dX6_readAction_191 : decode cX6_readAction 191 = .ok (.getfield 47, 3) := by decide +kernel
theorem dX6_readAction_194 : decode cX6_readAction 194 = .ok (.putfield 139, 3) := by decide +kernel
theorem dX6_readAction_197 : decode cX6_readAction 197 = .ok (.aload_n 3, 1) := by decide +kernel
theorem dX6_readAction_198 : decode cX6_readAction 198 = .ok (.aload_n 0, 1) := by decide +kernel
theorem dX6_readAction_199 : decode cX6_readAction 199 = .ok (.invokevirtual 84, 3) := by decide +kernel
theorem dX6_readAction_202 : decode cX6_readAction 202 = .ok (.putfield 130, 3) := by decide +kernel
theorem dX6_readAction_205 : decode cX6_readAction 205 = .ok (.goto 11, 3) := by decide +kernel
theorem dX6_readAction_208 : decode cX6_readAction 208 = .ok (.aload_n 3, 1) := by decide +kernel
theorem dX6_readAction_209 : decode cX6_readAction 209 = .ok (.aload_n 0, 1) := by decide +kernel
theorem dX6_readAction_210 : decode cX6_readAction 210 = .ok (.invokevirtual 127, 3) := by decide +kernel
theorem dX6_readAction_213 : decode cX6_readAction 213 = .ok (.putfield 130, 3) := by decide +kernel
theorem dX6_readAction_216 : decode cX6_readAction 216 = .ok (.aload_n 0, 1) := by decide +kernel
theorem dX6_readAction_217 : decode cX6_readAction 217 = .ok (.bipush 6, 2) := by decide +kernel
theorem dX6_readAction_219 : decode cX6_readAction 219 = .ok (.invokevirtual 31, 3) := by decide +kernel
theorem dX6_readAction_222 : decode cX6_readAction 222 = .ok (.pop2, 1) := by decide +kernel
theorem dX6_readAction_223 : decode cX6_readAction 223 = .ok (.aload_n 3, 1) := by decide +kernel
theorem dX6_readAction_224 : decode cX6_readAction 224 = .ok (.areturn, 1) := by decide +kernel
theorem dX6_takeNumber_0 : decode cX6_takeNumber 0 = .ok (.aload_n 0, 1) := by decide +kernel
theorem dX6_takeNumber_1 : decode cX6_takeNumber 1 = .ok (.bipush 32, 2) := by decide +kernel
theorem dX6_takeNumber_3 : decode cX6_takeNumber 3 = .ok (.invokevirtual 39, 3) := by decide +kernel
theorem dX6_takeNumber_6 : decode cX6_takeNumber 6 = .ok (.ifCond .eq 12, 3) := by decide +kernel
theorem dX6_takeNumber_9 : decode cX6_takeNumber 9 = .ok (.aload_n 0, 1) := by decide +kernel
theorem dX6_takeNumber_10 : decode cX6_takeNumber 10 = .ok (.bipush 32, 2) := by decide +kernel
theorem dX6_takeNumber_12 : decode cX6_takeNumber 12 = .ok (.invokevirtual 31, 3) := by decide +kernel
theorem dX6_takeNumber_15 : decode cX6_takeNumber 15 = .ok (.pop2, 1) := by decide +kernel
theorem dX6_takeNumber_16 : decode cX6_takeNumber 16 = .ok (.iconst (-1), 1) := by decide +kernel
theorem dX6_takeNumber_17 : decode cX6_takeNumber 17 = .ok (.ireturn, 1) := by decide +kernel
theorem dX6_takeNumber_18 : decode cX6_takeNumber 18 = .ok (.aload_n 0, 1) := by decide +kernel
theorem dX6_takeNumber_19 : decode cX6_takeNumber 19 = .ok (.iconst 3, 1) := by decide +kernel
theorem dX6_takeNumber_20 : decode cX6_takeNumber 20 = .ok (.invokevirtual 31, 3) := by decide +kernel
theorem dX6_takeNumber_23 : decode cX6_takeNumber 23 = .ok (.l2i, 1) := by decide +kernel
theorem dX6_takeNumber_24 : decode cX6_takeNumber 24 = .ok (.ireturn, 1) := by decide +kernel
theorem dX6_takeHook_0 : decode cX6_takeHook 0 = .ok (.aload_n 0, 1) := by decide +kernel
theorem dX6_takeHook_1 : decode cX6_takeHook 1 = .ok (.bipush 7, 2) := by decide +kernel
theorem dX6_takeHook_3 : decode cX6_takeHook 3 = .ok (.bipush 6, 2) := by decide +kernel
theorem dX6_takeHook_5 : decode cX6_takeHook 5 = .ok (.invokevirtual 140, 3) := by decide +kernel
theorem dX6_takeHook_8 : decode cX6_takeHook 8 = .ok (.ifCond .ne 9, 3) := by decide +kernel
theorem dX6_takeHook_11 : decode cX6_takeHook 11 = .ok (.aload_n 0, 1) := by decide +kernel
theorem dX6_takeHook_12 : decode cX6_takeHook 12 = .ok (.invokevirtual 103, 3) := by decide +kernel
theorem dX6_takeHook_15 : decode cX6_takeHook 15 = .ok (.iconst 0, 1) := by decide +kernel
theorem dX6_takeHook_16 : decode cX6_takeHook 16 = .ok (.ireturn, 1) := by decide +kernel
theorem dX6_takeHook_17 : decode cX6_takeHook 17 = .ok (.aload_n 0, 1) := by decide +kernel
theorem dX6_takeHook_18 : decode cX6_takeHook 18 = .ok (.getfield 20, 3) := by decide +kernel
theorem dX6_takeHook_21 : decode cX6_takeHook 21 = .ok (.getfield 120, 3) := by decide +kernel
theorem dX6_takeHook_24 : decode cX6_takeHook 24 = .ok (.istore_n 1, 1) := by decide +kernel
theorem dX6_takeHook_25 : decode cX6_takeHook 25 = .ok (.aload_n 0, 1) := by decide +kernel
theorem dX6_takeHook_26 : decode cX6_takeHook 26 = .ok (.iload_n 1, 1) := by decide +kernel
theorem dX6_takeHook_27 : decode cX6_takeHook 27 = .ok (.invokevirtual 31, 3) := by decide +kernel
theorem dX6_takeHook_30 : decode cX6_takeHook 30 = .ok (.pop2, 1) := by decide +kernel
theorem dX6_takeHook_31 : decode cX6_takeHook 31 = .ok (.iload_n 1, 1) := by decide +kernel
theorem dX6_takeHook_32 : decode cX6_takeHook 32 = .ok (.bipush 7, 2) := by decide +kernel
theorem dX6_takeHook_34 : decode cX6_takeHook 34 = .ok (.isub, 1) := by decide +kernel
theorem dX6_takeHook_35 : decode cX6_takeHook 35 = .ok (.ireturn, 1) := by decide +kernel
theorem dX6_beginsBody_0 : decode cX6_beginsBody 0 = .ok (.aload_n 0, 1) := by decide +kernel
theorem dX6_beginsBody_1 : decode cX6_beginsBody 1 = .ok (.bipush 7, 2) := by decide +kernel
theorem dX6_beginsBody_3 : decode cX6_beginsBody 3 = .ok (.bipush 6, 2) := by decide +kernel
theorem dX6_beginsBody_5 : decode cX6_beginsBody 5 = .ok (.invokevirtual 140, 3) := by decide +kernel
theorem dX6_beginsBody_8 : decode cX6_beginsBody 8 = .ok (.ifCond .ne 13, 3) := by decide +kernel
theorem dX6_beginsBody_11 : decode cX6_beginsBody 11 = .ok (.aload_n 0, 1) := by decide +kernel
theorem dX6_beginsBody_12 : decode cX6_beginsBody 12 = .ok (.bipush 27, 2) := by decide +kernel
theorem dX6_beginsBody_14 : decode cX6_beginsBody 14 = .ok (.iconst 3, 1) := by decide +kernel
theorem dX6_beginsBody_15 : decode cX6_beginsBody 15 = .ok (.invokevirtual 140, 3) := by decide +kernel
theorem dX6_beginsBody_18 : decode cX6_beginsBody 18 = .ok (.ifCond .eq 7, 3) := by decide +kernel
theorem dX6_beginsBody_21 : decode cX6_beginsBody 21 = .ok (.iconst 1, 1) := by decide +kernel
theorem dX6_beginsBody_22 : decode cX6_beginsBody 22 = .ok (.goto 4, 3) := by decide +kernel
theorem dX6_beginsBody_25 : decode cX6_beginsBody 25 = .ok (.iconst 0, 1) := by decide +kernel
theorem dX6_beginsBody_26 : decode cX6_beginsBody 26 = .ok (.ireturn, 1) := by decide +kernel
theorem dX6_beginsAction_0 : decode cX6_beginsAction 0 = .ok (.aload_n 0, 1) := by decide +kernel
theorem dX6_beginsAction_1 : decode cX6_beginsAction 1 = .ok (.bipush 13, 2) := by decide +kernel
theorem dX6_beginsAction_3 : decode cX6_beginsAction 3 = .ok (.bipush 10, 2) := by decide +kernel
theorem dX6_beginsAction_5 : decode cX6_beginsAction 5 = .ok (.invokevirtual 140, 3) := by decide +kernel
theorem dX6_beginsAction_8 : decode cX6_beginsAction 8 = .ok (.ireturn, 1) := by decide +kernel
theorem dX6_sees_0 : decode cX6_sees 0 = .ok (.aload_n 0, 1) := by decide +kernel
theorem dX6_sees_1 : decode cX6_sees 1 = .ok (.getfield 9, 3) := by decide +kernel
theorem dX6_sees_4 : decode cX6_sees 4 = .ok (.ifCond .ge 18, 3) := by decide +kernel
theorem dX6_sees_7 : decode cX6_sees 7 = .ok (.aload_n 0, 1) := by decide +kernel
theorem dX6_sees_8 : decode cX6_sees 8 = .ok (.getfield 20, 3) := by decide +kernel
theorem dX6_sees_11 : decode cX6_sees 11 = .ok (.getfield 120, 3) := by decide +kernel
theorem dX6_sees_14 : decode cX6_sees 14 = .ok (.iload_n 1, 1) := by decide +kernel
theorem dX6_sees_15 : decode cX6_sees 15 = .ok (.if_icmp .ne 7, 3) := by decide +kernel
theorem dX6_sees_18 : decode cX6_sees 18 = .ok (.iconst 1, 1) := by decide +kernel
theorem dX6_sees_19 : decode cX6_sees 19 = .ok (.goto 4, 3) := by decide +kernel
theorem dX6_sees_22 : decode cX6_sees 22 = .ok (.iconst 0, 1) := by decide +kernel
theorem dX6_sees_23 : decode cX6_sees 23 = .ok (.ireturn, 1) := by decide +kernel
theorem dX6_seesFrom_0 : decode cX6_seesFrom 0 = .ok (.aload_n 0, 1) := by decide +kernel
theorem dX6_seesFrom_1 : decode cX6_seesFrom 1 = .ok (.getfield 9, 3) := by decide +kernel
theorem dX6_seesFrom_4 : decode cX6_seesFrom 4 = .ok (.ifCond .ge 31, 3) := by decide +kernel
theorem dX6_seesFrom_7 : decode cX6_seesFrom 7 = .ok (.aload_n 0, 1) := by decide +kernel
theorem dX6_seesFrom_8 : decode cX6_seesFrom 8 = .ok (.getfield 20, 3) := by decide +kernel
theorem dX6_seesFrom_11 : decode cX6_seesFrom 11 = .ok (.getfield 120, 3) := by decide +kernel
theorem dX6_seesFrom_14 : decode cX6_seesFrom 14 = .ok (.iload_n 1, 1) := by decide +kernel
theorem dX6_seesFrom_15 : decode cX6_seesFrom 15 = .ok (.if_icmp .lt 20, 3) := by decide +kernel
theorem dX6_seesFrom_18 : decode cX6_seesFrom 18 = .ok (.aload_n 0, 1) := by decide +kernel
theorem dX6_seesFrom_19 : decode cX6_seesFrom 19 = .ok (.getfield 20, 3) := by decide +kernel
theorem dX6_seesFrom_22 : decode cX6_seesFrom 22 = .ok (.getfield 120, 3) := by decide +kernel
theorem dX6_seesFrom_25 : decode cX6_seesFrom 25 = .ok (.iload_n 1, 1) := by decide +kernel
theorem dX6_seesFrom_26 : decode cX6_seesFrom 26 = .ok (.iload_n 2, 1) := by decide +kernel
theorem dX6_seesFrom_27 : decode cX6_seesFrom 27 = .ok (.iadd, 1) := by decide +kernel
theorem dX6_seesFrom_28 : decode cX6_seesFrom 28 = .ok (.if_icmp .ge 7, 3) := by decide +kernel
theorem dX6_seesFrom_31 : decode cX6_seesFrom 31 = .ok (.iconst 1, 1) := by decide +kernel
theorem dX6_seesFrom_32 : decode cX6_seesFrom 32 = .ok (.goto 4, 3) := by decide +kernel
theorem dX6_seesFrom_35 : decode cX6_seesFrom 35 = .ok (.iconst 0, 1) := by decide +kernel
theorem dX6_seesFrom_36 : decode cX6_seesFrom 36 = .ok (.ireturn, 1) := by decide +kernel
theorem dX6_take_0 : decode cX6_take 0 = .ok (.aload_n 0, 1) := by decide +kernel
theorem dX6_take_1 : decode cX6_take 1 = .ok (.getfield 20, 3) := by decide +kernel
theorem dX6_take_4 : decode cX6_take 4 = .ok (.getfield 144, 3) := by decide +kernel
theorem dX6_take_7 : decode cX6_take 7 = .ok (.lstore_n 2, 1) := by decide +kernel
theorem dX6_take_8 : decode cX6_take 8 = .ok (.aload_n 0, 1) := by decide +kernel
theorem dX6_take_9 : decode cX6_take 9 = .ok (.getfield 9, 3) := by decide +kernel
theorem dX6_take_12 : decode cX6_take 12 = .ok (.ifCond .ge 25, 3) := by decide +kernel
theorem dX6_take_15 : decode cX6_take 15 = .ok (.aload_n 0, 1) := by decide +kernel
theorem dX6_take_16 : decode cX6_take 16 = .ok (.getfield 20, 3) := by decide +kernel
theorem dX6_take_19 : decode cX6_take 19 = .ok (.getfield 120, 3) := by decide +kernel
theorem dX6_take_22 : decode cX6_take 22 = .ok (.iload_n 1, 1) := by decide +kernel
theorem dX6_take_23 : decode cX6_take 23 = .ok (.if_icmp .eq 14, 3) := by decide +kernel
theorem dX6_take_26 : decode cX6_take 26 = .ok (.aload_n 0, 1) := by decide +kernel
theorem dX6_take_27 : decode cX6_take 27 = .ok (.aload_n 0, 1) := by decide +kernel
theorem dX6_take_28 : decode cX6_take 28 = .ok (.getfield 20, 3) := by decide +kernel
theorem dX6_take_31 : decode cX6_take 31 = .ok (.getfield 47, 3) := by decide +kernel
theorem dX6_take_34 : decode cX6_take 34 = .ok (.putfield 9, 3) := by decide +kernel
theorem dX6_take_37 : decode cX6_take 37 = .ok (.aload_n 0, 1) := by decide +kernel
theorem dX6_take_38 : decode cX6_take 38 = .ok (.getfield 9, 3) := by decide +kernel
theorem dX6_take_41 : decode cX6_take 41 = .ok (.ifCond .ge 24, 3) := by decide +kernel
theorem dX6_take_44 : decode cX6_take 44 = .ok (.aload_n 0, 1) := by decide +kernel
theorem dX6_take_45 : decode cX6_take 45 = .ok (.getfield 20, 3) := by decide +kernel
theorem dX6_take_48 : decode cX6_take 48 = .ok (.getfield 147, 3) := by decide +kernel
theorem dX6_take_51 : decode cX6_take 51 = .ok (.ifnull 14, 3) := by decide +kernel
theorem dX6_take_54 : decode cX6_take 54 = .ok (.aload_n 0, 1) := by decide +kernel
theorem dX6_take_55 : decode cX6_take 55 = .ok (.aload_n 0, 1) := by decide +kernel
theorem dX6_take_56 : decode cX6_take 56 = .ok (.getfield 20, 3) := by decide +kernel
theorem dX6_take_59 : decode cX6_take 59 = .ok (.getfield 147, 3) := by decide +kernel
theorem dX6_take_62 : decode cX6_take 62 = .ok (.putfield 20, 3) := by decide +kernel
theorem dX6_take_65 : decode cX6_take 65 = .ok (.lload_n 2, 1) := by decide +kernel
theorem dX6_take_66 : decode cX6_take 66 = .ok (.lreturn, 1) := by decide +kernel
theorem dX6_spoil_0 : decode cX6_spoil 0 = .ok (.aload_n 0, 1) := by decide +kernel
theorem dX6_spoil_1 : decode cX6_spoil 1 = .ok (.getfield 9, 3) := by decide +kernel
theorem dX6_spoil_4 : decode cX6_spoil 4 = .ok (.ifCond .ge 14, 3) := by decide +kernel
theorem dX6_spoil_7 : decode cX6_spoil 7 = .ok (.aload_n 0, 1) := by decide +kernel
theorem dX6_spoil_8 : decode cX6_spoil 8 = .ok (.aload_n 0, 1) := by decide +kernel
theorem dX6_spoil_9 : decode cX6_spoil 9 = .ok (.getfield 20, 3) := by decide +kernel
theorem dX6_spoil_12 : decode cX6_spoil 12 = .ok (.getfield 47, 3) := by decide +kernel
theorem dX6_spoil_15 : decode cX6_spoil 15 = .ok (.putfield 9, 3) := by decide +kernel
theorem dX6_spoil_18 : decode cX6_spoil 18 = .ok (.return_, 1) := by decide +kernel
theorem dX7_init_0 : decode cX7_init 0 = .ok (.aload_n 0, 1) := by decide +kernel
theorem dX7_init_1 : decode cX7_init 1 = .ok (.invokespecial 3, 3) := by decide +kernel
theorem dX7_init_4 : decode cX7_init 4 = .ok (.aload_n 0, 1) := by decide +kernel
theorem dX7_init_5 : decode cX7_init 5 = .ok (.bipush 40, 2) := by decide +kernel
theorem dX7_init_7 : decode cX7_init 7 = .ok (.anewarray 9, 3) := by decide +kernel
theorem dX7_init_10 : decode cX7_init 10 = .ok (.putfield 11, 3) := by decide +kernel
theorem dX7_init_13 : decode cX7_init 13 = .ok (.aload_n 0, 1) := by decide +kernel
theorem dX7_init_14 : decode cX7_init 14 = .ok (.iconst 0, 1) := by decide +kernel
theorem dX7_init_15 : decode cX7_init 15 = .ok (.putfield 17, 3) := by decide +kernel
theorem dX7_init_18 : decode cX7_init 18 = .ok (.aload_n 0, 1) := by decide +kernel
theorem dX7_init_19 : decode cX7_init 19 = .ok (.bipush 12, 2) := by decide +kernel
theorem dX7_init_21 : decode cX7_init 21 = .ok (.anewarray 21, 3) := by decide +kernel
theorem dX7_init_24 : decode cX7_init 24 = .ok (.putfield 23, 3) := by decide +kernel
theorem dX7_init_27 : decode cX7_init 27 = .ok (.aload_n 0, 1) := by decide +kernel
theorem dX7_init_28 : decode cX7_init 28 = .ok (.iconst 0, 1) := by decide +kernel
theorem dX7_init_29 : decode cX7_init 29 = .ok (.putfield 27, 3) := by decide +kernel
theorem dX7_init_32 : decode cX7_init 32 = .ok (.aload_n 0, 1) := by decide +kernel
theorem dX7_init_33 : decode cX7_init 33 = .ok (.iconst 0, 1) := by decide +kernel
theorem dX7_init_34 : decode cX7_init 34 = .ok (.putfield 30, 3) := by decide +kernel
theorem dX7_init_37 : decode cX7_init 37 = .ok (.return_, 1) := by decide +kernel
theorem dX7_kindAt_0 : decode cX7_kindAt 0 = .ok (.iload_n 1, 1) := by decide +kernel
theorem dX7_kindAt_1 : decode cX7_kindAt 1 = .ok (.ifCond .lt 29, 3) := by decide +kernel
theorem dX7_kindAt_4 : decode cX7_kindAt 4 = .ok (.iload_n 1, 1) := by decide +kernel
theorem dX7_kindAt_5 : decode cX7_kindAt 5 = .ok (.aload_n 0, 1) := by decide +kernel
theorem dX7_kindAt_6 : decode cX7_kindAt 6 = .ok (.getfield 17, 3) := by decide +kernel
theorem dX7_kindAt_9 : decode cX7_kindAt 9 = .ok (.if_icmp .ge 21, 3) := by decide +kernel
theorem dX7_kindAt_12 : decode cX7_kindAt 12 = .ok (.iload_n 1, 1) := by decide +kernel
theorem dX7_kindAt_13 : decode cX7_kindAt 13 = .ok (.aload_n 0, 1) := by decide +kernel
theorem dX7_kindAt_14 : decode cX7_kindAt 14 = .ok (.getfield 11, 3) := by decide +kernel
theorem dX7_kindAt_17 : decode cX7_kindAt 17 = .ok (.arraylength, 1) := by decide +kernel
theorem dX7_kindAt_18 : decode cX7_kindAt 18 = .ok (.if_icmp .ge 12, 3) := by decide +kernel
theorem dX7_kindAt_21 : decode cX7_kindAt 21 = .ok (.aload_n 0, 1) := by decide +kernel
theorem dX7_kindAt_22 : decode cX7_kindAt 22 = .ok (.getfield 11, 3) := by decide +kernel
theorem dX7_kindAt_25 : decode cX7_kindAt 25 = .ok (.iload_n 1, 1) := by decide +kernel
theorem dX7_kindAt_26 : decode cX7_kindAt 26 = .ok (.aaload, 1) := by decide +kernel
theorem dX7_kindAt_27 : decode cX7_kindAt 27 = .ok (.goto 4, 3) := by decide +kernel
theorem dX7_kindAt_30 : decode cX7_kindAt 30 = .ok (.aconst_null, 1) := by decide +kernel
theorem dX7_kindAt_31 : decode cX7_kindAt 31 = .ok (.areturn, 1) := by decide +kernel
theorem dX7_packAt_0 : decode cX7_packAt 0 = .ok (.iload_n 1, 1) := by decide +kernel
theorem dX7_packAt_1 : decode cX7_packAt 1 = .ok (.ifCond .lt 29, 3) := by decide +kernel
theorem dX7_packAt_4 : decode cX7_packAt 4 = .ok (.iload_n 1, 1) := by decide +kernel
theorem dX7_packAt_5 : decode cX7_packAt 5 = .ok (.aload_n 0, 1) := by decide +kernel
theorem dX7_packAt_6 : decode cX7_packAt 6 = .ok (.getfield 27, 3) := by decide +kernel
theorem dX7_packAt_9 : decode cX7_packAt 9 = .ok (.if_icmp .ge 21, 3) := by decide +kernel
theorem dX7_packAt_12 : decode cX7_packAt 12 = .ok (.iload_n 1, 1) := by decide +kernel
theorem dX7_packAt_13 : decode cX7_packAt 13 = .ok (.aload_n 0, 1) := by decide +kernel
theorem dX7_packAt_14 : decode cX7_packAt 14 = .ok (.getfield 23, 3) := by decide +kernel
theorem dX7_packAt_17 : decode cX7_packAt 17 = .ok (.arraylength, 1) := by decide +kernel
theorem dX7_packAt_18 : decode cX7_packAt 18 = .ok (.if_icmp .ge 12, 3) := by decide +kernel
theorem dX7_packAt_21 : decode cX7_packAt 21 = .ok (.aload_n 0, 1) := by decide +kernel
theorem dX7_packAt_22 : decode cX7_packAt 22 = .ok (.getfield 23, 3) := by decide +kernel
theorem dX7_packAt_25 : decode cX7_packAt 25 = .ok (.iload_n 1, 1) := by decide +kernel
theorem dX7_packAt_26 : decode cX7_packAt 26 = .ok (.aaload, 1) := by decide +kernel
theorem dX7_packAt_27 : decode cX7_packAt 27 = .ok (.goto 4, 3) := by decide +kernel
theorem dX7_packAt_30 : decode cX7_packAt 30 = .ok (.aconst_null, 1) := by decide +kernel
theorem dX7_packAt_31 : decode cX7_packAt 31 = .ok (.areturn, 1) := by decide +kernel
theorem dX7_kindNamed_0 : decode cX7_kindNamed 0 = .ok (.iconst 0, 1) := by decide +kernel
theorem dX7_kindNamed_1 : decode cX7_kindNamed 1 = .ok (.istore_n 3, 1) := by decide +kernel
theorem dX7_kindNamed_2 : decode cX7_kindNamed 2 = .ok (.iload_n 3, 1) := by decide +kernel
theorem dX7_kindNamed_3 : decode cX7_kindNamed 3 = .ok (.aload_n 0, 1) := by decide +kernel
theorem dX7_kindNamed_4 : decode cX7_kindNamed 4 = .ok (.getfield 17, 3) := by decide +kernel
theorem dX7_kindNamed_7 : decode cX7_kindNamed 7 = .ok (.if_icmp .ge 39, 3) := by decide +kernel
theorem dX7_kindNamed_10 : decode cX7_kindNamed 10 = .ok (.iload_n 3, 1) := by decide +kernel
theorem dX7_kindNamed_11 : decode cX7_kindNamed 11 = .ok (.aload_n 0, 1) := by decide +kernel
theorem dX7_kindNamed_12 : decode cX7_kindNamed 12 = .ok (.getfield 11, 3) := by decide +kernel
theorem dX7_kindNamed_15 : decode cX7_kindNamed 15 = .ok (.arraylength, 1) := by decide +kernel
theorem dX7_kindNamed_16 : decode cX7_kindNamed 16 = .ok (.if_icmp .ge 30, 3) := by decide +kernel
theorem dX7_kindNamed_19 : decode cX7_kindNamed 19 = .ok (.aload_n 0, 1) := by decide +kernel
theorem dX7_kindNamed_20 : decode cX7_kindNamed 20 = .ok (.getfield 11, 3) := by decide +kernel
theorem dX7_kindNamed_23 : decode cX7_kindNamed 23 = .ok (.iload_n 3, 1) := by decide +kernel
theorem dX7_kindNamed_24 : decode cX7_kindNamed 24 = .ok (.aaload, 1) := by decide +kernel
theorem dX7_kindNamed_25 : decode cX7_kindNamed 25 = .ok (.getfield 33, 3) := by decide +kernel
theorem dX7_kindNamed_28 : decode cX7_kindNamed 28 = .ok (.lload_n 1, 1) := by decide +kernel
theorem dX7_kindNamed_29 : decode cX7_kindNamed 29 = .ok (.lcmp, 1) := by decide +kernel
theorem dX7_kindNamed_30 : decode cX7_kindNamed 30 = .ok (.ifCond .ne 10, 3) := by decide +kernel
theorem dX7_kindNamed_33 : decode cX7_kindNamed 33 = .ok (.aload_n 0, 1) := by decide +kernel
theorem dX7_kindNamed_34 : decode cX7_kindNamed 34 = .ok (.getfield 11, 3) := by decide +kernel
theorem dX7_kindNamed_37 : decode cX7_kindNamed 37 = .ok (.iload_n 3, 1) := by decide +kernel
theorem dX7_kindNamed_38 : decode cX7_kindNamed 38 = .ok (.aaload, 1) := by decide +kernel
theorem dX7_kindNamed_39 : decode cX7_kindNamed 39 = .ok (.areturn, 1) := by decide +kernel
theorem dX7_kindNamed_40 : decode cX7_kindNamed 40 = .ok (.iinc 3 1, 3) := by decide +kernel
theorem dX7_kindNamed_43 : decode cX7_kindNamed 43 = .ok (.goto (-41), 3) := by decide +kernel
theorem dX7_kindNamed_46 : decode cX7_kindNamed 46 = .ok (.aconst_null, 1) := by decide +kernel
theorem dX7_kindNamed_47 : decode cX7_kindNamed 47 = .ok (.areturn, 1) := by decide +kernel
theorem dX7_homeNamed_0 : decode cX7_homeNamed 0 = .ok (.lload_n 1, 1) := by decide +kernel
theorem dX7_homeNamed_1 : decode cX7_homeNamed 1 = .ok (.ldc 37, 2) := by decide +kernel
theorem dX7_homeNamed_3 : decode cX7_homeNamed 3 = .ok (.invokestatic 39, 3) := by decide +kernel
theorem dX7_homeNamed_6 : decode cX7_homeNamed 6 = .ok (.lcmp, 1) := by decide +kernel
theorem dX7_homeNamed_7 : decode cX7_homeNamed 7 = .ok (.ifCond .ne 5, 3) := by decide +kernel
theorem dX7_homeNamed_10 : decode cX7_homeNamed 10 = .ok (.iconst 0, 1) := by decide +kernel
theorem dX7_homeNamed_11 : decode cX7_homeNamed 11 = .ok (.ireturn, 1) := by decide +kernel
theorem dX7_homeNamed_12 : decode cX7_homeNamed 12 = .ok (.aload_n 0, 1) := by decide +kernel
theorem dX7_homeNamed_13 : decode cX7_homeNamed 13 = .ok (.getfield 27, 3) := by decide +kernel
theorem dX7_homeNamed_16 : decode cX7_homeNamed 16 = .ok (.aload_n 0, 1) := by decide +kernel
theorem dX7_homeNamed_17 : decode cX7_homeNamed 17 = .ok (.getfield 23, 3) := by decide +kernel
theorem dX7_homeNamed_20 : decode cX7_homeNamed 20 = .ok (.arraylength, 1) := by decide +kernel
theorem dX7_homeNamed_21 : decode cX7_homeNamed 21 = .ok (.invokestatic 43, 3) := by decide +kernel
theorem dX7_homeNamed_24 : decode cX7_homeNamed 24 = .ok (.iconst 1, 1) := by decide +kernel
theorem dX7_homeNamed_25 : decode cX7_homeNamed 25 = .ok (.isub, 1) := by decide +kernel
theorem dX7_homeNamed_26 : decode cX7_homeNamed 26 = .ok (.istore_n 3, 1) := by decide +kernel
theorem dX7_homeNamed_27 : decode cX7_homeNamed 27 = .ok (.iload_n 3, 1) := by decide +kernel
theorem dX7_homeNamed_28 : decode cX7_homeNamed 28 = .ok (.ifCond .lt 33, 3) := by decide +kernel
theorem dX7_homeNamed_31 : decode cX7_homeNamed 31 = .ok (.aload_n 0, 1) := by decide +kernel
theorem dX7_homeNamed_32 : decode cX7_homeNamed 32 = .ok (.getfield 23, 3) := by decide +kernel
theorem dX7_homeNamed_35 : decode cX7_homeNamed 35 = .ok (.iload_n 3, 1) := by decide +kernel
theorem dX7_homeNamed_36 : decode cX7_homeNamed 36 = .ok (.aaload, 1) := by decide +kernel
theorem dX7_homeNamed_37 : decode cX7_homeNamed 37 = .ok (.getfield 49, 3) := by decide +kernel
theorem dX7_homeNamed_40 : decode cX7_homeNamed 40 = .ok (.lload_n 1, 1) := by decide +kernel
theorem dX7_homeNamed_41 : decode cX7_homeNamed 41 = .ok (.lcmp, 1) := by decide +kernel
theorem dX7_homeNamed_42 : decode cX7_homeNamed 42 = .ok (.ifCond .ne 13, 3) := by decide +kernel
theorem dX7_homeNamed_45 : decode cX7_homeNamed 45 = .ok (.aload_n 0, 1) := by decide +kernel
theorem dX7_homeNamed_46 : decode cX7_homeNamed 46 = .ok (.getfield 23, 3) := by decide +kernel
theorem dX7_homeNamed_49 : decode cX7_homeNamed 49 = .ok (.iload_n 3, 1) := by decide +kernel
theorem dX7_homeNamed_50 : decode cX7_homeNamed 50 = .ok (.aaload, 1) := by decide +kernel
theorem dX7_homeNamed_51 : decode cX7_homeNamed 51 = .ok (.getfield 50, 3) := by decide +kernel
theorem dX7_homeNamed_54 : decode cX7_homeNamed 54 = .ok (.ireturn, 1) := by decide +kernel
theorem dX7_homeNamed_55 : decode cX7_homeNamed 55 = .ok (.iinc 3 (-1), 3) := by decide +kernel
theorem dX7_homeNamed_58 : decode cX7_homeNamed 58 = .ok (.goto (-31), 3) := by decide +kernel
theorem dX7_homeNamed_61 : decode cX7_homeNamed 61 = .ok (.iconst (-1), 1) := by decide +kernel
theorem dX7_homeNamed_62 : decode cX7_homeNamed 62 = .ok (.ireturn, 1) := by decide +kernel
theorem dX7_hasRoomFor_0 : decode cX7_hasRoomFor 0 = .ok (.aload_n 0, 1) := by decide +kernel
theorem dX7_hasRoomFor_1 : decode cX7_hasRoomFor 1 = .ok (.getfield 27, 3) := by decide +kernel
theorem dX7_hasRoomFor_4 : decode cX7_hasRoomFor 4 = .ok (.aload_n 0, 1) := by decide +kernel
theorem dX7_hasRoomFor_5 : decode cX7_hasRoomFor 5 = .ok (.getfield 23, 3) := by decide +kernel
theorem dX7_hasRoomFor_8 : decode cX7_hasRoomFor 8 = .ok (.arraylength, 1) := by decide +kernel
theorem dX7_hasRoomFor_9 : decode cX7_hasRoomFor 9 = .ok (.if_icmp .ge 24, 3) := by decide +kernel
theorem dX7_hasRoomFor_12 : decode cX7_hasRoomFor 12 = .ok (.aload_n 0, 1) := by decide +kernel
theorem dX7_hasRoomFor_13 : decode cX7_hasRoomFor 13 = .ok (.getfield 17, 3) := by decide +kernel
theorem dX7_hasRoomFor_16 : decode cX7_hasRoomFor 16 = .ok (.aload_n 1, 1) := by decide +kernel
theorem dX7_hasRoomFor_17 : decode cX7_hasRoomFor 17 = .ok (.getfield 53, 3) := by decide +kernel
theorem dX7_hasRoomFor_20 : decode cX7_hasRoomFor 20 = .ok (.iadd, 1) := by decide +kernel
theorem dX7_hasRoomFor_21 : decode cX7_hasRoomFor 21 = .ok (.aload_n 0, 1) := by decide +kernel
theorem dX7_hasRoomFor_22 : decode cX7_hasRoomFor 22 = .ok (.getfield 11, 3) := by decide +kernel
theorem dX7_hasRoomFor_25 : decode cX7_hasRoomFor 25 = .ok (.arraylength, 1) := by decide +kernel
theorem dX7_hasRoomFor_26 : decode cX7_hasRoomFor 26 = .ok (.if_icmp .gt 7, 3) := by decide +kernel
theorem dX7_hasRoomFor_29 : decode cX7_hasRoomFor 29 = .ok (.iconst 1, 1) := by decide +kernel
theorem dX7_hasRoomFor_30 : decode cX7_hasRoomFor 30 = .ok (.goto 4, 3) := by decide +kernel
theorem dX7_hasRoomFor_33 : decode cX7_hasRoomFor 33 = .ok (.iconst 0, 1) := by decide +kernel
theorem dX7_hasRoomFor_34 : decode cX7_hasRoomFor 34 = .ok (.ireturn, 1) := by decide +kernel
theorem dX7_add_0 : decode cX7_add 0 = .ok (.aload_n 0, 1) := by decide +kernel
theorem dX7_add_1 : decode cX7_add 1 = .ok (.aload_n 1, 1) := by decide +kernel
theorem dX7_add_2 : decode cX7_add 2 = .ok (.invokevirtual 54, 3) := by decide +kernel
theorem dX7_add_5 : decode cX7_add 5 = .ok (.ifCond .ne 4, 3) := by decide +kernel
theorem dX7_add_8 : decode cX7_add 8 = .ok (.return_, 1) := by decide +kernel
theorem dX7_add_9 : decode cX7_add 9 = .ok (.iconst 0, 1) := by decide +kernel
theorem dX7_add_10 : decode cX7_add 10 = .ok (.istore_n 2, 1) := by decide +kernel
theorem dX7_add_11 : decode cX7_add 11 = .ok (.iload_n 2, 1) := by decide +kernel
theorem dX7_add_12 : decode cX7_add 12 = .ok (.aload_n 1, 1) := by decide +kernel
theorem dX7_add_13 : decode cX7_add 13 = .ok (.getfield 53, 3) := by decide +kernel
theorem dX7_add_16 : decode cX7_add 16 = .ok (.if_icmp .ge 28, 3) := by decide +kernel
theorem dX7_add_19 : decode cX7_add 19 = .ok (.iload_n 2, 1) := by decide +kernel
theorem dX7_add_20 : decode cX7_add 20 = .ok (.aload_n 1, 1) := by decide +kernel
theorem dX7_add_21 : decode cX7_add 21 = .ok (.getfield 58, 3) := by decide +kernel
theorem dX7_add_24 : decode cX7_add 24 = .ok (.arraylength, 1) := by decide +kernel
theorem dX7_add_25 : decode cX7_add 25 = .ok (.if_icmp .ge 19, 3) := by decide +kernel
theorem dX7_add_28 : decode cX7_add 28 = .ok (.aload_n 0, 1) := by decide +kernel
theorem dX7_add_29 : decode cX7_add 29 = .ok (.aload_n 1, 1) := by decide +kernel
theorem dX7_add_30 : decode cX7_add 30 = .ok (.getfield 58, 3) := by decide +kernel
theorem dX7_add_33 : decode cX7_add 33 = .ok (.iload_n 2, 1) := by decide +kernel
theorem dX7_add_34 : decode cX7_add 34 = .ok (.aaload, 1) := by decide +kernel
theorem dX7_add_35 : decode cX7_add 35 = .ok (.invokevirtual 59, 3) := by decide +kernel
theorem dX7_add_38 : decode cX7_add 38 = .ok (.iinc 2 1, 3) := by decide +kernel
theorem dX7_add_41 : decode cX7_add 41 = .ok (.goto (-30), 3) := by decide +kernel
theorem dX7_add_44 : decode cX7_add 44 = .ok (.aload_n 0, 1) := by decide +kernel
theorem dX7_add_45 : decode cX7_add 45 = .ok (.getfield 23, 3) := by decide +kernel
theorem dX7_add_48 : decode cX7_add 48 = .ok (.aload_n 0, 1) := by decide +kernel
theorem dX7_add_49 : decode cX7_add 49 = .ok (.getfield 27, 3) := by decide +kernel
theorem dX7_add_52 : decode cX7_add 52 = .ok (.aload_n 1, 1) := by decide +kernel
theorem dX7_add_53 : decode cX7_add 53 = .ok (.aastore, 1) := by decide +kernel
theorem dX7_add_54 : decode cX7_add 54 = .ok (.aload_n 0, 1) := by decide +kernel
theorem dX7_add_55 : decode cX7_add 55 = .ok (.dup, 1) := by decide +kernel
theorem dX7_add_56 : decode cX7_add 56 = .ok (.getfield 27, 3) := by decide +kernel
theorem dX7_add_59 : decode cX7_add 59 = .ok (.iconst 1, 1) := by decide +kernel
theorem dX7_add_60 : decode cX7_add 60 = .ok (.iadd, 1) := by decide +kernel
theorem dX7_add_61 : decode cX7_add 61 = .ok (.putfield 27, 3) := by decide +kernel
theorem dX7_add_64 : decode cX7_add 64 = .ok (.aload_n 0, 1) := by decide +kernel
theorem dX7_add_65 : decode cX7_add 65 = .ok (.aload_n 0, 1) := by decide +kernel
theorem dX7_add_66 : decode cX7_add 66 = .ok (.getfield 30, 3) := by decide +kernel
theorem dX7_add_69 : decode cX7_add 69 = .ok (.aload_n 1, 1) := by decide +kernel
theorem dX7_add_70 : decode cX7_add 70 = .ok (.getfield 50, 3) := by decide +kernel
theorem dX7_add_73 : decode cX7_add 73 = .ok (.invokestatic 63, 3) := by decide +kernel
theorem dX7_add_76 : decode cX7_add 76 = .ok (.putfield 30, 3) := by decide +kernel
theorem dX7_add_79 : decode cX7_add 79 = .ok (.return_, 1) := by decide +kernel
theorem dX7_settle_0 : decode cX7_settle 0 = .ok (.aload_n 1, 1) := by decide +kernel
theorem dX7_settle_1 : decode cX7_settle 1 = .ok (.aload_n 0, 1) := by decide +kernel
theorem dX7_settle_2 : decode cX7_settle 2 = .ok (.getfield 17, 3) := by decide +kernel
theorem dX7_settle_5 : decode cX7_settle 5 = .ok (.aload_n 2, 1) := by decide +kernel
theorem dX7_settle_6 : decode cX7_settle 6 = .ok (.iload_n 3, 1) := by decide +kernel
theorem dX7_settle_7 : decode cX7_settle 7 = .ok (.iload 4, 2) := by decide +kernel
theorem dX7_settle_9 : decode cX7_settle 9 = .ok (.invokevirtual 66, 3) := by decide +kernel
theorem dX7_settle_12 : decode cX7_settle 12 = .ok (.aload_n 0, 1) := by decide +kernel
theorem dX7_settle_13 : decode cX7_settle 13 = .ok (.aload_n 1, 1) := by decide +kernel
theorem dX7_settle_14 : decode cX7_settle 14 = .ok (.invokevirtual 59, 3) := by decide +kernel
theorem dX7_settle_17 : decode cX7_settle 17 = .ok (.return_, 1) := by decide +kernel
theorem dX7_append_0 : decode cX7_append 0 = .ok (.aload_n 0, 1) := by decide +kernel
theorem dX7_append_1 : decode cX7_append 1 = .ok (.getfield 17, 3) := by decide +kernel
theorem dX7_append_4 : decode cX7_append 4 = .ok (.aload_n 0, 1) := by decide +kernel
theorem dX7_append_5 : decode cX7_append 5 = .ok (.getfield 11, 3) := by decide +kernel
theorem dX7_append_8 : decode cX7_append 8 = .ok (.arraylength, 1) := by decide +kernel
theorem dX7_append_9 : decode cX7_append 9 = .ok (.if_icmp .ge 23, 3) := by decide +kernel
theorem dX7_append_12 : decode cX7_append 12 = .ok (.aload_n 0, 1) := by decide +kernel
theorem dX7_append_13 : decode cX7_append 13 = .ok (.getfield 11, 3) := by decide +kernel
theorem dX7_append_16 : decode cX7_append 16 = .ok (.aload_n 0, 1) := by decide +kernel
theorem dX7_append_17 : decode cX7_append 17 = .ok (.getfield 17, 3) := by decide +kernel
theorem dX7_append_20 : decode cX7_append 20 = .ok (.aload_n 1, 1) := by decide +kernel
theorem dX7_append_21 : decode cX7_append 21 = .ok (.aastore, 1) := by decide +kernel
theorem dX7_append_22 : decode cX7_append 22 = .ok (.aload_n 0, 1) := by decide +kernel
theorem dX7_append_23 : decode cX7_append 23 = .ok (.dup, 1) := by decide +kernel
theorem dX7_append_24 : decode cX7_append 24 = .ok (.getfield 17, 3) := by decide +kernel
theorem dX7_append_27 : decode cX7_append 27 = .ok (.iconst 1, 1) := by decide +kernel
theorem dX7_append_28 : decode cX7_append 28 = .ok (.iadd, 1) := by decide +kernel
theorem dX7_append_29 : decode cX7_append 29 = .ok (.putfield 17, 3) := by decide +kernel
theorem dX7_append_32 : decode cX7_append 32 = .ok (.return_, 1) := by decide +kernel
theorem dX8_init_0 : decode cX8_init 0 = .ok (.aload_n 0, 1) := by decide +kernel
theorem dX8_init_1 : decode cX8_init 1 = .ok (.invokespecial 3, 3) := by decide +kernel
theorem dX8_init_4 : decode cX8_init 4 = .ok (.aload_n 0, 1) := by decide +kernel
theorem dX8_init_5 : decode cX8_init 5 = .ok (.iconst 0, 1) := by decide +kernel
theorem dX8_init_6 : decode cX8_init 6 = .ok (.putfield 9, 3) := by decide +kernel
theorem dX8_init_9 : decode cX8_init 9 = .ok (.aload_n 0, 1) := by decide +kernel
theorem dX8_init_10 : decode cX8_init 10 = .ok (.iconst 0, 1) := by decide +kernel
theorem dX8_init_11 : decode cX8_init 11 = .ok (.putfield 15, 3) := by decide +kernel
theorem dX8_init_14 : decode cX8_init 14 = .ok (.aload_n 0, 1) := by decide +kernel
theorem dX8_init_15 : decode cX8_init 15 = .ok (.iconst 0, 1) := by decide +kernel
theorem dX8_init_16 : decode cX8_init 16 = .ok (.putfield 18, 3) := by decide +kernel
theorem dX8_init_19 : decode cX8_init 19 = .ok (.aload_n 0, 1) := by decide +kernel
theorem dX8_init_20 : decode cX8_init 20 = .ok (.iconst 0, 1) := by decide +kernel
theorem dX8_init_21 : decode cX8_init 21 = .ok (.putfield 21, 3) := by decide +kernel
theorem dX8_init_24 : decode cX8_init 24 = .ok (.aload_n 0, 1) := by decide +kernel
theorem dX8_init_25 : decode cX8_init 25 = .ok (.iconst 0, 1) := by decide +kernel
theorem dX8_init_26 : decode cX8_init 26 = .ok (.putfield 24, 3) := by decide +kernel
theorem dX8_init_29 : decode cX8_init 29 = .ok (.aload_n 0, 1) := by decide +kernel
theorem dX8_init_30 : decode cX8_init 30 = .ok (.iconst 0, 1) := by decide +kernel
theorem dX8_init_31 : decode cX8_init 31 = .ok (.putfield 27, 3) := by decide +kernel
theorem dX8_init_34 : decode cX8_init 34 = .ok (.aload_n 0, 1) := by decide +kernel
theorem dX8_init_35 : decode cX8_init 35 = .ok (.iconst 0, 1) := by decide +kernel
theorem dX8_init_36 : decode cX8_init 36 = .ok (.putfield 30, 3) := by decide +kernel
theorem dX8_init_39 : decode cX8_init 39 = .ok (.aload_n 0, 1) := by decide +kernel
theorem dX8_init_40 : decode cX8_init 40 = .ok (.sipush 406, 3) := by decide +kernel
theorem dX8_init_43 : decode cX8_init 43 = .ok (.newarray .int, 2) := by decide +kernel
theorem dX8_init_45 : decode cX8_init 45 = .ok (.putfield 33, 3) := by decide +kernel
theorem dX8_init_48 : decode cX8_init 48 = .ok (.aload_n 0, 1) := by decide +kernel
theorem dX8_init_49 : decode cX8_init 49 = .ok (.sipush 406, 3) := by decide +kernel
theorem dX8_init_52 : decode cX8_init 52 = .ok (.newarray .int, 2) := by decide +kernel
theorem dX8_init_54 : decode cX8_init 54 = .ok (.putfield 37, 3) := by decide +kernel
theorem dX8_init_57 : decode cX8_init 57 = .ok (.aload_n 0, 1) := by decide +kernel
theorem dX8_init_58 : decode cX8_init 58 = .ok (.sipush 406, 3) := by decide +kernel
theorem dX8_init_61 : decode cX8_init 61 = .ok (.newarray .int, 2) := by decide +kernel
theorem dX8_init_63 : decode cX8_init 63 = .ok (.putfield 40, 3) := by decide +kernel
theorem dX8_init_66 : decode cX8_init 66 = .ok (.aload_n 0, 1) := by decide +kernel
theorem dX8_init_67 : decode cX8_init 67 = .ok (.sipush 400, 3) := by decide +kernel
theorem dX8_init_70 : decode cX8_init 70 = .ok (.newarray .int, 2) := by decide +kernel
theorem dX8_init_72 : decode cX8_init 72 = .ok (.putfield 43, 3) := by decide +kernel
theorem dX8_init_75 : decode cX8_init 75 = .ok (.aload_n 0, 1) := by decide +kernel
theorem dX8_init_76 : decode cX8_init 76 = .ok (.aconst_null, 1) := by decide +kernel
theorem dX8_init_77 : decode cX8_init 77 = .ok (.putfield 46, 3) := by decide +kernel
theorem dX8_init_80 : decode cX8_init 80 = .ok (.aload_n 0, 1) := by decide +kernel
theorem dX8_init_81 : decode cX8_init 81 = .ok (.iconst 0, 1) := by decide +kernel
theorem dX8_init_82 : decode cX8_init 82 = .ok (.putfield 50, 3) := by decide +kernel
theorem dX8_init_85 : decode cX8_init 85 = .ok (.aload_n 0, 1) := by decide +kernel
theorem dX8_init_86 : decode cX8_init 86 = .ok (.iconst 0, 1) := by decide +kernel
theorem dX8_init_87 : decode cX8_init 87 = .ok (.putfield 53, 3) := by decide +kernel
theorem dX8_init_90 : decode cX8_init 90 = .ok (.return_, 1) := by decide +kernel
theorem dX8_follow_0 : decode cX8_follow 0 = .ok (.aload_n 0, 1) := by decide +kernel
theorem dX8_follow_1 : decode cX8_follow 1 = .ok (.aload_n 2, 1) := by decide +kernel
theorem dX8_follow_2 : decode cX8_follow 2 = .ok (.iload_n 3, 1) := by decide +kernel
theorem dX8_follow_3 : decode cX8_follow 3 = .ok (.invokevirtual 57, 3) := by decide +kernel
theorem dX8_follow_6 : decode cX8_follow 6 = .ok (.aload_n 0, 1) := by decide +kernel
theorem dX8_follow_7 : decode cX8_follow 7 = .ok (.iconst 1, 1) := by decide +kernel
theorem dX8_follow_8 : decode cX8_follow 8 = .ok (.putfield 53, 3) := by decide +kernel
theorem dX8_follow_11 : decode cX8_follow 11 = .ok (.aload_n 0, 1) := by decide +kernel
theorem dX8_follow_12 : decode cX8_follow 12 = .ok (.aload_n 1, 1) := by decide +kernel
theorem dX8_follow_13 : decode cX8_follow 13 = .ok (.iconst 0, 1) := by decide +kernel
theorem dX8_follow_14 : decode cX8_follow 14 = .ok (.invokevirtual 61, 3) := by decide +kernel
theorem dX8_follow_17 : decode cX8_follow 17 = .ok (.iconst 0, 1) := by decide +kernel
theorem dX8_follow_18 : decode cX8_follow 18 = .ok (.invokevirtual 67, 3) := by decide +kernel
theorem dX8_follow_21 : decode cX8_follow 21 = .ok (.istore 4, 2) := by decide +kernel
theorem dX8_follow_23 : decode cX8_follow 23 = .ok (.aload_n 0, 1) := by decide +kernel
theorem dX8_follow_24 : decode cX8_follow 24 = .ok (.iconst 0, 1) := by decide +kernel
theorem dX8_follow_25 : decode cX8_follow 25 = .ok (.putfield 53, 3) := by decide +kernel
theorem dX8_follow_28 : decode cX8_follow 28 = .ok (.iload 4, 2) := by decide +kernel
theorem dX8_follow_30 : decode cX8_follow 30 = .ok (.iconst 1, 1) := by decide +kernel
theorem dX8_follow_31 : decode cX8_follow 31 = .ok (.if_icmp .ne 6, 3) := by decide +kernel
theorem dX8_follow_34 : decode cX8_follow 34 = .ok (.iload 4, 2) := by decide +kernel
theorem dX8_follow_36 : decode cX8_follow 36 = .ok (.ireturn, 1) := by decide +kernel
theorem dX8_follow_37 : decode cX8_follow 37 = .ok (.iconst 1, 1) := by decide +kernel
theorem dX8_follow_38 : decode cX8_follow 38 = .ok (.istore 5, 2) := by decide +kernel
theorem dX8_follow_40 : decode cX8_follow 40 = .ok (.iload 5, 2) := by decide +kernel
theorem dX8_follow_42 : decode cX8_follow 42 = .ok (.iconst 4, 1) := by decide +kernel
theorem dX8_follow_43 : decode cX8_follow 43 = .ok (.if_icmp .gt 27, 3) := by decide +kernel
theorem dX8_follow_46 : decode cX8_follow 46 = .ok (.iload 4, 2) := by decide +kernel
theorem dX8_follow_48 : decode cX8_follow 48 = .ok (.ifCond .ne 22, 3) := by decide +kernel
theorem dX8_follow_51 : decode cX8_follow 51 = .ok (.aload_n 0, 1) := by decide +kernel
theorem dX8_follow_52 : decode cX8_follow 52 = .ok (.aload_n 1, 1) := by decide +kernel
theorem dX8_follow_53 : decode cX8_follow 53 = .ok (.iload 5, 2) := by decide +kernel
theorem dX8_follow_55 : decode cX8_follow 55 = .ok (.invokevirtual 61, 3) := by decide +kernel
theorem dX8_follow_58 : decode cX8_follow 58 = .ok (.iconst 0, 1) := by decide +kernel
theorem dX8_follow_59 : decode cX8_follow 59 = .ok (.invokevirtual 67, 3) := by decide +kernel
theorem dX8_follow_62 : decode cX8_follow 62 = .ok (.istore 4, 2) := by decide +kernel
theorem dX8_follow_64 : decode cX8_follow 64 = .ok (.iinc 5 1, 3) := by decide +kernel
theorem dX8_follow_67 : decode cX8_follow 67 = .ok (.goto (-27), 3) := by decide +kernel
theorem dX8_follow_70 : decode cX8_follow 70 = .ok (.aload_n 0, 1) := by decide +kernel
theorem dX8_follow_71 : decode cX8_follow 71 = .ok (.getfield 9, 3) := by decide +kernel
theorem dX8_follow_74 : decode cX8_follow 74 = .ok (.istore 5, 2) := by decide +kernel
theorem dX8_follow_76 : decode cX8_follow 76 = .ok (.iload 4, 2) := by decide +kernel
theorem dX8_follow_78 : decode cX8_follow 78 = .ok (.iconst 3, 1) := by decide +kernel
theorem dX8_follow_79 : decode cX8_follow 79 = .ok (.if_icmp .ne 7, 3) := by decide +kernel
theorem dX8_follow_82 : decode cX8_follow 82 = .ok (.iconst 3, 1) := by decide +kernel
theorem dX8_follow_83 : decode cX8_follow 83 = .ok (.goto 13, 3) := by decide +kernel
theorem dX8_follow_86 : decode cX8_follow 86 = .ok (.aload_n 0, 1) := by decide +kernel
theorem dX8_follow_87 : decode cX8_follow 87 = .ok (.aload_n 1, 1) := by decide +kernel
theorem dX8_follow_88 : decode cX8_follow 88 = .ok (.iconst 5, 1) := by decide +kernel
theorem dX8_follow_89 : decode cX8_follow 89 = .ok (.invokevirtual 61, 3) := by decide +kernel
theorem dX8_follow_92 : decode cX8_follow 92 = .ok (.iconst 0, 1) := by decide +kernel
theorem dX8_follow_93 : decode cX8_follow 93 = .ok (.invokevirtual 67, 3) := by decide +kernel
theorem dX8_follow_96 : decode cX8_follow 96 = .ok (.istore 6, 2) := by decide +kernel
theorem dX8_follow_98 : decode cX8_follow 98 = .ok (.iload 6, 2) := by decide +kernel
theorem dX8_follow_100 : decode cX8_follow 100 = .ok (.iconst 3, 1) := by decide +kernel
theorem dX8_follow_101 : decode cX8_follow 101 = .ok (.if_icmp .eq 18, 3) := by decide +kernel
theorem dX8_follow_104 : decode cX8_follow 104 = .ok (.iload 4, 2) := by decide +kernel
theorem dX8_follow_106 : decode cX8_follow 106 = .ok (.iconst 2, 1) := by decide +kernel
theorem dX8_follow_107 : decode cX8_follow 107 = .ok (.if_icmp .ne 12, 3) := by decide +kernel
theorem dX8_follow_110 : decode cX8_follow 110 = .ok (.iconst 2, 1) := by decide +kernel
theorem dX8_follow_111 : decode cX8_follow 111 = .ok (.istore 6, 2) := by decide +kernel
theorem dX8_follow_113 : decode cX8_follow 113 = .ok (.aload_n 0, 1) := by decide +kernel
theorem dX8_follow_114 : decode cX8_follow 114 = .ok (.iload 5, 2) := by decide +kernel
theorem dX8_follow_116 : decode cX8_follow 116 = .ok (.putfield 9, 3) := by decide +kernel
theorem dX8_follow_119 : decode cX8_follow 119 = .ok (.iload 6, 2) := by decide +kernel
theorem dX8_follow_121 : decode cX8_follow 121 = .ok (.iconst 2, 1) := by decide +kernel
