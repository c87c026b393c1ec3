theorem dX11_ran_64 : decode cX11_ran 64 = .ok (.getfield 247, 3) := by decide +kernel
theorem dX11_ran_67 : decode cX11_ran 67 = .ok (.iload_n 1, 1) := by decide +kernel
theorem dX11_ran_68 : decode cX11_ran 68 = .ok (.iaload, 1) := by decide +kernel
theorem dX11_ran_69 : decode cX11_ran 69 = .ok (.ireturn, 1) := by decide +kernel
theorem dX11_ran_70 : decode cX11_ran 70 = .ok (.aload_n 0, 1) := by decide +kernel
theorem dX11_ran_71 : decode cX11_ran 71 = .ok (.getfield 39, 3) := by decide +kernel
theorem dX11_ran_74 : decode cX11_ran 74 = .ok (.getfield 250, 3) := by decide +kernel
theorem dX11_ran_77 : decode cX11_ran 77 = .ok (.iload_n 1, 1) := by decide +kernel
theorem dX11_ran_78 : decode cX11_ran 78 = .ok (.iaload, 1) := by decide +kernel
theorem dX11_ran_79 : decode cX11_ran 79 = .ok (.ireturn, 1) := by decide +kernel
theorem dX11_ran_80 : decode cX11_ran 80 = .ok (.aload_n 0, 1) := by decide +kernel
theorem dX11_ran_81 : decode cX11_ran 81 = .ok (.getfield 39, 3) := by decide +kernel
theorem dX11_ran_84 : decode cX11_ran 84 = .ok (.getfield 253, 3) := by decide +kernel
theorem dX11_ran_87 : decode cX11_ran 87 = .ok (.iload_n 1, 1) := by decide +kernel
theorem dX11_ran_88 : decode cX11_ran 88 = .ok (.iaload, 1) := by decide +kernel
theorem dX11_ran_89 : decode cX11_ran 89 = .ok (.ireturn, 1) := by decide +kernel
theorem dX11_ran_90 : decode cX11_ran 90 = .ok (.aload_n 0, 1) := by decide +kernel
theorem dX11_ran_91 : decode cX11_ran 91 = .ok (.iconst (-1), 1) := by decide +kernel
theorem dX11_ran_92 : decode cX11_ran 92 = .ok (.invokevirtual 96, 3) := by decide +kernel
theorem dX11_ran_95 : decode cX11_ran 95 = .ok (.ireturn, 1) := by decide +kernel
theorem dX11_said_0 : decode cX11_said 0 = .ok (.iload_n 1, 1) := by decide +kernel
theorem dX11_said_1 : decode cX11_said 1 = .ok (.ifCond .lt 26, 3) := by decide +kernel
theorem dX11_said_4 : decode cX11_said 4 = .ok (.iload_n 1, 1) := by decide +kernel
theorem dX11_said_5 : decode cX11_said 5 = .ok (.aload_n 0, 1) := by decide +kernel
theorem dX11_said_6 : decode cX11_said 6 = .ok (.getfield 39, 3) := by decide +kernel
theorem dX11_said_9 : decode cX11_said 9 = .ok (.getfield 241, 3) := by decide +kernel
theorem dX11_said_12 : decode cX11_said 12 = .ok (.if_icmp .ge 15, 3) := by decide +kernel
theorem dX11_said_15 : decode cX11_said 15 = .ok (.iload_n 1, 1) := by decide +kernel
theorem dX11_said_16 : decode cX11_said 16 = .ok (.aload_n 0, 1) := by decide +kernel
theorem dX11_said_17 : decode cX11_said 17 = .ok (.getfield 39, 3) := by decide +kernel
theorem dX11_said_20 : decode cX11_said 20 = .ok (.getfield 256, 3) := by decide +kernel
theorem dX11_said_23 : decode cX11_said 23 = .ok (.arraylength, 1) := by decide +kernel
theorem dX11_said_24 : decode cX11_said 24 = .ok (.if_icmp .lt 9, 3) := by decide +kernel
theorem dX11_said_27 : decode cX11_said 27 = .ok (.aload_n 0, 1) := by decide +kernel
theorem dX11_said_28 : decode cX11_said 28 = .ok (.iconst (-1), 1) := by decide +kernel
theorem dX11_said_29 : decode cX11_said 29 = .ok (.invokevirtual 96, 3) := by decide +kernel
theorem dX11_said_32 : decode cX11_said 32 = .ok (.ireturn, 1) := by decide +kernel
theorem dX11_said_33 : decode cX11_said 33 = .ok (.aload_n 0, 1) := by decide +kernel
theorem dX11_said_34 : decode cX11_said 34 = .ok (.getfield 39, 3) := by decide +kernel
theorem dX11_said_37 : decode cX11_said 37 = .ok (.getfield 256, 3) := by decide +kernel
theorem dX11_said_40 : decode cX11_said 40 = .ok (.iload_n 1, 1) := by decide +kernel
theorem dX11_said_41 : decode cX11_said 41 = .ok (.iaload, 1) := by decide +kernel
theorem dX11_said_42 : decode cX11_said 42 = .ok (.ireturn, 1) := by decide +kernel
theorem dX11_apparatus_0 : decode cX11_apparatus 0 = .ok (.aload_n 0, 1) := by decide +kernel
theorem dX11_apparatus_1 : decode cX11_apparatus 1 = .ok (.iload_n 1, 1) := by decide +kernel
theorem dX11_apparatus_2 : decode cX11_apparatus 2 = .ok (.invokevirtual 200, 3) := by decide +kernel
theorem dX11_apparatus_5 : decode cX11_apparatus 5 = .ok (.astore_n 3, 1) := by decide +kernel
theorem dX11_apparatus_6 : decode cX11_apparatus 6 = .ok (.aload_n 3, 1) := by decide +kernel
theorem dX11_apparatus_7 : decode cX11_apparatus 7 = .ok (.ifnonnull 9, 3) := by decide +kernel
theorem dX11_apparatus_10 : decode cX11_apparatus 10 = .ok (.aload_n 0, 1) := by decide +kernel
theorem dX11_apparatus_11 : decode cX11_apparatus 11 = .ok (.iconst (-1), 1) := by decide +kernel
theorem dX11_apparatus_12 : decode cX11_apparatus 12 = .ok (.invokevirtual 96, 3) := by decide +kernel
theorem dX11_apparatus_15 : decode cX11_apparatus 15 = .ok (.ireturn, 1) := by decide +kernel
theorem dX11_apparatus_16 : decode cX11_apparatus 16 = .ok (.iload_n 2, 1) := by decide +kernel
theorem dX11_apparatus_17 : decode cX11_apparatus 17 = .ok (.tableswitch 54 0 3 #[31, 39, 44, 49], 31) := by decide +kernel
theorem dX11_apparatus_48 : decode cX11_apparatus 48 = .ok (.aload_n 3, 1) := by decide +kernel
theorem dX11_apparatus_49 : decode cX11_apparatus 49 = .ok (.getfield 259, 3) := by decide +kernel
theorem dX11_apparatus_52 : decode cX11_apparatus 52 = .ok (.getfield 150, 3) := by decide +kernel
theorem dX11_apparatus_55 : decode cX11_apparatus 55 = .ok (.ireturn, 1) := by decide +kernel
theorem dX11_apparatus_56 : decode cX11_apparatus 56 = .ok (.aload_n 3, 1) := by decide +kernel
theorem dX11_apparatus_57 : decode cX11_apparatus 57 = .ok (.getfield 260, 3) := by decide +kernel
theorem dX11_apparatus_60 : decode cX11_apparatus 60 = .ok (.ireturn, 1) := by decide +kernel
theorem dX11_apparatus_61 : decode cX11_apparatus 61 = .ok (.aload_n 3, 1) := by decide +kernel
theorem dX11_apparatus_62 : decode cX11_apparatus 62 = .ok (.getfield 208, 3) := by decide +kernel
theorem dX11_apparatus_65 : decode cX11_apparatus 65 = .ok (.ireturn, 1) := by decide +kernel
theorem dX11_apparatus_66 : decode cX11_apparatus 66 = .ok (.aload_n 3, 1) := by decide +kernel
theorem dX11_apparatus_67 : decode cX11_apparatus 67 = .ok (.getfield 211, 3) := by decide +kernel
theorem dX11_apparatus_70 : decode cX11_apparatus 70 = .ok (.ireturn, 1) := by decide +kernel
theorem dX11_apparatus_71 : decode cX11_apparatus 71 = .ok (.aload_n 0, 1) := by decide +kernel
theorem dX11_apparatus_72 : decode cX11_apparatus 72 = .ok (.iconst (-1), 1) := by decide +kernel
theorem dX11_apparatus_73 : decode cX11_apparatus 73 = .ok (.invokevirtual 96, 3) := by decide +kernel
theorem dX11_apparatus_76 : decode cX11_apparatus 76 = .ok (.ireturn, 1) := by decide +kernel
theorem dX11_all_0 : decode cX11_all 0 = .ok (.iload_n 1, 1) := by decide +kernel
theorem dX11_all_1 : decode cX11_all 1 = .ok (.tableswitch 90 0 6 #[43, 49, 56, 63, 70, 76, 83], 43) := by decide +kernel
theorem dX11_all_44 : decode cX11_all 44 = .ok (.aload_n 0, 1) := by decide +kernel
theorem dX11_all_45 : decode cX11_all 45 = .ok (.iconst 0, 1) := by decide +kernel
theorem dX11_all_46 : decode cX11_all 46 = .ok (.invokevirtual 263, 3) := by decide +kernel
theorem dX11_all_49 : decode cX11_all 49 = .ok (.lreturn, 1) := by decide +kernel
theorem dX11_all_50 : decode cX11_all 50 = .ok (.aload_n 0, 1) := by decide +kernel
theorem dX11_all_51 : decode cX11_all 51 = .ok (.iconst 1, 1) := by decide +kernel
theorem dX11_all_52 : decode cX11_all 52 = .ok (.iconst 0, 1) := by decide +kernel
theorem dX11_all_53 : decode cX11_all 53 = .ok (.invokevirtual 267, 3) := by decide +kernel
theorem dX11_all_56 : decode cX11_all 56 = .ok (.lreturn, 1) := by decide +kernel
theorem dX11_all_57 : decode cX11_all 57 = .ok (.aload_n 0, 1) := by decide +kernel
theorem dX11_all_58 : decode cX11_all 58 = .ok (.iconst 0, 1) := by decide +kernel
theorem dX11_all_59 : decode cX11_all 59 = .ok (.iconst 0, 1) := by decide +kernel
theorem dX11_all_60 : decode cX11_all 60 = .ok (.invokevirtual 267, 3) := by decide +kernel
theorem dX11_all_63 : decode cX11_all 63 = .ok (.lreturn, 1) := by decide +kernel
theorem dX11_all_64 : decode cX11_all 64 = .ok (.aload_n 0, 1) := by decide +kernel
theorem dX11_all_65 : decode cX11_all 65 = .ok (.iconst 0, 1) := by decide +kernel
theorem dX11_all_66 : decode cX11_all 66 = .ok (.iconst 1, 1) := by decide +kernel
theorem dX11_all_67 : decode cX11_all 67 = .ok (.invokevirtual 267, 3) := by decide +kernel
theorem dX11_all_70 : decode cX11_all 70 = .ok (.lreturn, 1) := by decide +kernel
theorem dX11_all_71 : decode cX11_all 71 = .ok (.aload_n 0, 1) := by decide +kernel
theorem dX11_all_72 : decode cX11_all 72 = .ok (.iconst 1, 1) := by decide +kernel
theorem dX11_all_73 : decode cX11_all 73 = .ok (.invokevirtual 263, 3) := by decide +kernel
theorem dX11_all_76 : decode cX11_all 76 = .ok (.lreturn, 1) := by decide +kernel
theorem dX11_all_77 : decode cX11_all 77 = .ok (.aload_n 0, 1) := by decide +kernel
theorem dX11_all_78 : decode cX11_all 78 = .ok (.iconst 1, 1) := by decide +kernel
theorem dX11_all_79 : decode cX11_all 79 = .ok (.iconst 2, 1) := by decide +kernel
theorem dX11_all_80 : decode cX11_all 80 = .ok (.invokevirtual 267, 3) := by decide +kernel
theorem dX11_all_83 : decode cX11_all 83 = .ok (.lreturn, 1) := by decide +kernel
theorem dX11_all_84 : decode cX11_all 84 = .ok (.aload_n 0, 1) := by decide +kernel
theorem dX11_all_85 : decode cX11_all 85 = .ok (.iconst 0, 1) := by decide +kernel
theorem dX11_all_86 : decode cX11_all 86 = .ok (.iconst 2, 1) := by decide +kernel
theorem dX11_all_87 : decode cX11_all 87 = .ok (.invokevirtual 267, 3) := by decide +kernel
theorem dX11_all_90 : decode cX11_all 90 = .ok (.lreturn, 1) := by decide +kernel
theorem dX11_all_91 : decode cX11_all 91 = .ok (.aload_n 0, 1) := by decide +kernel
theorem dX11_all_92 : decode cX11_all 92 = .ok (.iconst (-1), 1) := by decide +kernel
theorem dX11_all_93 : decode cX11_all 93 = .ok (.invokevirtual 96, 3) := by decide +kernel
theorem dX11_all_96 : decode cX11_all 96 = .ok (.i2l, 1) := by decide +kernel
theorem dX11_all_97 : decode cX11_all 97 = .ok (.lreturn, 1) := by decide +kernel
theorem dX11_record_0 : decode cX11_record 0 = .ok (.iload_n 1, 1) := by decide +kernel
theorem dX11_record_1 : decode cX11_record 1 = .ok (.ifCond .lt 29, 3) := by decide +kernel
theorem dX11_record_4 : decode cX11_record 4 = .ok (.iload_n 1, 1) := by decide +kernel
theorem dX11_record_5 : decode cX11_record 5 = .ok (.aload_n 0, 1) := by decide +kernel
theorem dX11_record_6 : decode cX11_record 6 = .ok (.getfield 49, 3) := by decide +kernel
theorem dX11_record_9 : decode cX11_record 9 = .ok (.if_icmp .ge 21, 3) := by decide +kernel
theorem dX11_record_12 : decode cX11_record 12 = .ok (.iload_n 1, 1) := by decide +kernel
theorem dX11_record_13 : decode cX11_record 13 = .ok (.aload_n 0, 1) := by decide +kernel
theorem dX11_record_14 : decode cX11_record 14 = .ok (.getfield 45, 3) := by decide +kernel
theorem dX11_record_17 : decode cX11_record 17 = .ok (.arraylength, 1) := by decide +kernel
theorem dX11_record_18 : decode cX11_record 18 = .ok (.if_icmp .ge 12, 3) := by decide +kernel
theorem dX11_record_21 : decode cX11_record 21 = .ok (.aload_n 0, 1) := by decide +kernel
theorem dX11_record_22 : decode cX11_record 22 = .ok (.getfield 45, 3) := by decide +kernel
theorem dX11_record_25 : decode cX11_record 25 = .ok (.iload_n 1, 1) := by decide +kernel
theorem dX11_record_26 : decode cX11_record 26 = .ok (.aaload, 1) := by decide +kernel
theorem dX11_record_27 : decode cX11_record 27 = .ok (.ifnonnull 9, 3) := by decide +kernel
theorem dX11_record_30 : decode cX11_record 30 = .ok (.aload_n 0, 1) := by decide +kernel
theorem dX11_record_31 : decode cX11_record 31 = .ok (.iconst (-1), 1) := by decide +kernel
theorem dX11_record_32 : decode cX11_record 32 = .ok (.invokevirtual 96, 3) := by decide +kernel
theorem dX11_record_35 : decode cX11_record 35 = .ok (.ireturn, 1) := by decide +kernel
theorem dX11_record_36 : decode cX11_record 36 = .ok (.iload_n 2, 1) := by decide +kernel
theorem dX11_record_37 : decode cX11_record 37 = .ok (.tableswitch 60 0 2 #[27, 37, 50], 27) := by decide +kernel
theorem dX11_record_64 : decode cX11_record 64 = .ok (.aload_n 0, 1) := by decide +kernel
theorem dX11_record_65 : decode cX11_record 65 = .ok (.getfield 45, 3) := by decide +kernel
theorem dX11_record_68 : decode cX11_record 68 = .ok (.iload_n 1, 1) := by decide +kernel
theorem dX11_record_69 : decode cX11_record 69 = .ok (.aaload, 1) := by decide +kernel
theorem dX11_record_70 : decode cX11_record 70 = .ok (.getfield 271, 3) := by decide +kernel
theorem dX11_record_73 : decode cX11_record 73 = .ok (.ireturn, 1) := by decide +kernel
theorem dX11_record_74 : decode cX11_record 74 = .ok (.aload_n 0, 1) := by decide +kernel
theorem dX11_record_75 : decode cX11_record 75 = .ok (.getfield 45, 3) := by decide +kernel
theorem dX11_record_78 : decode cX11_record 78 = .ok (.iload_n 1, 1) := by decide +kernel
theorem dX11_record_79 : decode cX11_record 79 = .ok (.aaload, 1) := by decide +kernel
theorem dX11_record_80 : decode cX11_record 80 = .ok (.getfield 274, 3) := by decide +kernel
theorem dX11_record_83 : decode cX11_record 83 = .ok (.getfield 278, 3) := by decide +kernel
theorem dX11_record_86 : decode cX11_record 86 = .ok (.ireturn, 1) := by decide +kernel
theorem dX11_record_87 : decode cX11_record 87 = .ok (.aload_n 0, 1) := by decide +kernel
theorem dX11_record_88 : decode cX11_record 88 = .ok (.getfield 45, 3) := by decide +kernel
theorem dX11_record_91 : decode cX11_record 91 = .ok (.iload_n 1, 1) := by decide +kernel
theorem dX11_record_92 : decode cX11_record 92 = .ok (.aaload, 1) := by decide +kernel
theorem dX11_record_93 : decode cX11_record 93 = .ok (.getfield 279, 3) := by decide +kernel
theorem dX11_record_96 : decode cX11_record 96 = .ok (.ireturn, 1) := by decide +kernel
theorem dX11_record_97 : decode cX11_record 97 = .ok (.aload_n 0, 1) := by decide +kernel
theorem dX11_record_98 : decode cX11_record 98 = .ok (.iconst (-1), 1) := by decide +kernel
theorem dX11_record_99 : decode cX11_record 99 = .ok (.invokevirtual 96, 3) := by decide +kernel
theorem dX11_record_102 : decode cX11_record 102 = .ok (.ireturn, 1) := by decide +kernel
theorem dX11_undo_0 : decode cX11_undo 0 = .ok (.aload_n 0, 1) := by decide +kernel
theorem dX11_undo_1 : decode cX11_undo 1 = .ok (.getfield 49, 3) := by decide +kernel
theorem dX11_undo_4 : decode cX11_undo 4 = .ok (.iconst 1, 1) := by decide +kernel
theorem dX11_undo_5 : decode cX11_undo 5 = .ok (.if_icmp .lt 29, 3) := by decide +kernel
theorem dX11_undo_8 : decode cX11_undo 8 = .ok (.aload_n 0, 1) := by decide +kernel
theorem dX11_undo_9 : decode cX11_undo 9 = .ok (.getfield 49, 3) := by decide +kernel
theorem dX11_undo_12 : decode cX11_undo 12 = .ok (.aload_n 0, 1) := by decide +kernel
theorem dX11_undo_13 : decode cX11_undo 13 = .ok (.getfield 45, 3) := by decide +kernel
theorem dX11_undo_16 : decode cX11_undo 16 = .ok (.arraylength, 1) := by decide +kernel
theorem dX11_undo_17 : decode cX11_undo 17 = .ok (.if_icmp .gt 17, 3) := by decide +kernel
theorem dX11_undo_20 : decode cX11_undo 20 = .ok (.aload_n 0, 1) := by decide +kernel
theorem dX11_undo_21 : decode cX11_undo 21 = .ok (.getfield 45, 3) := by decide +kernel
theorem dX11_undo_24 : decode cX11_undo 24 = .ok (.aload_n 0, 1) := by decide +kernel
theorem dX11_undo_25 : decode cX11_undo 25 = .ok (.getfield 49, 3) := by decide +kernel
theorem dX11_undo_28 : decode cX11_undo 28 = .ok (.iconst 1, 1) := by decide +kernel
theorem dX11_undo_29 : decode cX11_undo 29 = .ok (.isub, 1) := by decide +kernel
theorem dX11_undo_30 : decode cX11_undo 30 = .ok (.aaload, 1) := by decide +kernel
theorem dX11_undo_31 : decode cX11_undo 31 = .ok (.ifnonnull 10, 3) := by decide +kernel
theorem dX11_undo_34 : decode cX11_undo 34 = .ok (.aload_n 0, 1) := by decide +kernel
theorem dX11_undo_35 : decode cX11_undo 35 = .ok (.bipush (-2), 2) := by decide +kernel
theorem dX11_undo_37 : decode cX11_undo 37 = .ok (.invokevirtual 96, 3) := by decide +kernel
theorem dX11_undo_40 : decode cX11_undo 40 = .ok (.ireturn, 1) := by decide +kernel
theorem dX11_undo_41 : decode cX11_undo 41 = .ok (.aload_n 0, 1) := by decide +kernel
theorem dX11_undo_42 : decode cX11_undo 42 = .ok (.dup, 1) := by decide +kernel
theorem dX11_undo_43 : decode cX11_undo 43 = .ok (.getfield 49, 3) := by decide +kernel
theorem dX11_undo_46 : decode cX11_undo 46 = .ok (.iconst 1, 1) := by decide +kernel
theorem dX11_undo_47 : decode cX11_undo 47 = .ok (.isub, 1) := by decide +kernel
theorem dX11_undo_48 : decode cX11_undo 48 = .ok (.putfield 49, 3) := by decide +kernel
theorem dX11_undo_51 : decode cX11_undo 51 = .ok (.aload_n 0, 1) := by decide +kernel
theorem dX11_undo_52 : decode cX11_undo 52 = .ok (.getfield 45, 3) := by decide +kernel
theorem dX11_undo_55 : decode cX11_undo 55 = .ok (.aload_n 0, 1) := by decide +kernel
theorem dX11_undo_56 : decode cX11_undo 56 = .ok (.getfield 49, 3) := by decide +kernel
theorem dX11_undo_59 : decode cX11_undo 59 = .ok (.aaload, 1) := by decide +kernel
theorem dX11_undo_60 : decode cX11_undo 60 = .ok (.invokevirtual 282, 3) := by decide +kernel
theorem dX11_undo_63 : decode cX11_undo 63 = .ok (.aload_n 0, 1) := by decide +kernel
theorem dX11_undo_64 : decode cX11_undo 64 = .ok (.getfield 45, 3) := by decide +kernel
theorem dX11_undo_67 : decode cX11_undo 67 = .ok (.aload_n 0, 1) := by decide +kernel
theorem dX11_undo_68 : decode cX11_undo 68 = .ok (.getfield 49, 3) := by decide +kernel
theorem dX11_undo_71 : decode cX11_undo 71 = .ok (.aconst_null, 1) := by decide +kernel
theorem dX11_undo_72 : decode cX11_undo 72 = .ok (.aastore, 1) := by decide +kernel
theorem dX11_undo_73 : decode cX11_undo 73 = .ok (.aload_n 0, 1) := by decide +kernel
theorem dX11_undo_74 : decode cX11_undo 74 = .ok (.getfield 49, 3) := by decide +kernel
theorem dX11_undo_77 : decode cX11_undo 77 = .ok (.ireturn, 1) := by decide +kernel
theorem dX11_found_0 : decode cX11_found 0 = .ok (.iload_n 1, 1) := by decide +kernel
theorem dX11_found_1 : decode cX11_found 1 = .ok (.iconst (-1), 1) := by decide +kernel
theorem dX11_found_2 : decode cX11_found 2 = .ok (.if_icmp .gt 9, 3) := by decide +kernel
theorem dX11_found_5 : decode cX11_found 5 = .ok (.iload_n 1, 1) := by decide +kernel
theorem dX11_found_6 : decode cX11_found 6 = .ok (.bipush (-4), 2) := by decide +kernel
theorem dX11_found_8 : decode cX11_found 8 = .ok (.if_icmp .ge 9, 3) := by decide +kernel
theorem dX11_found_11 : decode cX11_found 11 = .ok (.aload_n 0, 1) := by decide +kernel
theorem dX11_found_12 : decode cX11_found 12 = .ok (.iconst (-1), 1) := by decide +kernel
theorem dX11_found_13 : decode cX11_found 13 = .ok (.invokevirtual 96, 3) := by decide +kernel
theorem dX11_found_16 : decode cX11_found 16 = .ok (.ireturn, 1) := by decide +kernel
theorem dX11_found_17 : decode cX11_found 17 = .ok (.aload_n 0, 1) := by decide +kernel
theorem dX11_found_18 : decode cX11_found 18 = .ok (.getfield 52, 3) := by decide +kernel
theorem dX11_found_21 : decode cX11_found 21 = .ok (.iload_n 1, 1) := by decide +kernel
theorem dX11_found_22 : decode cX11_found 22 = .ok (.ineg, 1) := by decide +kernel
theorem dX11_found_23 : decode cX11_found 23 = .ok (.iaload, 1) := by decide +kernel
theorem dX11_found_24 : decode cX11_found 24 = .ok (.ireturn, 1) := by decide +kernel
theorem dX11_tell_0 : decode cX11_tell 0 = .ok (.iload_n 1, 1) := by decide +kernel
theorem dX11_tell_1 : decode cX11_tell 1 = .ok (.iconst (-1), 1) := by decide +kernel
theorem dX11_tell_2 : decode cX11_tell 2 = .ok (.if_icmp .gt 20, 3) := by decide +kernel
theorem dX11_tell_5 : decode cX11_tell 5 = .ok (.iload_n 1, 1) := by decide +kernel
theorem dX11_tell_6 : decode cX11_tell 6 = .ok (.bipush (-4), 2) := by decide +kernel
theorem dX11_tell_8 : decode cX11_tell 8 = .ok (.if_icmp .lt 14, 3) := by decide +kernel
theorem dX11_tell_11 : decode cX11_tell 11 = .ok (.aload_n 0, 1) := by decide +kernel
theorem dX11_tell_12 : decode cX11_tell 12 = .ok (.getfield 52, 3) := by decide +kernel
theorem dX11_tell_15 : decode cX11_tell 15 = .ok (.iload_n 1, 1) := by decide +kernel
theorem dX11_tell_16 : decode cX11_tell 16 = .ok (.ineg, 1) := by decide +kernel
theorem dX11_tell_17 : decode cX11_tell 17 = .ok (.dup2, 1) := by decide +kernel
theorem dX11_tell_18 : decode cX11_tell 18 = .ok (.iaload, 1) := by decide +kernel
theorem dX11_tell_19 : decode cX11_tell 19 = .ok (.iconst 1, 1) := by decide +kernel
theorem dX11_tell_20 : decode cX11_tell 20 = .ok (.iadd, 1) := by decide +kernel
theorem dX11_tell_21 : decode cX11_tell 21 = .ok (.iastore, 1) := by decide +kernel
theorem dX11_tell_22 : decode cX11_tell 22 = .ok (.iload_n 1, 1) := by decide +kernel
theorem dX11_tell_23 : decode cX11_tell 23 = .ok (.ireturn, 1) := by decide +kernel
theorem dX11_enter_0 : decode cX11_enter 0 = .ok (.aload_n 0, 1) := by decide +kernel
theorem dX11_enter_1 : decode cX11_enter 1 = .ok (.getfield 49, 3) := by decide +kernel
theorem dX11_enter_4 : decode cX11_enter 4 = .ok (.aload_n 0, 1) := by decide +kernel
theorem dX11_enter_5 : decode cX11_enter 5 = .ok (.getfield 45, 3) := by decide +kernel
theorem dX11_enter_8 : decode cX11_enter 8 = .ok (.arraylength, 1) := by decide +kernel
theorem dX11_enter_9 : decode cX11_enter 9 = .ok (.if_icmp .ge 23, 3) := by decide +kernel
theorem dX11_enter_12 : decode cX11_enter 12 = .ok (.aload_n 0, 1) := by decide +kernel
theorem dX11_enter_13 : decode cX11_enter 13 = .ok (.getfield 45, 3) := by decide +kernel
theorem dX11_enter_16 : decode cX11_enter 16 = .ok (.aload_n 0, 1) := by decide +kernel
theorem dX11_enter_17 : decode cX11_enter 17 = .ok (.getfield 49, 3) := by decide +kernel
theorem dX11_enter_20 : decode cX11_enter 20 = .ok (.aload_n 1, 1) := by decide +kernel
theorem dX11_enter_21 : decode cX11_enter 21 = .ok (.aastore, 1) := by decide +kernel
theorem dX11_enter_22 : decode cX11_enter 22 = .ok (.aload_n 0, 1) := by decide +kernel
theorem dX11_enter_23 : decode cX11_enter 23 = .ok (.dup, 1) := by decide +kernel
theorem dX11_enter_24 : decode cX11_enter 24 = .ok (.getfield 49, 3) := by decide +kernel
theorem dX11_enter_27 : decode cX11_enter 27 = .ok (.iconst 1, 1) := by decide +kernel
theorem dX11_enter_28 : decode cX11_enter 28 = .ok (.iadd, 1) := by decide +kernel
theorem dX11_enter_29 : decode cX11_enter 29 = .ok (.putfield 49, 3) := by decide +kernel
theorem dX11_enter_32 : decode cX11_enter 32 = .ok (.return_, 1) := by decide +kernel
theorem dX11_vesselAt_0 : decode cX11_vesselAt 0 = .ok (.iload_n 1, 1) := by decide +kernel
theorem dX11_vesselAt_1 : decode cX11_vesselAt 1 = .ok (.ifCond .lt 29, 3) := by decide +kernel
theorem dX11_vesselAt_4 : decode cX11_vesselAt 4 = .ok (.iload_n 1, 1) := by decide +kernel
theorem dX11_vesselAt_5 : decode cX11_vesselAt 5 = .ok (.aload_n 0, 1) := by decide +kernel
theorem dX11_vesselAt_6 : decode cX11_vesselAt 6 = .ok (.getfield 33, 3) := by decide +kernel
theorem dX11_vesselAt_9 : decode cX11_vesselAt 9 = .ok (.if_icmp .ge 21, 3) := by decide +kernel
theorem dX11_vesselAt_12 : decode cX11_vesselAt 12 = .ok (.iload_n 1, 1) := by decide +kernel
theorem dX11_vesselAt_13 : decode cX11_vesselAt 13 = .ok (.aload_n 0, 1) := by decide +kernel
theorem dX11_vesselAt_14 : decode cX11_vesselAt 14 = .ok (.getfield 29, 3) := by decide +kernel
theorem dX11_vesselAt_17 : decode cX11_vesselAt 17 = .ok (.arraylength, 1) := by decide +kernel
theorem dX11_vesselAt_18 : decode cX11_vesselAt 18 = .ok (.if_icmp .ge 12, 3) := by decide +kernel
theorem dX11_vesselAt_21 : decode cX11_vesselAt 21 = .ok (.aload_n 0, 1) := by decide +kernel
theorem dX11_vesselAt_22 : decode cX11_vesselAt 22 = .ok (.getfield 29, 3) := by decide +kernel
theorem dX11_vesselAt_25 : decode cX11_vesselAt 25 = .ok (.iload_n 1, 1) := by decide +kernel
theorem dX11_vesselAt_26 : decode cX11_vesselAt 26 = .ok (.aaload, 1) := by decide +kernel
theorem dX11_vesselAt_27 : decode cX11_vesselAt 27 = .ok (.goto 4, 3) := by decide +kernel
theorem dX11_vesselAt_30 : decode cX11_vesselAt 30 = .ok (.aconst_null, 1) := by decide +kernel
theorem dX11_vesselAt_31 : decode cX11_vesselAt 31 = .ok (.areturn, 1) := by decide +kernel
theorem dX11_sumOfVessels_0 : decode cX11_sumOfVessels 0 = .ok (.lconst 0, 1) := by decide +kernel
theorem dX11_sumOfVessels_1 : decode cX11_sumOfVessels 1 = .ok (.lstore_n 2, 1) := by decide +kernel
theorem dX11_sumOfVessels_2 : decode cX11_sumOfVessels 2 = .ok (.iconst 0, 1) := by decide +kernel
theorem dX11_sumOfVessels_3 : decode cX11_sumOfVessels 3 = .ok (.istore 4, 2) := by decide +kernel
theorem dX11_sumOfVessels_5 : decode cX11_sumOfVessels 5 = .ok (.iload 4, 2) := by decide +kernel
theorem dX11_sumOfVessels_7 : decode cX11_sumOfVessels 7 = .ok (.aload_n 0, 1) := by decide +kernel
theorem dX11_sumOfVessels_8 : decode cX11_sumOfVessels 8 = .ok (.getfield 33, 3) := by decide +kernel
theorem dX11_sumOfVessels_11 : decode cX11_sumOfVessels 11 = .ok (.if_icmp .ge 51, 3) := by decide +kernel
theorem dX11_sumOfVessels_14 : decode cX11_sumOfVessels 14 = .ok (.iload 4, 2) := by decide +kernel
theorem dX11_sumOfVessels_16 : decode cX11_sumOfVessels 16 = .ok (.aload_n 0, 1) := by decide +kernel
theorem dX11_sumOfVessels_17 : decode cX11_sumOfVessels 17 = .ok (.getfield 29, 3) := by decide +kernel
theorem dX11_sumOfVessels_20 : decode cX11_sumOfVessels 20 = .ok (.arraylength, 1) := by decide +kernel
theorem dX11_sumOfVessels_21 : decode cX11_sumOfVessels 21 = .ok (.if_icmp .ge 41, 3) := by decide +kernel
theorem dX11_sumOfVessels_24 : decode cX11_sumOfVessels 24 = .ok (.lload_n 2, 1) := by decide +kernel
theorem dX11_sumOfVessels_25 : decode cX11_sumOfVessels 25 = .ok (.iload_n 1, 1) := by decide +kernel
theorem dX11_sumOfVessels_26 : decode cX11_sumOfVessels 26 = .ok (.ifCond .eq 17, 3) := by decide +kernel
theorem dX11_sumOfVessels_29 : decode cX11_sumOfVessels 29 = .ok (.aload_n 0, 1) := by decide +kernel
theorem dX11_sumOfVessels_30 : decode cX11_sumOfVessels 30 = .ok (.getfield 29, 3) := by decide +kernel
theorem dX11_sumOfVessels_33 : decode cX11_sumOfVessels 33 = .ok (.iload 4, 2) := by decide +kernel
theorem dX11_sumOfVessels_35 : decode cX11_sumOfVessels 35 = .ok (.aaload, 1) := by decide +kernel
theorem dX11_sumOfVessels_36 : decode cX11_sumOfVessels 36 = .ok (.getfield 211, 3) := by decide +kernel
theorem dX11_sumOfVessels_39 : decode cX11_sumOfVessels 39 = .ok (.i2l, 1) := by decide +kernel
theorem dX11_sumOfVessels_40 : decode cX11_sumOfVessels 40 = .ok (.goto 14, 3) := by decide +kernel
theorem dX11_sumOfVessels_43 : decode cX11_sumOfVessels 43 = .ok (.aload_n 0, 1) := by decide +kernel
theorem dX11_sumOfVessels_44 : decode cX11_sumOfVessels 44 = .ok (.getfield 29, 3) := by decide +kernel
theorem dX11_sumOfVessels_47 : decode cX11_sumOfVessels 47 = .ok (.iload 4, 2) := by decide +kernel
theorem dX11_sumOfVessels_49 : decode cX11_sumOfVessels 49 = .ok (.aaload, 1) := by decide +kernel
theorem dX11_sumOfVessels_50 : decode cX11_sumOfVessels 50 = .ok (.getfield 208, 3) := by decide +kernel
theorem dX11_sumOfVessels_53 : decode cX11_sumOfVessels 53 = .ok (.i2l, 1) := by decide +kernel
theorem dX11_sumOfVessels_54 : decode cX11_sumOfVessels 54 = .ok (.ladd, 1) := by decide +kernel
theorem dX11_sumOfVessels_55 : decode cX11_sumOfVessels 55 = .ok (.lstore_n 2, 1) := by decide +kernel
theorem dX11_sumOfVessels_56 : decode cX11_sumOfVessels 56 = .ok (.iinc 4 1, 3) := by decide +kernel
theorem dX11_sumOfVessels_59 : decode cX11_sumOfVessels 59 = .ok (.goto (-54), 3) := by decide +kernel
theorem dX11_sumOfVessels_62 : decode cX11_sumOfVessels 62 = .ok (.lload_n 2, 1) := by decide +kernel
theorem dX11_sumOfVessels_63 : decode cX11_sumOfVessels 63 = .ok (.lreturn, 1) := by decide +kernel
theorem dX11_sumOfEntries_0 : decode cX11_sumOfEntries 0 = .ok (.lconst 0, 1) := by decide +kernel
theorem dX11_sumOfEntries_1 : decode cX11_sumOfEntries 1 = .ok (.lstore_n 3, 1) := by decide +kernel
theorem dX11_sumOfEntries_2 : decode cX11_sumOfEntries 2 = .ok (.iconst 0, 1) := by decide +kernel
theorem dX11_sumOfEntries_3 : decode cX11_sumOfEntries 3 = .ok (.istore 5, 2) := by decide +kernel
theorem dX11_sumOfEntries_5 : decode cX11_sumOfEntries 5 = .ok (.iload 5, 2) := by decide +kernel
theorem dX11_sumOfEntries_7 : decode cX11_sumOfEntries 7 = .ok (.aload_n 0, 1) := by decide +kernel
theorem dX11_sumOfEntries_8 : decode cX11_sumOfEntries 8 = .ok (.getfield 49, 3) := by decide +kernel
theorem dX11_sumOfEntries_11 : decode cX11_sumOfEntries 11 = .ok (.if_icmp .ge 48, 3) := by decide +kernel
theorem dX11_sumOfEntries_14 : decode cX11_sumOfEntries 14 = .ok (.iload 5, 2) := by decide +kernel
theorem dX11_sumOfEntries_16 : decode cX11_sumOfEntries 16 = .ok (.aload_n 0, 1) := by decide +kernel
theorem dX11_sumOfEntries_17 : decode cX11_sumOfEntries 17 = .ok (.getfield 45, 3) := by decide +kernel
theorem dX11_sumOfEntries_20 : decode cX11_sumOfEntries 20 = .ok (.arraylength, 1) := by decide +kernel
theorem dX11_sumOfEntries_21 : decode cX11_sumOfEntries 21 = .ok (.if_icmp .ge 38, 3) := by decide +kernel
theorem dX11_sumOfEntries_24 : decode cX11_sumOfEntries 24 = .ok (.aload_n 0, 1) := by decide +kernel
theorem dX11_sumOfEntries_25 : decode cX11_sumOfEntries 25 = .ok (.getfield 45, 3) := by decide +kernel
theorem dX11_sumOfEntries_28 : decode cX11_sumOfEntries 28 = .ok (.iload 5, 2) := by decide +kernel
theorem dX11_sumOfEntries_30 : decode cX11_sumOfEntries 30 = .ok (.aaload, 1) := by decide +kernel
theorem dX11_sumOfEntries_31 : decode cX11_sumOfEntries 31 = .ok (.getfield 271, 3) := by decide +kernel
theorem dX11_sumOfEntries_34 : decode cX11_sumOfEntries 34 = .ok (.iload_n 1, 1) := by decide +kernel
theorem dX11_sumOfEntries_35 : decode cX11_sumOfEntries 35 = .ok (.if_icmp .ne 18, 3) := by decide +kernel
theorem dX11_sumOfEntries_38 : decode cX11_sumOfEntries 38 = .ok (.lload_n 3, 1) := by decide +kernel
theorem dX11_sumOfEntries_39 : decode cX11_sumOfEntries 39 = .ok (.aload_n 0, 1) := by decide +kernel
theorem dX11_sumOfEntries_40 : decode cX11_sumOfEntries 40 = .ok (.getfield 45, 3) := by decide +kernel
theorem dX11_sumOfEntries_43 : decode cX11_sumOfEntries 43 = .ok (.iload 5, 2) := by decide +kernel
theorem dX11_sumOfEntries_45 : decode cX11_sumOfEntries 45 = .ok (.aaload, 1) := by decide +kernel
theorem dX11_sumOfEntries_46 : decode cX11_sumOfEntries 46 = .ok (.iload_n 2, 1) := by decide +kernel
theorem dX11_sumOfEntries_47 : decode cX11_sumOfEntries 47 = .ok (.invokevirtual 285, 3) := by decide +kernel
theorem dX11_sumOfEntries_50 : decode cX11_sumOfEntries 50 = .ok (.i2l, 1) := by decide +kernel
theorem dX11_sumOfEntries_51 : decode cX11_sumOfEntries 51 = .ok (.ladd, 1) := by decide +kernel
theorem dX11_sumOfEntries_52 : decode cX11_sumOfEntries 52 = .ok (.lstore_n 3, 1) := by decide +kernel
theorem dX11_sumOfEntries_53 : decode cX11_sumOfEntries 53 = .ok (.iinc 5 1, 3) := by decide +kernel
theorem dX11_sumOfEntries_56 : decode cX11_sumOfEntries 56 = .ok (.goto (-51), 3) := by decide +kernel
theorem dX11_sumOfEntries_59 : decode cX11_sumOfEntries 59 = .ok (.lload_n 3, 1) := by decide +kernel
theorem dX11_sumOfEntries_60 : decode cX11_sumOfEntries 60 = .ok (.lreturn, 1) := by decide +kernel
theorem dX11_isHook_0 : decode cX11_isHook 0 = .ok (.iload_n 0, 1) := by decide +kernel
theorem dX11_isHook_1 : decode cX11_isHook 1 = .ok (.ifCond .lt 13, 3) := by decide +kernel
theorem dX11_isHook_4 : decode cX11_isHook 4 = .ok (.iload_n 0, 1) := by decide +kernel
theorem dX11_isHook_5 : decode cX11_isHook 5 = .ok (.bipush 6, 2) := by decide +kernel
theorem dX11_isHook_7 : decode cX11_isHook 7 = .ok (.if_icmp .ge 7, 3) := by decide +kernel
theorem dX11_isHook_10 : decode cX11_isHook 10 = .ok (.iconst 1, 1) := by decide +kernel
theorem dX11_isHook_11 : decode cX11_isHook 11 = .ok (.goto 4, 3) := by decide +kernel
theorem dX11_isHook_14 : decode cX11_isHook 14 = .ok (.iconst 0, 1) := by decide +kernel
theorem dX11_isHook_15 : decode cX11_isHook 15 = .ok (.ireturn, 1) := by decide +kernel
theorem dX11_rightOfHouse_0 : decode cX11_rightOfHouse 0 = .ok (.iload_n 0, 1) := by decide +kernel
theorem dX11_rightOfHouse_1 : decode cX11_rightOfHouse 1 = .ok (.ifCond .eq 8, 3) := by decide +kernel
theorem dX11_rightOfHouse_4 : decode cX11_rightOfHouse 4 = .ok (.iload_n 0, 1) := by decide +kernel
theorem dX11_rightOfHouse_5 : decode cX11_rightOfHouse 5 = .ok (.iconst 5, 1) := by decide +kernel
theorem dX11_rightOfHouse_6 : decode cX11_rightOfHouse 6 = .ok (.if_icmp .ne 5, 3) := by decide +kernel
theorem dX11_rightOfHouse_9 : decode cX11_rightOfHouse 9 = .ok (.iconst 0, 1) := by decide +kernel
theorem dX11_rightOfHouse_10 : decode cX11_rightOfHouse 10 = .ok (.ireturn, 1) := by decide +kernel
theorem dX11_rightOfHouse_11 : decode cX11_rightOfHouse 11 = .ok (.iload_n 0, 1) := by decide +kernel
theorem dX11_rightOfHouse_12 : decode cX11_rightOfHouse 12 = .ok (.iconst 4, 1) := by decide +kernel
theorem dX11_rightOfHouse_13 : decode cX11_rightOfHouse 13 = .ok (.if_icmp .ne 7, 3) := by decide +kernel
theorem dX11_rightOfHouse_16 : decode cX11_rightOfHouse 16 = .ok (.iconst 2, 1) := by decide +kernel
theorem dX11_rightOfHouse_17 : decode cX11_rightOfHouse 17 = .ok (.goto 4, 3) := by decide +kernel
theorem dX11_rightOfHouse_20 : decode cX11_rightOfHouse 20 = .ok (.iconst 1, 1) := by decide +kernel
theorem dX11_rightOfHouse_21 : decode cX11_rightOfHouse 21 = .ok (.ireturn, 1) := by decide +kernel
theorem dX11_addHouseAction_0 : decode cX11_addHouseAction 0 = .ok (.aload_n 0, 1) := by decide +kernel
theorem dX11_addHouseAction_1 : decode cX11_addHouseAction 1 = .ok (.ifnonnull 4, 3) := by decide +kernel
theorem dX11_addHouseAction_4 : decode cX11_addHouseAction 4 = .ok (.return_, 1) := by decide +kernel
theorem dX11_addHouseAction_5 : decode cX11_addHouseAction 5 = .ok (.new 288, 3) := by decide +kernel
theorem dX11_addHouseAction_8 : decode cX11_addHouseAction 8 = .ok (.dup, 1) := by decide +kernel
theorem dX11_addHouseAction_9 : decode cX11_addHouseAction 9 = .ok (.iload_n 1, 1) := by decide +kernel
theorem dX11_addHouseAction_10 : decode cX11_addHouseAction 10 = .ok (.iconst 0, 1) := by decide +kernel
theorem dX11_addHouseAction_11 : decode cX11_addHouseAction 11 = .ok (.invokespecial 290, 3) := by decide +kernel
theorem dX11_addHouseAction_14 : decode cX11_addHouseAction 14 = .ok (.astore_n 3, 1) := by decide +kernel
theorem dX11_addHouseAction_15 : decode cX11_addHouseAction 15 = .ok (.aload_n 3, 1) := by decide +kernel
theorem dX11_addHouseAction_16 : decode cX11_addHouseAction 16 = .ok (.iload_n 2, 1) := by decide +kernel
theorem dX11_addHouseAction_17 : decode cX11_addHouseAction 17 = .ok (.putfield 293, 3) := by decide +kernel
theorem dX11_addHouseAction_20 : decode cX11_addHouseAction 20 = .ok (.aload_n 0, 1) := by decide +kernel
theorem dX11_addHouseAction_21 : decode cX11_addHouseAction 21 = .ok (.getfield 294, 3) := by decide +kernel
theorem dX11_addHouseAction_24 : decode cX11_addHouseAction 24 = .ok (.ifnonnull 11, 3) := by decide +kernel
theorem dX11_addHouseAction_27 : decode cX11_addHouseAction 27 = .ok (.aload_n 0, 1) := by decide +kernel
theorem dX11_addHouseAction_28 : decode cX11_addHouseAction 28 = .ok (.aload_n 3, 1) := by decide +kernel
theorem dX11_addHouseAction_29 : decode cX11_addHouseAction 29 = .ok (.putfield 294, 3) := by decide +kernel
theorem dX11_addHouseAction_32 : decode cX11_addHouseAction 32 = .ok (.goto 11, 3) := by decide +kernel
theorem dX11_addHouseAction_35 : decode cX11_addHouseAction 35 = .ok (.aload_n 0, 1) := by decide +kernel
theorem dX11_addHouseAction_36 : decode cX11_addHouseAction 36 = .ok (.getfield 294, 3) := by decide +kernel
theorem dX11_addHouseAction_39 : decode cX11_addHouseAction 39 = .ok (.aload_n 3, 1) := by decide +kernel
theorem dX11_addHouseAction_40 : decode cX11_addHouseAction 40 = .ok (.putfield 298, 3) := by decide +kernel
theorem dX11_addHouseAction_43 : decode cX11_addHouseAction 43 = .ok (.aload_n 0, 1) := by decide +kernel
theorem dX11_addHouseAction_44 : decode cX11_addHouseAction 44 = .ok (.dup, 1) := by decide +kernel
theorem dX11_addHouseAction_45 : decode cX11_addHouseAction 45 = .ok (.getfield 173, 3) := by decide +kernel
theorem dX11_addHouseAction_48 : decode cX11_addHouseAction 48 = .ok (.iconst 1, 1) := by decide +kernel
theorem dX11_addHouseAction_49 : decode cX11_addHouseAction 49 = .ok (.iadd, 1) := by decide +kernel
theorem dX11_addHouseAction_50 : decode cX11_addHouseAction 50 = .ok (.putfield 173, 3) := by decide +kernel
theorem dX11_addHouseAction_53 : decode cX11_addHouseAction 53 = .ok (.return_, 1) := by decide +kernel
theorem dX11_spell_0 : decode cX11_spell 0 = .ok (.lconst 0, 1) := by decide +kernel
theorem dX11_spell_1 : decode cX11_spell 1 = .ok (.lstore_n 1, 1) := by decide +kernel
theorem dX11_spell_2 : decode cX11_spell 2 = .ok (.iconst 0, 1) := by decide +kernel
theorem dX11_spell_3 : decode cX11_spell 3 = .ok (.istore_n 3, 1) := by decide +kernel
theorem dX11_spell_4 : decode cX11_spell 4 = .ok (.iload_n 3, 1) := by decide +kernel
theorem dX11_spell_5 : decode cX11_spell 5 = .ok (.aload_n 0, 1) := by decide +kernel
theorem dX11_spell_6 : decode cX11_spell 6 = .ok (.invokevirtual 301, 3) := by decide +kernel
theorem dX11_spell_9 : decode cX11_spell 9 = .ok (.if_icmp .ge 19, 3) := by decide +kernel
theorem dX11_spell_12 : decode cX11_spell 12 = .ok (.lload_n 1, 1) := by decide +kernel
theorem dX11_spell_13 : decode cX11_spell 13 = .ok (.aload_n 0, 1) := by decide +kernel
theorem dX11_spell_14 : decode cX11_spell 14 = .ok (.iload_n 3, 1) := by decide +kernel
theorem dX11_spell_15 : decode cX11_spell 15 = .ok (.invokevirtual 306, 3) := by decide +kernel
theorem dX11_spell_18 : decode cX11_spell 18 = .ok (.invokestatic 310, 3) := by decide +kernel
theorem dX11_spell_21 : decode cX11_spell 21 = .ok (.lstore_n 1, 1) := by decide +kernel
theorem dX11_spell_22 : decode cX11_spell 22 = .ok (.iinc 3 1, 3) := by decide +kernel
theorem dX11_spell_25 : decode cX11_spell 25 = .ok (.goto (-21), 3) := by decide +kernel
theorem dX11_spell_28 : decode cX11_spell 28 = .ok (.lload_n 1, 1) := by decide +kernel
theorem dX11_spell_29 : decode cX11_spell 29 = .ok (.lreturn, 1) := by decide +kernel
theorem dX11_spelledOn_0 : decode cX11_spelledOn 0 = .ok (.lload_n 0, 1) := by decide +kernel
theorem dX11_spelledOn_1 : decode cX11_spelledOn 1 = .ok (.ldc2_w 314, 3) := by decide +kernel
theorem dX11_spelledOn_4 : decode cX11_spelledOn 4 = .ok (.lmul, 1) := by decide +kernel
theorem dX11_spelledOn_5 : decode cX11_spelledOn 5 = .ok (.iload_n 2, 1) := by decide +kernel
theorem dX11_spelledOn_6 : decode cX11_spelledOn 6 = .ok (.bipush 97, 2) := by decide +kernel
theorem dX11_spelledOn_8 : decode cX11_spelledOn 8 = .ok (.isub, 1) := by decide +kernel
theorem dX11_spelledOn_9 : decode cX11_spelledOn 9 = .ok (.iconst 1, 1) := by decide +kernel
theorem dX11_spelledOn_10 : decode cX11_spelledOn 10 = .ok (.iadd, 1) := by decide +kernel
theorem dX11_spelledOn_11 : decode cX11_spelledOn 11 = .ok (.i2l, 1) := by decide +kernel
theorem dX11_spelledOn_12 : decode cX11_spelledOn 12 = .ok (.ladd, 1) := by decide +kernel
theorem dX11_spelledOn_13 : decode cX11_spelledOn 13 = .ok (.lreturn, 1) := by decide +kernel
theorem dX12_init_0 : decode cX12_init 0 = .ok (.aload_n 0, 1) := by decide +kernel
theorem dX12_init_1 : decode cX12_init 1 = .ok (.invokespecial 1, 3) := by decide +kernel
theorem dX12_init_4 : decode cX12_init 4 = .ok (.aload_n 0, 1) := by decide +kernel
theorem dX12_init_5 : decode cX12_init 5 = .ok (.sipush 800, 3) := by decide +kernel
theorem dX12_init_8 : decode cX12_init 8 = .ok (.newarray .byte, 2) := by decide +kernel
theorem dX12_init_10 : decode cX12_init 10 = .ok (.putfield 9, 3) := by decide +kernel
theorem dX12_init_13 : decode cX12_init 13 = .ok (.aload_n 0, 1) := by decide +kernel
theorem dX12_init_14 : decode cX12_init 14 = .ok (.iconst 5, 1) := by decide +kernel
theorem dX12_init_15 : decode cX12_init 15 = .ok (.newarray .int, 2) := by decide +kernel
theorem dX12_init_17 : decode cX12_init 17 = .ok (.putfield 13, 3) := by decide +kernel
theorem dX12_init_20 : decode cX12_init 20 = .ok (.aload_n 0, 1) := by decide +kernel
theorem dX12_init_21 : decode cX12_init 21 = .ok (.bipush 50, 2) := by decide +kernel
theorem dX12_init_23 : decode cX12_init 23 = .ok (.anewarray 17, 3) := by decide +kernel
theorem dX12_init_26 : decode cX12_init 26 = .ok (.putfield 19, 3) := by decide +kernel
theorem dX12_init_29 : decode cX12_init 29 = .ok (.aload_n 0, 1) := by decide +kernel
theorem dX12_init_30 : decode cX12_init 30 = .ok (.bipush 50, 2) := by decide +kernel
theorem dX12_init_32 : decode cX12_init 32 = .ok (.newarray .int, 2) := by decide +kernel
theorem dX12_init_34 : decode cX12_init 34 = .ok (.putfield 23, 3) := by decide +kernel
theorem dX12_init_37 : decode cX12_init 37 = .ok (.aload_n 0, 1) := by decide +kernel
theorem dX12_init_38 : decode cX12_init 38 = .ok (.bipush 50, 2) := by decide +kernel
theorem dX12_init_40 : decode cX12_init 40 = .ok (.newarray .int, 2) := by decide +kernel
theorem dX12_init_42 : decode cX12_init 42 = .ok (.putfield 26, 3) := by decide +kernel
theorem dX12_init_45 : decode cX12_init 45 = .ok (.aload_n 0, 1) := by decide +kernel
theorem dX12_init_46 : decode cX12_init 46 = .ok (.bipush 50, 2) := by decide +kernel
theorem dX12_init_48 : decode cX12_init 48 = .ok (.newarray .int, 2) := by decide +kernel
theorem dX12_init_50 : decode cX12_init 50 = .ok (.putfield 29, 3) := by decide +kernel
theorem dX12_init_53 : decode cX12_init 53 = .ok (.aload_n 0, 1) := by decide +kernel
theorem dX12_init_54 : decode cX12_init 54 = .ok (.sipush 300, 3) := by decide +kernel
theorem dX12_init_57 : decode cX12_init 57 = .ok (.newarray .boolean, 2) := by decide +kernel
theorem dX12_init_59 : decode cX12_init 59 = .ok (.putfield 32, 3) := by decide +kernel
theorem dX12_init_62 : decode cX12_init 62 = .ok (.aload_n 0, 1) := by decide +kernel
theorem dX12_init_63 : decode cX12_init 63 = .ok (.sipush 300, 3) := by decide +kernel
theorem dX12_init_66 : decode cX12_init 66 = .ok (.newarray .int, 2) := by decide +kernel
theorem dX12_init_68 : decode cX12_init 68 = .ok (.putfield 36, 3) := by decide +kernel
theorem dX12_init_71 : decode cX12_init 71 = .ok (.aload_n 0, 1) := by decide +kernel
theorem dX12_init_72 : decode cX12_init 72 = .ok (.sipush 300, 3) := by decide +kernel
theorem dX12_init_75 : decode cX12_init 75 = .ok (.newarray .boolean, 2) := by decide +kernel
theorem dX12_init_77 : decode cX12_init 77 = .ok (.putfield 39, 3) := by decide +kernel
theorem dX12_init_80 : decode cX12_init 80 = .ok (.aload_n 0, 1) := by decide +kernel
theorem dX12_init_81 : decode cX12_init 81 = .ok (.sipush 300, 3) := by decide +kernel
theorem dX12_init_84 : decode cX12_init 84 = .ok (.newarray .int, 2) := by decide +kernel
theorem dX12_init_86 : decode cX12_init 86 = .ok (.putfield 42, 3) := by decide +kernel
theorem dX12_init_89 : decode cX12_init 89 = .ok (.aload_n 0, 1) := by decide +kernel
theorem dX12_init_90 : decode cX12_init 90 = .ok (.sipush 300, 3) := by decide +kernel
theorem dX12_init_93 : decode cX12_init 93 = .ok (.newarray .int, 2) := by decide +kernel
theorem dX12_init_95 : decode cX12_init 95 = .ok (.putfield 45, 3) := by decide +kernel
theorem dX12_init_98 : decode cX12_init 98 = .ok (.aload_n 0, 1) := by decide +kernel
theorem dX12_init_99 : decode cX12_init 99 = .ok (.sipush 4000, 3) := by decide +kernel
theorem dX12_init_102 : decode cX12_init 102 = .ok (.newarray .int, 2) := by decide +kernel
theorem dX12_init_104 : decode cX12_init 104 = .ok (.putfield 48, 3) := by decide +kernel
theorem dX12_init_107 : decode cX12_init 107 = .ok (.aload_n 0, 1) := by decide +kernel
theorem dX12_init_108 : decode cX12_init 108 = .ok (.sipush 4000, 3) := by decide +kernel
theorem dX12_init_111 : decode cX12_init 111 = .ok (.newarray .int, 2) := by decide +kernel
theorem dX12_init_113 : decode cX12_init 113 = .ok (.putfield 51, 3) := by decide +kernel
theorem dX12_init_116 : decode cX12_init 116 = .ok (.aload_n 0, 1) := by decide +kernel
theorem dX12_init_117 : decode cX12_init 117 = .ok (.sipush 4000, 3) := by decide +kernel
theorem dX12_init_120 : decode cX12_init 120 = .ok (.newarray .int, 2) := by decide +kernel
theorem dX12_init_122 : decode cX12_init 122 = .ok (.putfield 54, 3) := by decide +kernel
theorem dX12_init_125 : decode cX12_init 125 = .ok (.aload_n 0, 1) := by decide +kernel
theorem dX12_init_126 : decode cX12_init 126 = .ok (.sipush 4000, 3) := by decide +kernel
theorem dX12_init_129 : decode cX12_init 129 = .ok (.newarray .int, 2) := by decide +kernel
theorem dX12_init_131 : decode cX12_init 131 = .ok (.putfield 57, 3) := by decide +kernel
theorem dX12_init_134 : decode cX12_init 134 = .ok (.aload_n 0, 1) := by decide +kernel
theorem dX12_init_135 : decode cX12_init 135 = .ok (.sipush 4000, 3) := by decide +kernel
theorem dX12_init_138 : decode cX12_init 138 = .ok (.newarray .int, 2) := by decide +kernel
theorem dX12_init_140 : decode cX12_init 140 = .ok (.putfield 60, 3) := by decide +kernel
theorem dX12_init_143 : decode cX12_init 143 = .ok (.aload_n 0, 1) := by decide +kernel
theorem dX12_init_144 : decode cX12_init 144 = .ok (.bipush 12, 2) := by decide +kernel
theorem dX12_init_146 : decode cX12_init 146 = .ok (.anewarray 17, 3) := by decide +kernel
theorem dX12_init_149 : decode cX12_init 149 = .ok (.putfield 63, 3) := by decide +kernel
theorem dX12_init_152 : decode cX12_init 152 = .ok (.aload_n 0, 1) := by decide +kernel
theorem dX12_init_153 : decode cX12_init 153 = .ok (.bipush 12, 2) := by decide +kernel
theorem dX12_init_155 : decode cX12_init 155 = .ok (.newarray .int, 2) := by decide +kernel
theorem dX12_init_157 : decode cX12_init 157 = .ok (.putfield 66, 3) := by decide +kernel
theorem dX12_init_160 : decode cX12_init 160 = .ok (.aload_n 0, 1) := by decide +kernel
theorem dX12_init_161 : decode cX12_init 161 = .ok (.bipush 12, 2) := by decide +kernel
theorem dX12_init_163 : decode cX12_init 163 = .ok (.newarray .boolean, 2) := by decide +kernel
theorem dX12_init_165 : decode cX12_init 165 = .ok (.putfield 69, 3) := by decide +kernel
theorem dX12_init_168 : decode cX12_init 168 = .ok (.aload_n 0, 1) := by decide +kernel
theorem dX12_init_169 : decode cX12_init 169 = .ok (.iconst 1, 1) := by decide +kernel
theorem dX12_init_170 : decode cX12_init 170 = .ok (.putfield 72, 3) := by decide +kernel
theorem dX12_init_173 : decode cX12_init 173 = .ok (.aload_n 0, 1) := by decide +kernel
theorem dX12_init_174 : decode cX12_init 174 = .ok (.iconst (-1), 1) := by decide +kernel
theorem dX12_init_175 : decode cX12_init 175 = .ok (.putfield 76, 3) := by decide +kernel
theorem dX12_init_178 : decode cX12_init 178 = .ok (.aload_n 0, 1) := by decide +kernel
theorem dX12_init_179 : decode cX12_init 179 = .ok (.bipush 50, 2) := by decide +kernel
theorem dX12_init_181 : decode cX12_init 181 = .ok (.newarray .boolean, 2) := by decide +kernel
theorem dX12_init_183 : decode cX12_init 183 = .ok (.putfield 79, 3) := by decide +kernel
theorem dX12_init_186 : decode cX12_init 186 = .ok (.aload_n 0, 1) := by decide +kernel
theorem dX12_init_187 : decode cX12_init 187 = .ok (.bipush 10, 2) := by decide +kernel
theorem dX12_init_189 : decode cX12_init 189 = .ok (.newarray .int, 2) := by decide +kernel
theorem dX12_init_191 : decode cX12_init 191 = .ok (.putfield 82, 3) := by decide +kernel
theorem dX12_init_194 : decode cX12_init 194 = .ok (.aload_n 0, 1) := by decide +kernel
theorem dX12_init_195 : decode cX12_init 195 = .ok (.sipush 700, 3) := by decide +kernel
theorem dX12_init_198 : decode cX12_init 198 = .ok (.newarray .int, 2) := by decide +kernel
theorem dX12_init_200 : decode cX12_init 200 = .ok (.putfield 85, 3) := by decide +kernel
theorem dX12_init_203 : decode cX12_init 203 = .ok (.aload_n 0, 1) := by decide +kernel
theorem dX12_init_204 : decode cX12_init 204 = .ok (.sipush 700, 3) := by decide +kernel
theorem dX12_init_207 : decode cX12_init 207 = .ok (.newarray .int, 2) := by decide +kernel
theorem dX12_init_209 : decode cX12_init 209 = .ok (.putfield 88, 3) := by decide +kernel
theorem dX12_init_212 : decode cX12_init 212 = .ok (.aload_n 0, 1) := by decide +kernel
theorem dX12_init_213 : decode cX12_init 213 = .ok (.sipush 700, 3) := by decide +kernel
theorem dX12_init_216 : decode cX12_init 216 = .ok (.newarray .int, 2) := by decide +kernel
theorem dX12_init_218 : decode cX12_init 218 = .ok (.putfield 91, 3) := by decide +kernel
theorem dX12_init_221 : decode cX12_init 221 = .ok (.aload_n 0, 1) := by decide +kernel
theorem dX12_init_222 : decode cX12_init 222 = .ok (.sipush 700, 3) := by decide +kernel
theorem dX12_init_225 : decode cX12_init 225 = .ok (.newarray .int, 2) := by decide +kernel
theorem dX12_init_227 : decode cX12_init 227 = .ok (.putfield 94, 3) := by decide +kernel
theorem dX12_init_230 : decode cX12_init 230 = .ok (.aload_n 0, 1) := by decide +kernel
theorem dX12_init_231 : decode cX12_init 231 = .ok (.sipush 700, 3) := by decide +kernel
theorem dX12_init_234 : decode cX12_init 234 = .ok (.newarray .int, 2) := by decide +kernel
theorem dX12_init_236 : decode cX12_init 236 = .ok (.putfield 97, 3) := by decide +kernel
theorem dX12_init_239 : decode cX12_init 239 = .ok (.aload_n 0, 1) := by decide +kernel
theorem dX12_init_240 : decode cX12_init 240 = .ok (.sipush 700, 3) := by decide +kernel
theorem dX12_init_243 : decode cX12_init 243 = .ok (.newarray .int, 2) := by decide +kernel
theorem dX12_init_245 : decode cX12_init 245 = .ok (.putfield 100, 3) := by decide +kernel
theorem dX12_init_248 : decode cX12_init 248 = .ok (.aload_n 0, 1) := by decide +kernel
theorem dX12_init_249 : decode cX12_init 249 = .ok (.sipush 700, 3) := by decide +kernel
theorem dX12_init_252 : decode cX12_init 252 = .ok (.newarray .int, 2) := by decide +kernel
theorem dX12_init_254 : decode cX12_init 254 = .ok (.putfield 103, 3) := by decide +kernel
theorem dX12_init_257 : decode cX12_init 257 = .ok (.aload_n 0, 1) := by decide +kernel
theorem dX12_init_258 : decode cX12_init 258 = .ok (.sipush 700, 3) := by decide +kernel
theorem dX12_init_261 : decode cX12_init 261 = .ok (.newarray .int, 2) := by decide +kernel
theorem dX12_init_263 : decode cX12_init 263 = .ok (.putfield 106, 3) := by decide +kernel
theorem dX12_init_266 : decode cX12_init 266 = .ok (.aload_n 0, 1) := by decide +kernel
theorem dX12_init_267 : decode cX12_init 267 = .ok (.bipush 20, 2) := by decide +kernel
theorem dX12_init_269 : decode cX12_init 269 = .ok (.newarray .int, 2) := by decide +kernel
theorem dX12_init_271 : decode cX12_init 271 = .ok (.putfield 109, 3) := by decide +kernel
theorem dX12_init_274 : decode cX12_init 274 = .ok (.aload_n 0, 1) := by decide +kernel
theorem dX12_init_275 : decode cX12_init 275 = .ok (.bipush 20, 2) := by decide +kernel
theorem dX12_init_277 : decode cX12_init 277 = .ok (.newarray .int, 2) := by decide +kernel
theorem dX12_init_279 : decode cX12_init 279 = .ok (.putfield 112, 3) := by decide +kernel
theorem dX12_init_282 : decode cX12_init 282 = .ok (.aload_n 0, 1) := by decide +kernel
theorem dX12_init_283 : decode cX12_init 283 = .ok (.bipush 20, 2) := by decide +kernel
theorem dX12_init_285 : decode cX12_init 285 = .ok (.newarray .int, 2) := by decide +kernel
theorem dX12_init_287 : decode cX12_init 287 = .ok (.putfield 115, 3) := by decide +kernel
theorem dX12_init_290 : decode cX12_init 290 = .ok (.aload_n 0, 1) := by decide +kernel
theorem dX12_init_291 : decode cX12_init 291 = .ok (.bipush 20, 2) := by decide +kernel
theorem dX12_init_293 : decode cX12_init 293 = .ok (.newarray .int, 2) := by decide +kernel
theorem dX12_init_295 : decode cX12_init 295 = .ok (.putfield 118, 3) := by decide +kernel
theorem dX12_init_298 : decode cX12_init 298 = .ok (.aload_n 0, 1) := by decide +kernel
theorem dX12_init_299 : decode cX12_init 299 = .ok (.iconst 5, 1) := by decide +kernel
theorem dX12_init_300 : decode cX12_init 300 = .ok (.newarray .long, 2) := by decide +kernel
theorem dX12_init_302 : decode cX12_init 302 = .ok (.putfield 121, 3) := by decide +kernel
theorem dX12_init_305 : decode cX12_init 305 = .ok (.aload_n 0, 1) := by decide +kernel
theorem dX12_init_306 : decode cX12_init 306 = .ok (.sipush 600, 3) := by decide +kernel
theorem dX12_init_309 : decode cX12_init 309 = .ok (.newarray .int, 2) := by decide +kernel
theorem dX12_init_311 : decode cX12_init 311 = .ok (.putfield 125, 3) := by decide +kernel
theorem dX12_init_314 : decode cX12_init 314 = .ok (.aload_n 0, 1) := by decide +kernel
theorem dX12_init_315 : decode cX12_init 315 = .ok (.sipush 600, 3) := by decide +kernel
theorem dX12_init_318 : decode cX12_init 318 = .ok (.newarray .int, 2) := by decide +kernel
theorem dX12_init_320 : decode cX12_init 320 = .ok (.putfield 128, 3) := by decide +kernel
theorem dX12_init_323 : decode cX12_init 323 = .ok (.aload_n 0, 1) := by decide +kernel
theorem dX12_init_324 : decode cX12_init 324 = .ok (.sipush 600, 3) := by decide +kernel
theorem dX12_init_327 : decode cX12_init 327 = .ok (.newarray .int, 2) := by decide +kernel
theorem dX12_init_329 : decode cX12_init 329 = .ok (.putfield 131, 3) := by decide +kernel
theorem dX12_init_332 : decode cX12_init 332 = .ok (.aload_n 0, 1) := by decide +kernel
theorem dX12_init_333 : decode cX12_init 333 = .ok (.sipush 600, 3) := by decide +kernel
theorem dX12_init_336 : decode cX12_init 336 = .ok (.newarray .int, 2) := by decide +kernel
theorem dX12_init_338 : decode cX12_init 338 = .ok (.putfield 134, 3) := by decide +kernel
theorem dX12_init_341 : decode cX12_init 341 = .ok (.aload_n 0, 1) := by decide +kernel
theorem dX12_init_342 : decode cX12_init 342 = .ok (.sipush 2400, 3) := by decide +kernel
theorem dX12_init_345 : decode cX12_init 345 = .ok (.newarray .int, 2) := by decide +kernel
theorem dX12_init_347 : decode cX12_init 347 = .ok (.putfield 137, 3) := by decide +kernel
theorem dX12_init_350 : decode cX12_init 350 = .ok (.aload_n 0, 1) := by decide +kernel
theorem dX12_init_351 : decode cX12_init 351 = .ok (.sipush 3000, 3) := by decide +kernel
theorem dX12_init_354 : decode cX12_init 354 = .ok (.newarray .long, 2) := by decide +kernel
theorem dX12_init_356 : decode cX12_init 356 = .ok (.putfield 140, 3) := by decide +kernel
theorem dX12_init_359 : decode cX12_init 359 = .ok (.aload_n 0, 1) := by decide +kernel
theorem dX12_init_360 : decode cX12_init 360 = .ok (.sipush 500, 3) := by decide +kernel
theorem dX12_init_363 : decode cX12_init 363 = .ok (.newarray .int, 2) := by decide +kernel
theorem dX12_init_365 : decode cX12_init 365 = .ok (.putfield 143, 3) := by decide +kernel
theorem dX12_init_368 : decode cX12_init 368 = .ok (.aload_n 0, 1) := by decide +kernel
theorem dX12_init_369 : decode cX12_init 369 = .ok (.sipush 500, 3) := by decide +kernel
theorem dX12_init_372 : decode cX12_init 372 = .ok (.newarray .int, 2) := by decide +kernel
theorem dX12_init_374 : decode cX12_init 374 = .ok (.putfield 146, 3) := by decide +kernel
theorem dX12_init_377 : decode cX12_init 377 = .ok (.aload_n 0, 1) := by decide +kernel
theorem dX12_init_378 : decode cX12_init 378 = .ok (.sipush 500, 3) := by decide +kernel
theorem dX12_init_381 : decode cX12_init 381 = .ok (.newarray .int, 2) := by decide +kernel
theorem dX12_init_383 : decode cX12_init 383 = .ok (.putfield 149, 3) := by decide +kernel
theorem dX12_init_386 : decode cX12_init 386 = .ok (.aload_n 0, 1) := by decide +kernel
theorem dX12_init_387 : decode cX12_init 387 = .ok (.sipush 500, 3) := by decide +kernel
theorem dX12_init_390 : decode cX12_init 390 = .ok (.newarray .int, 2) := by decide +kernel
theorem dX12_init_392 : decode cX12_init 392 = .ok (.putfield 152, 3) := by decide +kernel
theorem dX12_init_395 : decode cX12_init 395 = .ok (.aload_n 0, 1) := by decide +kernel
theorem dX12_init_396 : decode cX12_init 396 = .ok (.ldc 155, 2) := by decide +kernel
theorem dX12_init_398 : decode cX12_init 398 = .ok (.iconst (-1), 1) := by decide +kernel
theorem dX12_init_399 : decode cX12_init 399 = .ok (.invokevirtual 157, 3) := by decide +kernel
theorem dX12_init_402 : decode cX12_init 402 = .ok (.iconst 0, 1) := by decide +kernel
theorem dX12_init_403 : decode cX12_init 403 = .ok (.istore_n 1, 1) := by decide +kernel
theorem dX12_init_404 : decode cX12_init 404 = .ok (.iload_n 1, 1) := by decide +kernel
theorem dX12_init_405 : decode cX12_init 405 = .ok (.bipush 6, 2) := by decide +kernel
theorem dX12_init_407 : decode cX12_init 407 = .ok (.if_icmp .ge 45, 3) := by decide +kernel
theorem dX12_init_410 : decode cX12_init 410 = .ok (.aload_n 0, 1) := by decide +kernel
theorem dX12_init_411 : decode cX12_init 411 = .ok (.iconst 0, 1) := by decide +kernel
theorem dX12_init_412 : decode cX12_init 412 = .ok (.iload_n 1, 1) := by decide +kernel
theorem dX12_init_413 : decode cX12_init 413 = .ok (.iload_n 1, 1) := by decide +kernel
theorem dX12_init_414 : decode cX12_init 414 = .ok (.ifCond .eq 8, 3) := by decide +kernel
theorem dX12_init_417 : decode cX12_init 417 = .ok (.iload_n 1, 1) := by decide +kernel
theorem dX12_init_418 : decode cX12_init 418 = .ok (.iconst 5, 1) := by decide +kernel
theorem dX12_init_419 : decode cX12_init 419 = .ok (.if_icmp .ne 7, 3) := by decide +kernel
theorem dX12_init_422 : decode cX12_init 422 = .ok (.iconst 0, 1) := by decide +kernel
theorem dX12_init_423 : decode cX12_init 423 = .ok (.goto 13, 3) := by decide +kernel
theorem dX12_init_426 : decode cX12_init 426 = .ok (.iload_n 1, 1) := by decide +kernel
theorem dX12_init_427 : decode cX12_init 427 = .ok (.iconst 4, 1) := by decide +kernel
theorem dX12_init_428 : decode cX12_init 428 = .ok (.if_icmp .ne 7, 3) := by decide +kernel
theorem dX12_init_431 : decode cX12_init 431 = .ok (.iconst 2, 1) := by decide +kernel
theorem dX12_init_432 : decode cX12_init 432 = .ok (.goto 4, 3) := by decide +kernel
theorem dX12_init_435 : decode cX12_init 435 = .ok (.iconst 1, 1) := by decide +kernel
theorem dX12_init_436 : decode cX12_init 436 = .ok (.iconst 0, 1) := by decide +kernel
theorem dX12_init_437 : decode cX12_init 437 = .ok (.aload_n 0, 1) := by decide +kernel
theorem dX12_init_438 : decode cX12_init 438 = .ok (.iload_n 1, 1) := by decide +kernel
theorem dX12_init_439 : decode cX12_init 439 = .ok (.invokevirtual 161, 3) := by decide +kernel
theorem dX12_init_442 : decode cX12_init 442 = .ok (.iconst 1, 1) := by decide +kernel
theorem dX12_init_443 : decode cX12_init 443 = .ok (.invokevirtual 165, 3) := by decide +kernel
theorem dX12_init_446 : decode cX12_init 446 = .ok (.iinc 1 1, 3) := by decide +kernel
theorem dX12_init_449 : decode cX12_init 449 = .ok (.goto (-45), 3) := by decide +kernel
theorem dX12_init_452 : decode cX12_init 452 = .ok (.aload_n 0, 1) := by decide +kernel
theorem dX12_init_453 : decode cX12_init 453 = .ok (.ldc 169, 2) := by decide +kernel
theorem dX12_init_455 : decode cX12_init 455 = .ok (.iconst 0, 1) := by decide +kernel
theorem dX12_init_456 : decode cX12_init 456 = .ok (.invokevirtual 157, 3) := by decide +kernel
theorem dX12_init_459 : decode cX12_init 459 = .ok (.aload_n 0, 1) := by decide +kernel
theorem dX12_init_460 : decode cX12_init 460 = .ok (.iconst 1, 1) := by decide +kernel
theorem dX12_init_461 : decode cX12_init 461 = .ok (.iconst 4, 1) := by decide +kernel
theorem dX12_init_462 : decode cX12_init 462 = .ok (.iconst 2, 1) := by decide +kernel
theorem dX12_init_463 : decode cX12_init 463 = .ok (.iconst 0, 1) := by decide +kernel
theorem dX12_init_464 : decode cX12_init 464 = .ok (.aload_n 0, 1) := by decide +kernel
theorem dX12_init_465 : decode cX12_init 465 = .ok (.aload_n 0, 1) := by decide +kernel
theorem dX12_init_466 : decode cX12_init 466 = .ok (.iconst 1, 1) := by decide +kernel
theorem dX12_init_467 : decode cX12_init 467 = .ok (.iconst 0, 1) := by decide +kernel
theorem dX12_init_468 : decode cX12_init 468 = .ok (.invokevirtual 171, 3) := by decide +kernel
theorem dX12_init_471 : decode cX12_init 471 = .ok (.aload_n 0, 1) := by decide +kernel
theorem dX12_init_472 : decode cX12_init 472 = .ok (.bipush 14, 2) := by decide +kernel
theorem dX12_init_474 : decode cX12_init 474 = .ok (.invokevirtual 161, 3) := by decide +kernel
theorem dX12_init_477 : decode cX12_init 477 = .ok (.invokevirtual 175, 3) := by decide +kernel
theorem dX12_init_480 : decode cX12_init 480 = .ok (.iconst 2, 1) := by decide +kernel
theorem dX12_init_481 : decode cX12_init 481 = .ok (.invokevirtual 165, 3) := by decide +kernel
theorem dX12_init_484 : decode cX12_init 484 = .ok (.aload_n 0, 1) := by decide +kernel
theorem dX12_init_485 : decode cX12_init 485 = .ok (.ldc 178, 2) := by decide +kernel
theorem dX12_init_487 : decode cX12_init 487 = .ok (.iconst 1, 1) := by decide +kernel
theorem dX12_init_488 : decode cX12_init 488 = .ok (.invokevirtual 157, 3) := by decide +kernel
theorem dX12_init_491 : decode cX12_init 491 = .ok (.aload_n 0, 1) := by decide +kernel
theorem dX12_init_492 : decode cX12_init 492 = .ok (.iconst 2, 1) := by decide +kernel
theorem dX12_init_493 : decode cX12_init 493 = .ok (.iconst 2, 1) := by decide +kernel
theorem dX12_init_494 : decode cX12_init 494 = .ok (.iconst 1, 1) := by decide +kernel
theorem dX12_init_495 : decode cX12_init 495 = .ok (.iconst 1, 1) := by decide +kernel
theorem dX12_init_496 : decode cX12_init 496 = .ok (.aload_n 0, 1) := by decide +kernel
theorem dX12_init_497 : decode cX12_init 497 = .ok (.aload_n 0, 1) := by decide +kernel
theorem dX12_init_498 : decode cX12_init 498 = .ok (.iconst 1, 1) := by decide +kernel
theorem dX12_init_499 : decode cX12_init 499 = .ok (.iconst 0, 1) := by decide +kernel
theorem dX12_init_500 : decode cX12_init 500 = .ok (.invokevirtual 171, 3) := by decide +kernel
theorem dX12_init_503 : decode cX12_init 503 = .ok (.aload_n 0, 1) := by decide +kernel
theorem dX12_init_504 : decode cX12_init 504 = .ok (.iconst 4, 1) := by decide +kernel
theorem dX12_init_505 : decode cX12_init 505 = .ok (.iconst 1, 1) := by decide +kernel
theorem dX12_init_506 : decode cX12_init 506 = .ok (.invokevirtual 171, 3) := by decide +kernel
theorem dX12_init_509 : decode cX12_init 509 = .ok (.invokevirtual 175, 3) := by decide +kernel
theorem dX12_init_512 : decode cX12_init 512 = .ok (.iconst 2, 1) := by decide +kernel
theorem dX12_init_513 : decode cX12_init 513 = .ok (.invokevirtual 165, 3) := by decide +kernel
theorem dX12_init_516 : decode cX12_init 516 = .ok (.return_, 1) := by decide +kernel
theorem dX12_begin_0 : decode cX12_begin 0 = .ok (.aload_n 0, 1) := by decide +kernel
theorem dX12_begin_1 : decode cX12_begin 1 = .ok (.getfield 19, 3) := by decide +kernel
theorem dX12_begin_4 : decode cX12_begin 4 = .ok (.aload_n 0, 1) := by decide +kernel
theorem dX12_begin_5 : decode cX12_begin 5 = .ok (.getfield 180, 3) := by decide +kernel
theorem dX12_begin_8 : decode cX12_begin 8 = .ok (.aload_n 1, 1) := by decide +kernel
theorem dX12_begin_9 : decode cX12_begin 9 = .ok (.aastore, 1) := by decide +kernel
theorem dX12_begin_10 : decode cX12_begin 10 = .ok (.aload_n 0, 1) := by decide +kernel
theorem dX12_begin_11 : decode cX12_begin 11 = .ok (.getfield 26, 3) := by decide +kernel
theorem dX12_begin_14 : decode cX12_begin 14 = .ok (.aload_n 0, 1) := by decide +kernel
theorem dX12_begin_15 : decode cX12_begin 15 = .ok (.getfield 180, 3) := by decide +kernel
theorem dX12_begin_18 : decode cX12_begin 18 = .ok (.iload_n 2, 1) := by decide +kernel
theorem dX12_begin_19 : decode cX12_begin 19 = .ok (.iastore, 1) := by decide +kernel
theorem dX12_begin_20 : decode cX12_begin 20 = .ok (.aload_n 0, 1) := by decide +kernel
theorem dX12_begin_21 : decode cX12_begin 21 = .ok (.getfield 29, 3) := by decide +kernel
theorem dX12_begin_24 : decode cX12_begin 24 = .ok (.aload_n 0, 1) := by decide +kernel
theorem dX12_begin_25 : decode cX12_begin 25 = .ok (.getfield 180, 3) := by decide +kernel
theorem dX12_begin_28 : decode cX12_begin 28 = .ok (.bipush (-7), 2) := by decide +kernel
theorem dX12_begin_30 : decode cX12_begin 30 = .ok (.iastore, 1) := by decide +kernel
theorem dX12_begin_31 : decode cX12_begin 31 = .ok (.aload_n 0, 1) := by decide +kernel
theorem dX12_begin_32 : decode cX12_begin 32 = .ok (.getfield 23, 3) := by decide +kernel
theorem dX12_begin_35 : decode cX12_begin 35 = .ok (.aload_n 0, 1) := by decide +kernel
theorem dX12_begin_36 : decode cX12_begin 36 = .ok (.getfield 180, 3) := by decide +kernel
theorem dX12_begin_39 : decode cX12_begin 39 = .ok (.iconst 0, 1) := by decide +kernel
theorem dX12_begin_40 : decode cX12_begin 40 = .ok (.iastore, 1) := by decide +kernel
theorem dX12_begin_41 : decode cX12_begin 41 = .ok (.aload_n 0, 1) := by decide +kernel
theorem dX12_begin_42 : decode cX12_begin 42 = .ok (.dup, 1) := by decide +kernel
theorem dX12_begin_43 : decode cX12_begin 43 = .ok (.getfield 180, 3) := by decide +kernel
theorem dX12_begin_46 : decode cX12_begin 46 = .ok (.iconst 1, 1) := by decide +kernel
theorem dX12_begin_47 : decode cX12_begin 47 = .ok (.iadd, 1) := by decide +kernel
theorem dX12_begin_48 : decode cX12_begin 48 = .ok (.putfield 180, 3) := by decide +kernel
theorem dX12_begin_51 : decode cX12_begin 51 = .ok (.return_, 1) := by decide +kernel
theorem dX12_body_0 : decode cX12_body 0 = .ok (.bipush 6, 2) := by decide +kernel
theorem dX12_body_2 : decode cX12_body 2 = .ok (.iload_n 1, 1) := by decide +kernel
theorem dX12_body_3 : decode cX12_body 3 = .ok (.imul, 1) := by decide +kernel
theorem dX12_body_4 : decode cX12_body 4 = .ok (.iload_n 2, 1) := by decide +kernel
theorem dX12_body_5 : decode cX12_body 5 = .ok (.iadd, 1) := by decide +kernel
theorem dX12_body_6 : decode cX12_body 6 = .ok (.istore 7, 2) := by decide +kernel
theorem dX12_body_8 : decode cX12_body 8 = .ok (.aload_n 0, 1) := by decide +kernel
theorem dX12_body_9 : decode cX12_body 9 = .ok (.getfield 32, 3) := by decide +kernel
theorem dX12_body_12 : decode cX12_body 12 = .ok (.iload 7, 2) := by decide +kernel
theorem dX12_body_14 : decode cX12_body 14 = .ok (.iconst 1, 1) := by decide +kernel
theorem dX12_body_15 : decode cX12_body 15 = .ok (.bastore, 1) := by decide +kernel
theorem dX12_body_16 : decode cX12_body 16 = .ok (.aload_n 0, 1) := by decide +kernel
theorem dX12_body_17 : decode cX12_body 17 = .ok (.getfield 36, 3) := by decide +kernel
theorem dX12_body_20 : decode cX12_body 20 = .ok (.iload 7, 2) := by decide +kernel
theorem dX12_body_22 : decode cX12_body 22 = .ok (.iload_n 3, 1) := by decide +kernel
theorem dX12_body_23 : decode cX12_body 23 = .ok (.iastore, 1) := by decide +kernel
theorem dX12_body_24 : decode cX12_body 24 = .ok (.aload_n 0, 1) := by decide +kernel
theorem dX12_body_25 : decode cX12_body 25 = .ok (.getfield 39, 3) := by decide +kernel
theorem dX12_body_28 : decode cX12_body 28 = .ok (.iload 7, 2) := by decide +kernel
theorem dX12_body_30 : decode cX12_body 30 = .ok (.iload 4, 2) := by decide +kernel
theorem dX12_body_32 : decode cX12_body 32 = .ok (.bastore, 1) := by decide +kernel
theorem dX12_body_33 : decode cX12_body 33 = .ok (.aload_n 0, 1) := by decide +kernel
theorem dX12_body_34 : decode cX12_body 34 = .ok (.getfield 42, 3) := by decide +kernel
theorem dX12_body_37 : decode cX12_body 37 = .ok (.iload 7, 2) := by decide +kernel
theorem dX12_body_39 : decode cX12_body 39 = .ok (.iload 5, 2) := by decide +kernel
theorem dX12_body_41 : decode cX12_body 41 = .ok (.iastore, 1) := by decide +kernel
theorem dX12_body_42 : decode cX12_body 42 = .ok (.aload_n 0, 1) := by decide +kernel
theorem dX12_body_43 : decode cX12_body 43 = .ok (.getfield 45, 3) := by decide +kernel
theorem dX12_body_46 : decode cX12_body 46 = .ok (.iload 7, 2) := by decide +kernel
theorem dX12_body_48 : decode cX12_body 48 = .ok (.iload 6, 2) := by decide +kernel
theorem dX12_body_50 : decode cX12_body 50 = .ok (.iastore, 1) := by decide +kernel
theorem dX12_body_51 : decode cX12_body 51 = .ok (.return_, 1) := by decide +kernel
theorem dX12_action_0 : decode cX12_action 0 = .ok (.aload_n 0, 1) := by decide +kernel
theorem dX12_action_1 : decode cX12_action 1 = .ok (.getfield 48, 3) := by decide +kernel
theorem dX12_action_4 : decode cX12_action 4 = .ok (.aload_n 0, 1) := by decide +kernel
theorem dX12_action_5 : decode cX12_action 5 = .ok (.getfield 183, 3) := by decide +kernel
theorem dX12_action_8 : decode cX12_action 8 = .ok (.iload_n 1, 1) := by decide +kernel
theorem dX12_action_9 : decode cX12_action 9 = .ok (.iastore, 1) := by decide +kernel
theorem dX12_action_10 : decode cX12_action 10 = .ok (.aload_n 0, 1) := by decide +kernel
theorem dX12_action_11 : decode cX12_action 11 = .ok (.getfield 51, 3) := by decide +kernel
theorem dX12_action_14 : decode cX12_action 14 = .ok (.aload_n 0, 1) := by decide +kernel
theorem dX12_action_15 : decode cX12_action 15 = .ok (.getfield 183, 3) := by decide +kernel
theorem dX12_action_18 : decode cX12_action 18 = .ok (.iload_n 2, 1) := by decide +kernel
theorem dX12_action_19 : decode cX12_action 19 = .ok (.iastore, 1) := by decide +kernel
theorem dX12_action_20 : decode cX12_action 20 = .ok (.aload_n 0, 1) := by decide +kernel
theorem dX12_action_21 : decode cX12_action 21 = .ok (.getfield 54, 3) := by decide +kernel
theorem dX12_action_24 : decode cX12_action 24 = .ok (.aload_n 0, 1) := by decide +kernel
theorem dX12_action_25 : decode cX12_action 25 = .ok (.getfield 183, 3) := by decide +kernel
theorem dX12_action_28 : decode cX12_action 28 = .ok (.iconst (-1), 1) := by decide +kernel
theorem dX12_action_29 : decode cX12_action 29 = .ok (.iastore, 1) := by decide +kernel
theorem dX12_action_30 : decode cX12_action 30 = .ok (.aload_n 0, 1) := by decide +kernel
theorem dX12_action_31 : decode cX12_action 31 = .ok (.getfield 57, 3) := by decide +kernel
theorem dX12_action_34 : decode cX12_action 34 = .ok (.aload_n 0, 1) := by decide +kernel
theorem dX12_action_35 : decode cX12_action 35 = .ok (.getfield 183, 3) := by decide +kernel
theorem dX12_action_38 : decode cX12_action 38 = .ok (.iconst (-1), 1) := by decide +kernel
theorem dX12_action_39 : decode cX12_action 39 = .ok (.iastore, 1) := by decide +kernel
theorem dX12_action_40 : decode cX12_action 40 = .ok (.aload_n 0, 1) := by decide +kernel
theorem dX12_action_41 : decode cX12_action 41 = .ok (.getfield 60, 3) := by decide +kernel
theorem dX12_action_44 : decode cX12_action 44 = .ok (.aload_n 0, 1) := by decide +kernel
theorem dX12_action_45 : decode cX12_action 45 = .ok (.getfield 183, 3) := by decide +kernel
theorem dX12_action_48 : decode cX12_action 48 = .ok (.iconst (-1), 1) := by decide +kernel
theorem dX12_action_49 : decode cX12_action 49 = .ok (.iastore, 1) := by decide +kernel
theorem dX12_action_50 : decode cX12_action 50 = .ok (.aload_n 0, 1) := by decide +kernel
theorem dX12_action_51 : decode cX12_action 51 = .ok (.dup, 1) := by decide +kernel
theorem dX12_action_52 : decode cX12_action 52 = .ok (.getfield 183, 3) := by decide +kernel
theorem dX12_action_55 : decode cX12_action 55 = .ok (.iconst 1, 1) := by decide +kernel
theorem dX12_action_56 : decode cX12_action 56 = .ok (.iadd, 1) := by decide +kernel
theorem dX12_action_57 : decode cX12_action 57 = .ok (.putfield 183, 3) := by decide +kernel
theorem dX12_action_60 : decode cX12_action 60 = .ok (.aload_n 0, 1) := by decide +kernel
theorem dX12_action_61 : decode cX12_action 61 = .ok (.getfield 183, 3) := by decide +kernel
theorem dX12_action_64 : decode cX12_action 64 = .ok (.iconst 1, 1) := by decide +kernel
theorem dX12_action_65 : decode cX12_action 65 = .ok (.isub, 1) := by decide +kernel
theorem dX12_action_66 : decode cX12_action 66 = .ok (.ireturn, 1) := by decide +kernel
theorem dX12_say_0 : decode cX12_say 0 = .ok (.aload_n 0, 1) := by decide +kernel
theorem dX12_say_1 : decode cX12_say 1 = .ok (.iconst 3, 1) := by decide +kernel
theorem dX12_say_2 : decode cX12_say 2 = .ok (.iload_n 1, 1) := by decide +kernel
theorem dX12_say_3 : decode cX12_say 3 = .ok (.invokevirtual 171, 3) := by decide +kernel
theorem dX12_say_6 : decode cX12_say 6 = .ok (.ireturn, 1) := by decide +kernel
theorem dX12_two_0 : decode cX12_two 0 = .ok (.aload_n 0, 1) := by decide +kernel
theorem dX12_two_1 : decode cX12_two 1 = .ok (.getfield 60, 3) := by decide +kernel
theorem dX12_two_4 : decode cX12_two 4 = .ok (.iload_n 1, 1) := by decide +kernel
theorem dX12_two_5 : decode cX12_two 5 = .ok (.iload_n 2, 1) := by decide +kernel
theorem dX12_two_6 : decode cX12_two 6 = .ok (.iastore, 1) := by decide +kernel
theorem dX12_two_7 : decode cX12_two 7 = .ok (.iload_n 1, 1) := by decide +kernel
theorem dX12_two_8 : decode cX12_two 8 = .ok (.ireturn, 1) := by decide +kernel
theorem dX12_answer_0 : decode cX12_answer 0 = .ok (.iload_n 1, 1) := by decide +kernel
theorem dX12_answer_1 : decode cX12_answer 1 = .ok (.ifCond .ge 14, 3) := by decide +kernel
theorem dX12_answer_4 : decode cX12_answer 4 = .ok (.aload_n 0, 1) := by decide +kernel
theorem dX12_answer_5 : decode cX12_answer 5 = .ok (.getfield 13, 3) := by decide +kernel
theorem dX12_answer_8 : decode cX12_answer 8 = .ok (.iload_n 1, 1) := by decide +kernel
theorem dX12_answer_9 : decode cX12_answer 9 = .ok (.ineg, 1) := by decide +kernel
theorem dX12_answer_10 : decode cX12_answer 10 = .ok (.dup2, 1) := by decide +kernel
theorem dX12_answer_11 : decode cX12_answer 11 = .ok (.iaload, 1) := by decide +kernel
theorem dX12_answer_12 : decode cX12_answer 12 = .ok (.iconst 1, 1) := by decide +kernel
theorem dX12_answer_13 : decode cX12_answer 13 = .ok (.iadd, 1) := by decide +kernel
theorem dX12_answer_14 : decode cX12_answer 14 = .ok (.iastore, 1) := by decide +kernel
theorem dX12_answer_15 : decode cX12_answer 15 = .ok (.iload_n 1, 1) := by decide +kernel
theorem dX12_answer_16 : decode cX12_answer 16 = .ok (.ireturn, 1) := by decide +kernel
theorem dX12_feed_0 : decode cX12_feed 0 = .ok (.iload_n 3, 1) := by decide +kernel
theorem dX12_feed_1 : decode cX12_feed 1 = .ok (.iconst 1, 1) := by decide +kernel
theorem dX12_feed_2 : decode cX12_feed 2 = .ok (.if_icmp .lt 21, 3) := by decide +kernel
theorem dX12_feed_5 : decode cX12_feed 5 = .ok (.iload_n 3, 1) := by decide +kernel
theorem dX12_feed_6 : decode cX12_feed 6 = .ok (.bipush 8, 2) := by decide +kernel
theorem dX12_feed_8 : decode cX12_feed 8 = .ok (.if_icmp .gt 15, 3) := by decide +kernel
theorem dX12_feed_11 : decode cX12_feed 11 = .ok (.aload_n 0, 1) := by decide +kernel
theorem dX12_feed_12 : decode cX12_feed 12 = .ok (.getfield 186, 3) := by decide +kernel
theorem dX12_feed_15 : decode cX12_feed 15 = .ok (.iload_n 3, 1) := by decide +kernel
theorem dX12_feed_16 : decode cX12_feed 16 = .ok (.iadd, 1) := by decide +kernel
theorem dX12_feed_17 : decode cX12_feed 17 = .ok (.sipush 800, 3) := by decide +kernel
theorem dX12_feed_20 : decode cX12_feed 20 = .ok (.if_icmp .le 25, 3) := by decide +kernel
theorem dX12_feed_23 : decode cX12_feed 23 = .ok (.aload_n 0, 1) := by decide +kernel
theorem dX12_feed_24 : decode cX12_feed 24 = .ok (.iload_n 3, 1) := by decide +kernel
theorem dX12_feed_25 : decode cX12_feed 25 = .ok (.iconst 1, 1) := by decide +kernel
theorem dX12_feed_26 : decode cX12_feed 26 = .ok (.if_icmp .lt 9, 3) := by decide +kernel
theorem dX12_feed_29 : decode cX12_feed 29 = .ok (.iload_n 3, 1) := by decide +kernel
theorem dX12_feed_30 : decode cX12_feed 30 = .ok (.bipush 8, 2) := by decide +kernel
theorem dX12_feed_32 : decode cX12_feed 32 = .ok (.if_icmp .le 7, 3) := by decide +kernel
theorem dX12_feed_35 : decode cX12_feed 35 = .ok (.iconst (-1), 1) := by decide +kernel
theorem dX12_feed_36 : decode cX12_feed 36 = .ok (.goto 5, 3) := by decide +kernel
theorem dX12_feed_39 : decode cX12_feed 39 = .ok (.bipush (-3), 2) := by decide +kernel
theorem dX12_feed_41 : decode cX12_feed 41 = .ok (.invokevirtual 189, 3) := by decide +kernel
theorem dX12_feed_44 : decode cX12_feed 44 = .ok (.ireturn, 1) := by decide +kernel
theorem dX12_feed_45 : decode cX12_feed 45 = .ok (.iconst 0, 1) := by decide +kernel
theorem dX12_feed_46 : decode cX12_feed 46 = .ok (.istore 4, 2) := by decide +kernel
theorem dX12_feed_48 : decode cX12_feed 48 = .ok (.iload 4, 2) := by decide +kernel
theorem dX12_feed_50 : decode cX12_feed 50 = .ok (.iload_n 3, 1) := by decide +kernel
theorem dX12_feed_51 : decode cX12_feed 51 = .ok (.if_icmp .ge 37, 3) := by decide +kernel
theorem dX12_feed_54 : decode cX12_feed 54 = .ok (.aload_n 0, 1) := by decide +kernel
theorem dX12_feed_55 : decode cX12_feed 55 = .ok (.getfield 9, 3) := by decide +kernel
theorem dX12_feed_58 : decode cX12_feed 58 = .ok (.aload_n 0, 1) := by decide +kernel
theorem dX12_feed_59 : decode cX12_feed 59 = .ok (.getfield 186, 3) := by decide +kernel
theorem dX12_feed_62 : decode cX12_feed 62 = .ok (.lload_n 1, 1) := by decide +kernel
theorem dX12_feed_63 : decode cX12_feed 63 = .ok (.bipush 8, 2) := by decide +kernel
theorem dX12_feed_65 : decode cX12_feed 65 = .ok (.iload 4, 2) := by decide +kernel
theorem dX12_feed_67 : decode cX12_feed 67 = .ok (.imul, 1) := by decide +kernel
theorem dX12_feed_68 : decode cX12_feed 68 = .ok (.lshr, 1) := by decide +kernel
theorem dX12_feed_69 : decode cX12_feed 69 = .ok (.l2i, 1) := by decide +kernel
theorem dX12_feed_70 : decode cX12_feed 70 = .ok (.i2b, 1) := by decide +kernel
theorem dX12_feed_71 : decode cX12_feed 71 = .ok (.bastore, 1) := by decide +kernel
theorem dX12_feed_72 : decode cX12_feed 72 = .ok (.aload_n 0, 1) := by decide +kernel
theorem dX12_feed_73 : decode cX12_feed 73 = .ok (.dup, 1) := by decide +kernel
theorem dX12_feed_74 : decode cX12_feed 74 = .ok (.getfield 186, 3) := by decide +kernel
theorem dX12_feed_77 : decode cX12_feed 77 = .ok (.iconst 1, 1) := by decide +kernel
theorem dX12_feed_78 : decode cX12_feed 78 = .ok (.iadd, 1) := by decide +kernel
theorem dX12_feed_79 : decode cX12_feed 79 = .ok (.putfield 186, 3) := by decide +kernel
theorem dX12_feed_82 : decode cX12_feed 82 = .ok (.iinc 4 1, 3) := by decide +kernel
theorem dX12_feed_85 : decode cX12_feed 85 = .ok (.goto (-37), 3) := by decide +kernel
theorem dX12_feed_88 : decode cX12_feed 88 = .ok (.aload_n 0, 1) := by decide +kernel
theorem dX12_feed_89 : decode cX12_feed 89 = .ok (.getfield 186, 3) := by decide +kernel
theorem dX12_feed_92 : decode cX12_feed 92 = .ok (.ireturn, 1) := by decide +kernel
theorem dX12_hasBody_0 : decode cX12_hasBody 0 = .ok (.aload_n 0, 1) := by decide +kernel
theorem dX12_hasBody_1 : decode cX12_hasBody 1 = .ok (.getfield 32, 3) := by decide +kernel
theorem dX12_hasBody_4 : decode cX12_hasBody 4 = .ok (.bipush 6, 2) := by decide +kernel
theorem dX12_hasBody_6 : decode cX12_hasBody 6 = .ok (.iload_n 1, 1) := by decide +kernel
theorem dX12_hasBody_7 : decode cX12_hasBody 7 = .ok (.imul, 1) := by decide +kernel
theorem dX12_hasBody_8 : decode cX12_hasBody 8 = .ok (.iload_n 2, 1) := by decide +kernel
theorem dX12_hasBody_9 : decode cX12_hasBody 9 = .ok (.iadd, 1) := by decide +kernel
theorem dX12_hasBody_10 : decode cX12_hasBody 10 = .ok (.baload, 1) := by decide +kernel
theorem dX12_hasBody_11 : decode cX12_hasBody 11 = .ok (.ireturn, 1) := by decide +kernel
theorem dX12_isUnder_0 : decode cX12_isUnder 0 = .ok (.aload_n 0, 1) := by decide +kernel
theorem dX12_isUnder_1 : decode cX12_isUnder 1 = .ok (.getfield 26, 3) := by decide +kernel
theorem dX12_isUnder_4 : decode cX12_isUnder 4 = .ok (.iload_n 1, 1) := by decide +kernel
theorem dX12_isUnder_5 : decode cX12_isUnder 5 = .ok (.iaload, 1) := by decide +kernel
theorem dX12_isUnder_6 : decode cX12_isUnder 6 = .ok (.istore_n 3, 1) := by decide +kernel
theorem dX12_isUnder_7 : decode cX12_isUnder 7 = .ok (.iload_n 3, 1) := by decide +kernel
theorem dX12_isUnder_8 : decode cX12_isUnder 8 = .ok (.ifCond .lt 18, 3) := by decide +kernel
theorem dX12_isUnder_11 : decode cX12_isUnder 11 = .ok (.iload_n 3, 1) := by decide +kernel
theorem dX12_isUnder_12 : decode cX12_isUnder 12 = .ok (.iload_n 2, 1) := by decide +kernel
theorem dX12_isUnder_13 : decode cX12_isUnder 13 = .ok (.if_icmp .eq 13, 3) := by decide +kernel
theorem dX12_isUnder_16 : decode cX12_isUnder 16 = .ok (.aload_n 0, 1) := by decide +kernel
theorem dX12_isUnder_17 : decode cX12_isUnder 17 = .ok (.getfield 26, 3) := by decide +kernel
theorem dX12_isUnder_20 : decode cX12_isUnder 20 = .ok (.iload_n 3, 1) := by decide +kernel
theorem dX12_isUnder_21 : decode cX12_isUnder 21 = .ok (.iaload, 1) := by decide +kernel
theorem dX12_isUnder_22 : decode cX12_isUnder 22 = .ok (.istore_n 3, 1) := by decide +kernel
theorem dX12_isUnder_23 : decode cX12_isUnder 23 = .ok (.goto (-16), 3) := by decide +kernel
theorem dX12_isUnder_26 : decode cX12_isUnder 26 = .ok (.iload_n 3, 1) := by decide +kernel
theorem dX12_isUnder_27 : decode cX12_isUnder 27 = .ok (.ifCond .lt 7, 3) := by decide +kernel
theorem dX12_isUnder_30 : decode cX12_isUnder 30 = .ok (.iconst 1, 1) := by decide +kernel
theorem dX12_isUnder_31 : decode cX12_isUnder 31 = .ok (.goto 4, 3) := by decide +kernel
theorem dX12_isUnder_34 : decode cX12_isUnder 34 = .ok (.iconst 0, 1) := by decide +kernel
theorem dX12_isUnder_35 : decode cX12_isUnder 35 = .ok (.ireturn, 1) := by decide +kernel
theorem dX12_maySee_0 : decode cX12_maySee 0 = .ok (.aload_n 0, 1) := by decide +kernel
theorem dX12_maySee_1 : decode cX12_maySee 1 = .ok (.getfield 36, 3) := by decide +kernel
theorem dX12_maySee_4 : decode cX12_maySee 4 = .ok (.bipush 6, 2) := by decide +kernel
theorem dX12_maySee_6 : decode cX12_maySee 6 = .ok (.iload_n 3, 1) := by decide +kernel
theorem dX12_maySee_7 : decode cX12_maySee 7 = .ok (.imul, 1) := by decide +kernel
theorem dX12_maySee_8 : decode cX12_maySee 8 = .ok (.iload_n 2, 1) := by decide +kernel
theorem dX12_maySee_9 : decode cX12_maySee 9 = .ok (.iadd, 1) := by decide +kernel
theorem dX12_maySee_10 : decode cX12_maySee 10 = .ok (.iaload, 1) := by decide +kernel
theorem dX12_maySee_11 : decode cX12_maySee 11 = .ok (.iconst 2, 1) := by decide +kernel
theorem dX12_maySee_12 : decode cX12_maySee 12 = .ok (.if_icmp .ne 18, 3) := by decide +kernel
theorem dX12_maySee_15 : decode cX12_maySee 15 = .ok (.aload_n 0, 1) := by decide +kernel
theorem dX12_maySee_16 : decode cX12_maySee 16 = .ok (.getfield 23, 3) := by decide +kernel
theorem dX12_maySee_19 : decode cX12_maySee 19 = .ok (.iload_n 1, 1) := by decide +kernel
theorem dX12_maySee_20 : decode cX12_maySee 20 = .ok (.iaload, 1) := by decide +kernel
theorem dX12_maySee_21 : decode cX12_maySee 21 = .ok (.aload_n 0, 1) := by decide +kernel
theorem dX12_maySee_22 : decode cX12_maySee 22 = .ok (.getfield 23, 3) := by decide +kernel
theorem dX12_maySee_25 : decode cX12_maySee 25 = .ok (.iload_n 3, 1) := by decide +kernel
theorem dX12_maySee_26 : decode cX12_maySee 26 = .ok (.iaload, 1) := by decide +kernel
theorem dX12_maySee_27 : decode cX12_maySee 27 = .ok (.if_icmp .ne 7, 3) := by decide +kernel
theorem dX12_maySee_30 : decode cX12_maySee 30 = .ok (.iconst 1, 1) := by decide +kernel
theorem dX12_maySee_31 : decode cX12_maySee 31 = .ok (.goto 4, 3) := by decide +kernel
theorem dX12_maySee_34 : decode cX12_maySee 34 = .ok (.iconst 0, 1) := by decide +kernel
theorem dX12_maySee_35 : decode cX12_maySee 35 = .ok (.ireturn, 1) := by decide +kernel
theorem dX12_isOver_0 : decode cX12_isOver 0 = .ok (.aload_n 0, 1) := by decide +kernel
theorem dX12_isOver_1 : decode cX12_isOver 1 = .ok (.iload_n 1, 1) := by decide +kernel
theorem dX12_isOver_2 : decode cX12_isOver 2 = .ok (.iload_n 3, 1) := by decide +kernel
theorem dX12_isOver_3 : decode cX12_isOver 3 = .ok (.invokevirtual 192, 3) := by decide +kernel
theorem dX12_isOver_6 : decode cX12_isOver 6 = .ok (.ifCond .eq 21, 3) := by decide +kernel
theorem dX12_isOver_9 : decode cX12_isOver 9 = .ok (.aload_n 0, 1) := by decide +kernel
theorem dX12_isOver_10 : decode cX12_isOver 10 = .ok (.iload_n 1, 1) := by decide +kernel
theorem dX12_isOver_11 : decode cX12_isOver 11 = .ok (.iload_n 2, 1) := by decide +kernel
theorem dX12_isOver_12 : decode cX12_isOver 12 = .ok (.invokevirtual 196, 3) := by decide +kernel
theorem dX12_isOver_15 : decode cX12_isOver 15 = .ok (.ifCond .eq 12, 3) := by decide +kernel
theorem dX12_isOver_18 : decode cX12_isOver 18 = .ok (.aload_n 0, 1) := by decide +kernel
theorem dX12_isOver_19 : decode cX12_isOver 19 = .ok (.iload_n 3, 1) := by decide +kernel
theorem dX12_isOver_20 : decode cX12_isOver 20 = .ok (.iload_n 2, 1) := by decide +kernel
theorem dX12_isOver_21 : decode cX12_isOver 21 = .ok (.invokevirtual 196, 3) := by decide +kernel
theorem dX12_isOver_24 : decode cX12_isOver 24 = .ok (.ifCond .ne 5, 3) := by decide +kernel
theorem dX12_isOver_27 : decode cX12_isOver 27 = .ok (.iconst 0, 1) := by decide +kernel
theorem dX12_isOver_28 : decode cX12_isOver 28 = .ok (.ireturn, 1) := by decide +kernel
theorem dX12_isOver_29 : decode cX12_isOver 29 = .ok (.iload_n 1, 1) := by decide +kernel
theorem dX12_isOver_30 : decode cX12_isOver 30 = .ok (.istore 4, 2) := by decide +kernel
theorem dX12_isOver_32 : decode cX12_isOver 32 = .ok (.iload 4, 2) := by decide +kernel
theorem dX12_isOver_34 : decode cX12_isOver 34 = .ok (.iload_n 3, 1) := by decide +kernel
theorem dX12_isOver_35 : decode cX12_isOver 35 = .ok (.if_icmp .eq 33, 3) := by decide +kernel
theorem dX12_isOver_38 : decode cX12_isOver 38 = .ok (.aload_n 0, 1) := by decide +kernel
theorem dX12_isOver_39 : decode cX12_isOver 39 = .ok (.getfield 79, 3) := by decide +kernel
theorem dX12_isOver_42 : decode cX12_isOver 42 = .ok (.iload 4, 2) := by decide +kernel
theorem dX12_isOver_44 : decode cX12_isOver 44 = .ok (.iload 4, 2) := by decide +kernel
theorem dX12_isOver_46 : decode cX12_isOver 46 = .ok (.iload_n 1, 1) := by decide +kernel
theorem dX12_isOver_47 : decode cX12_isOver 47 = .ok (.if_icmp .ne 7, 3) := by decide +kernel
theorem dX12_isOver_50 : decode cX12_isOver 50 = .ok (.iconst 1, 1) := by decide +kernel
theorem dX12_isOver_51 : decode cX12_isOver 51 = .ok (.goto 4, 3) := by decide +kernel
theorem dX12_isOver_54 : decode cX12_isOver 54 = .ok (.iconst 0, 1) := by decide +kernel
theorem dX12_isOver_55 : decode cX12_isOver 55 = .ok (.bastore, 1) := by decide +kernel
theorem dX12_isOver_56 : decode cX12_isOver 56 = .ok (.aload_n 0, 1) := by decide +kernel
theorem dX12_isOver_57 : decode cX12_isOver 57 = .ok (.getfield 26, 3) := by decide +kernel
theorem dX12_isOver_60 : decode cX12_isOver 60 = .ok (.iload 4, 2) := by decide +kernel
theorem dX12_isOver_62 : decode cX12_isOver 62 = .ok (.iaload, 1) := by decide +kernel
theorem dX12_isOver_63 : decode cX12_isOver 63 = .ok (.istore 4, 2) := by decide +kernel
theorem dX12_isOver_65 : decode cX12_isOver 65 = .ok (.goto (-33), 3) := by decide +kernel
theorem dX12_isOver_68 : decode cX12_isOver 68 = .ok (.aload_n 0, 1) := by decide +kernel
theorem dX12_isOver_69 : decode cX12_isOver 69 = .ok (.getfield 79, 3) := by decide +kernel
theorem dX12_isOver_72 : decode cX12_isOver 72 = .ok (.iload_n 3, 1) := by decide +kernel
theorem dX12_isOver_73 : decode cX12_isOver 73 = .ok (.iconst 0, 1) := by decide +kernel
theorem dX12_isOver_74 : decode cX12_isOver 74 = .ok (.bastore, 1) := by decide +kernel
theorem dX12_isOver_75 : decode cX12_isOver 75 = .ok (.iload_n 1, 1) := by decide +kernel
theorem dX12_isOver_76 : decode cX12_isOver 76 = .ok (.istore 4, 2) := by decide +kernel
theorem dX12_isOver_78 : decode cX12_isOver 78 = .ok (.iload 4, 2) := by decide +kernel
theorem dX12_isOver_80 : decode cX12_isOver 80 = .ok (.iload_n 3, 1) := by decide +kernel
theorem dX12_isOver_81 : decode cX12_isOver 81 = .ok (.if_icmp .eq 84, 3) := by decide +kernel
theorem dX12_isOver_84 : decode cX12_isOver 84 = .ok (.iload 4, 2) := by decide +kernel
theorem dX12_isOver_86 : decode cX12_isOver 86 = .ok (.istore 5, 2) := by decide +kernel
theorem dX12_isOver_88 : decode cX12_isOver 88 = .ok (.aload_n 0, 1) := by decide +kernel
theorem dX12_isOver_89 : decode cX12_isOver 89 = .ok (.getfield 79, 3) := by decide +kernel
theorem dX12_isOver_92 : decode cX12_isOver 92 = .ok (.iload 4, 2) := by decide +kernel
theorem dX12_isOver_94 : decode cX12_isOver 94 = .ok (.baload, 1) := by decide +kernel
theorem dX12_isOver_95 : decode cX12_isOver 95 = .ok (.ifCond .eq 58, 3) := by decide +kernel
theorem dX12_isOver_98 : decode cX12_isOver 98 = .ok (.iload 5, 2) := by decide +kernel
theorem dX12_isOver_100 : decode cX12_isOver 100 = .ok (.iload_n 3, 1) := by decide +kernel
theorem dX12_isOver_101 : decode cX12_isOver 101 = .ok (.if_icmp .eq 52, 3) := by decide +kernel
theorem dX12_isOver_104 : decode cX12_isOver 104 = .ok (.aload_n 0, 1) := by decide +kernel
theorem dX12_isOver_105 : decode cX12_isOver 105 = .ok (.getfield 26, 3) := by decide +kernel
theorem dX12_isOver_108 : decode cX12_isOver 108 = .ok (.iload 5, 2) := by decide +kernel
theorem dX12_isOver_110 : decode cX12_isOver 110 = .ok (.iaload, 1) := by decide +kernel
theorem dX12_isOver_111 : decode cX12_isOver 111 = .ok (.istore 5, 2) := by decide +kernel
theorem dX12_isOver_113 : decode cX12_isOver 113 = .ok (.aload_n 0, 1) := by decide +kernel
theorem dX12_isOver_114 : decode cX12_isOver 114 = .ok (.getfield 79, 3) := by decide +kernel
theorem dX12_isOver_117 : decode cX12_isOver 117 = .ok (.iload 5, 2) := by decide +kernel
theorem dX12_isOver_119 : decode cX12_isOver 119 = .ok (.dup2, 1) := by decide +kernel
theorem dX12_isOver_120 : decode cX12_isOver 120 = .ok (.baload, 1) := by decide +kernel
theorem dX12_isOver_121 : decode cX12_isOver 121 = .ok (.aload_n 0, 1) := by decide +kernel
theorem dX12_isOver_122 : decode cX12_isOver 122 = .ok (.iload 5, 2) := by decide +kernel
theorem dX12_isOver_124 : decode cX12_isOver 124 = .ok (.iload_n 2, 1) := by decide +kernel
theorem dX12_isOver_125 : decode cX12_isOver 125 = .ok (.invokevirtual 196, 3) := by decide +kernel
theorem dX12_isOver_128 : decode cX12_isOver 128 = .ok (.ifCond .eq 19, 3) := by decide +kernel
theorem dX12_isOver_131 : decode cX12_isOver 131 = .ok (.aload_n 0, 1) := by decide +kernel
theorem dX12_isOver_132 : decode cX12_isOver 132 = .ok (.iload 4, 2) := by decide +kernel
theorem dX12_isOver_134 : decode cX12_isOver 134 = .ok (.iload_n 2, 1) := by decide +kernel
theorem dX12_isOver_135 : decode cX12_isOver 135 = .ok (.iload 5, 2) := by decide +kernel
theorem dX12_isOver_137 : decode cX12_isOver 137 = .ok (.invokevirtual 199, 3) := by decide +kernel
theorem dX12_isOver_140 : decode cX12_isOver 140 = .ok (.ifCond .eq 7, 3) := by decide +kernel
theorem dX12_isOver_143 : decode cX12_isOver 143 = .ok (.iconst 1, 1) := by decide +kernel
theorem dX12_isOver_144 : decode cX12_isOver 144 = .ok (.goto 4, 3) := by decide +kernel
theorem dX12_isOver_147 : decode cX12_isOver 147 = .ok (.iconst 0, 1) := by decide +kernel
theorem dX12_isOver_148 : decode cX12_isOver 148 = .ok (.ior, 1) := by decide +kernel
theorem dX12_isOver_149 : decode cX12_isOver 149 = .ok (.bastore, 1) := by decide +kernel
theorem dX12_isOver_150 : decode cX12_isOver 150 = .ok (.goto (-62), 3) := by decide +kernel
theorem dX12_isOver_153 : decode cX12_isOver 153 = .ok (.aload_n 0, 1) := by decide +kernel
theorem dX12_isOver_154 : decode cX12_isOver 154 = .ok (.getfield 26, 3) := by decide +kernel
theorem dX12_isOver_157 : decode cX12_isOver 157 = .ok (.iload 4, 2) := by decide +kernel
theorem dX12_isOver_159 : decode cX12_isOver 159 = .ok (.iaload, 1) := by decide +kernel
theorem dX12_isOver_160 : decode cX12_isOver 160 = .ok (.istore 4, 2) := by decide +kernel
theorem dX12_isOver_162 : decode cX12_isOver 162 = .ok (.goto (-84), 3) := by decide +kernel
theorem dX12_isOver_165 : decode cX12_isOver 165 = .ok (.aload_n 0, 1) := by decide +kernel
theorem dX12_isOver_166 : decode cX12_isOver 166 = .ok (.getfield 79, 3) := by decide +kernel
theorem dX12_isOver_169 : decode cX12_isOver 169 = .ok (.iload_n 3, 1) := by decide +kernel
theorem dX12_isOver_170 : decode cX12_isOver 170 = .ok (.baload, 1) := by decide +kernel
theorem dX12_isOver_171 : decode cX12_isOver 171 = .ok (.ireturn, 1) := by decide +kernel
theorem dX12_choose_0 : decode cX12_choose 0 = .ok (.iload_n 3, 1) := by decide +kernel
theorem dX12_choose_1 : decode cX12_choose 1 = .ok (.istore 4, 2) := by decide +kernel
theorem dX12_choose_3 : decode cX12_choose 3 = .ok (.iload 4, 2) := by decide +kernel
theorem dX12_choose_5 : decode cX12_choose 5 = .ok (.iload_n 1, 1) := by decide +kernel
theorem dX12_choose_6 : decode cX12_choose 6 = .ok (.if_icmp .eq 36, 3) := by decide +kernel
theorem dX12_choose_9 : decode cX12_choose 9 = .ok (.aload_n 0, 1) := by decide +kernel
theorem dX12_choose_10 : decode cX12_choose 10 = .ok (.iload 4, 2) := by decide +kernel
theorem dX12_choose_12 : decode cX12_choose 12 = .ok (.iload_n 2, 1) := by decide +kernel
theorem dX12_choose_13 : decode cX12_choose 13 = .ok (.invokevirtual 196, 3) := by decide +kernel
theorem dX12_choose_16 : decode cX12_choose 16 = .ok (.ifCond .eq 14, 3) := by decide +kernel
theorem dX12_choose_19 : decode cX12_choose 19 = .ok (.aload_n 0, 1) := by decide +kernel
theorem dX12_choose_20 : decode cX12_choose 20 = .ok (.iload 4, 2) := by decide +kernel
theorem dX12_choose_22 : decode cX12_choose 22 = .ok (.iload_n 2, 1) := by decide +kernel
theorem dX12_choose_23 : decode cX12_choose 23 = .ok (.iload_n 1, 1) := by decide +kernel
theorem dX12_choose_24 : decode cX12_choose 24 = .ok (.invokevirtual 203, 3) := by decide +kernel
theorem dX12_choose_27 : decode cX12_choose 27 = .ok (.ifCond .ne 15, 3) := by decide +kernel
theorem dX12_choose_30 : decode cX12_choose 30 = .ok (.aload_n 0, 1) := by decide +kernel
theorem dX12_choose_31 : decode cX12_choose 31 = .ok (.getfield 26, 3) := by decide +kernel
theorem dX12_choose_34 : decode cX12_choose 34 = .ok (.iload 4, 2) := by decide +kernel
theorem dX12_choose_36 : decode cX12_choose 36 = .ok (.iaload, 1) := by decide +kernel
theorem dX12_choose_37 : decode cX12_choose 37 = .ok (.istore 4, 2) := by decide +kernel
theorem dX12_choose_39 : decode cX12_choose 39 = .ok (.goto (-36), 3) := by decide +kernel
theorem dX12_choose_42 : decode cX12_choose 42 = .ok (.iload 4, 2) := by decide +kernel
theorem dX12_choose_44 : decode cX12_choose 44 = .ok (.ireturn, 1) := by decide +kernel
theorem dX12_find_0 : decode cX12_find 0 = .ok (.iload_n 3, 1) := by decide +kernel
theorem dX12_find_1 : decode cX12_find 1 = .ok (.istore 4, 2) := by decide +kernel
theorem dX12_find_3 : decode cX12_find 3 = .ok (.iload 4, 2) := by decide +kernel
theorem dX12_find_5 : decode cX12_find 5 = .ok (.ifCond .lt 45, 3) := by decide +kernel
theorem dX12_find_8 : decode cX12_find 8 = .ok (.aload_n 0, 1) := by decide +kernel
theorem dX12_find_9 : decode cX12_find 9 = .ok (.iload 4, 2) := by decide +kernel
theorem dX12_find_11 : decode cX12_find 11 = .ok (.iload_n 2, 1) := by decide +kernel
theorem dX12_find_12 : decode cX12_find 12 = .ok (.invokevirtual 196, 3) := by decide +kernel
theorem dX12_find_15 : decode cX12_find 15 = .ok (.ifCond .eq 23, 3) := by decide +kernel
theorem dX12_find_18 : decode cX12_find 18 = .ok (.iload 4, 2) := by decide +kernel
theorem dX12_find_20 : decode cX12_find 20 = .ok (.iload_n 1, 1) := by decide +kernel
theorem dX12_find_21 : decode cX12_find 21 = .ok (.if_icmp .eq 14, 3) := by decide +kernel
theorem dX12_find_24 : decode cX12_find 24 = .ok (.aload_n 0, 1) := by decide +kernel
theorem dX12_find_25 : decode cX12_find 25 = .ok (.iload_n 1, 1) := by decide +kernel
theorem dX12_find_26 : decode cX12_find 26 = .ok (.iload_n 2, 1) := by decide +kernel
theorem dX12_find_27 : decode cX12_find 27 = .ok (.iload 4, 2) := by decide +kernel
theorem dX12_find_29 : decode cX12_find 29 = .ok (.invokevirtual 199, 3) := by decide +kernel
theorem dX12_find_32 : decode cX12_find 32 = .ok (.ifCond .eq 6, 3) := by decide +kernel
theorem dX12_find_35 : decode cX12_find 35 = .ok (.iload 4, 2) := by decide +kernel
theorem dX12_find_37 : decode cX12_find 37 = .ok (.ireturn, 1) := by decide +kernel
theorem dX12_find_38 : decode cX12_find 38 = .ok (.aload_n 0, 1) := by decide +kernel
theorem dX12_find_39 : decode cX12_find 39 = .ok (.getfield 26, 3) := by decide +kernel
theorem dX12_find_42 : decode cX12_find 42 = .ok (.iload 4, 2) := by decide +kernel
theorem dX12_find_44 : decode cX12_find 44 = .ok (.iaload, 1) := by decide +kernel
theorem dX12_find_45 : decode cX12_find 45 = .ok (.istore 4, 2) := by decide +kernel
theorem dX12_find_47 : decode cX12_find 47 = .ok (.goto (-44), 3) := by decide +kernel
theorem dX12_find_50 : decode cX12_find 50 = .ok (.iconst (-1), 1) := by decide +kernel
theorem dX12_find_51 : decode cX12_find 51 = .ok (.ireturn, 1) := by decide +kernel
theorem dX12_byteAt_0 : decode cX12_byteAt 0 = .ok (.iload_n 1, 1) := by decide +kernel
theorem dX12_byteAt_1 : decode cX12_byteAt 1 = .ok (.aload_n 0, 1) := by decide +kernel
theorem dX12_byteAt_2 : decode cX12_byteAt 2 = .ok (.getfield 186, 3) := by decide +kernel
theorem dX12_byteAt_5 : decode cX12_byteAt 5 = .ok (.if_icmp .ge 16, 3) := by decide +kernel
theorem dX12_byteAt_8 : decode cX12_byteAt 8 = .ok (.aload_n 0, 1) := by decide +kernel
theorem dX12_byteAt_9 : decode cX12_byteAt 9 = .ok (.getfield 9, 3) := by decide +kernel
theorem dX12_byteAt_12 : decode cX12_byteAt 12 = .ok (.iload_n 1, 1) := by decide +kernel
theorem dX12_byteAt_13 : decode cX12_byteAt 13 = .ok (.baload, 1) := by decide +kernel
theorem dX12_byteAt_14 : decode cX12_byteAt 14 = .ok (.sipush 255, 3) := by decide +kernel
theorem dX12_byteAt_17 : decode cX12_byteAt 17 = .ok (.iand, 1) := by decide +kernel
theorem dX12_byteAt_18 : decode cX12_byteAt 18 = .ok (.goto 4, 3) := by decide +kernel
theorem dX12_byteAt_21 : decode cX12_byteAt 21 = .ok (.iconst (-1), 1) := by decide +kernel
theorem dX12_byteAt_22 : decode cX12_byteAt 22 = .ok (.ireturn, 1) := by decide +kernel
theorem dX12_isLetter_0 : decode cX12_isLetter 0 = .ok (.iload_n 0, 1) := by decide +kernel
theorem dX12_isLetter_1 : decode cX12_isLetter 1 = .ok (.bipush 97, 2) := by decide +kernel
theorem dX12_isLetter_3 : decode cX12_isLetter 3 = .ok (.if_icmp .lt 13, 3) := by decide +kernel
theorem dX12_isLetter_6 : decode cX12_isLetter 6 = .ok (.iload_n 0, 1) := by decide +kernel
theorem dX12_isLetter_7 : decode cX12_isLetter 7 = .ok (.bipush 122, 2) := by decide +kernel
theorem dX12_isLetter_9 : decode cX12_isLetter 9 = .ok (.if_icmp .gt 7, 3) := by decide +kernel
theorem dX12_isLetter_12 : decode cX12_isLetter 12 = .ok (.iconst 1, 1) := by decide +kernel
theorem dX12_isLetter_13 : decode cX12_isLetter 13 = .ok (.goto 4, 3) := by decide +kernel
theorem dX12_isLetter_16 : decode cX12_isLetter 16 = .ok (.iconst 0, 1) := by decide +kernel
theorem dX12_isLetter_17 : decode cX12_isLetter 17 = .ok (.ireturn, 1) := by decide +kernel
theorem dX12_isFigure_0 : decode cX12_isFigure 0 = .ok (.iload_n 0, 1) := by decide +kernel
theorem dX12_isFigure_1 : decode cX12_isFigure 1 = .ok (.bipush 48, 2) := by decide +kernel
theorem dX12_isFigure_3 : decode cX12_isFigure 3 = .ok (.if_icmp .lt 13, 3) := by decide +kernel
theorem dX12_isFigure_6 : decode cX12_isFigure 6 = .ok (.iload_n 0, 1) := by decide +kernel
theorem dX12_isFigure_7 : decode cX12_isFigure 7 = .ok (.bipush 57, 2) := by decide +kernel
theorem dX12_isFigure_9 : decode cX12_isFigure 9 = .ok (.if_icmp .gt 7, 3) := by decide +kernel
theorem dX12_isFigure_12 : decode cX12_isFigure 12 = .ok (.iconst 1, 1) := by decide +kernel
theorem dX12_isFigure_13 : decode cX12_isFigure 13 = .ok (.goto 4, 3) := by decide +kernel
theorem dX12_isFigure_16 : decode cX12_isFigure 16 = .ok (.iconst 0, 1) := by decide +kernel
theorem dX12_isFigure_17 : decode cX12_isFigure 17 = .ok (.ireturn, 1) := by decide +kernel
theorem dX12_word_0 : decode cX12_word 0 = .ok (.aload_n 0, 1) := by decide +kernel
theorem dX12_word_1 : decode cX12_word 1 = .ok (.aload_n 0, 1) := by decide +kernel
theorem dX12_word_2 : decode cX12_word 2 = .ok (.getfield 206, 3) := by decide +kernel
theorem dX12_word_5 : decode cX12_word 5 = .ok (.invokevirtual 209, 3) := by decide +kernel
theorem dX12_word_8 : decode cX12_word 8 = .ok (.bipush 10, 2) := by decide +kernel
theorem dX12_word_10 : decode cX12_word 10 = .ok (.if_icmp .eq 16, 3) := by decide +kernel
theorem dX12_word_13 : decode cX12_word 13 = .ok (.aload_n 0, 1) := by decide +kernel
theorem dX12_word_14 : decode cX12_word 14 = .ok (.aload_n 0, 1) := by decide +kernel
theorem dX12_word_15 : decode cX12_word 15 = .ok (.getfield 206, 3) := by decide +kernel
theorem dX12_word_18 : decode cX12_word 18 = .ok (.invokevirtual 209, 3) := by decide +kernel
theorem dX12_word_21 : decode cX12_word 21 = .ok (.bipush 32, 2) := by decide +kernel
theorem dX12_word_23 : decode cX12_word 23 = .ok (.if_icmp .ne 16, 3) := by decide +kernel
theorem dX12_word_26 : decode cX12_word 26 = .ok (.aload_n 0, 1) := by decide +kernel
theorem dX12_word_27 : decode cX12_word 27 = .ok (.dup, 1) := by decide +kernel
theorem dX12_word_28 : decode cX12_word 28 = .ok (.getfield 206, 3) := by decide +kernel
theorem dX12_word_31 : decode cX12_word 31 = .ok (.iconst 1, 1) := by decide +kernel
theorem dX12_word_32 : decode cX12_word 32 = .ok (.iadd, 1) := by decide +kernel
theorem dX12_word_33 : decode cX12_word 33 = .ok (.putfield 206, 3) := by decide +kernel
theorem dX12_word_36 : decode cX12_word 36 = .ok (.goto (-36), 3) := by decide +kernel
theorem dX12_word_39 : decode cX12_word 39 = .ok (.aload_n 0, 1) := by decide +kernel
theorem dX12_word_40 : decode cX12_word 40 = .ok (.aload_n 0, 1) := by decide +kernel
theorem dX12_word_41 : decode cX12_word 41 = .ok (.getfield 206, 3) := by decide +kernel
theorem dX12_word_44 : decode cX12_word 44 = .ok (.putfield 212, 3) := by decide +kernel
theorem dX12_word_47 : decode cX12_word 47 = .ok (.aload_n 0, 1) := by decide +kernel
theorem dX12_word_48 : decode cX12_word 48 = .ok (.aload_n 0, 1) := by decide +kernel
theorem dX12_word_49 : decode cX12_word 49 = .ok (.getfield 206, 3) := by decide +kernel
theorem dX12_word_52 : decode cX12_word 52 = .ok (.invokevirtual 209, 3) := by decide +kernel
theorem dX12_word_55 : decode cX12_word 55 = .ok (.istore_n 1, 1) := by decide +kernel
theorem dX12_word_56 : decode cX12_word 56 = .ok (.aload_n 0, 1) := by decide +kernel
theorem dX12_word_57 : decode cX12_word 57 = .ok (.getfield 206, 3) := by decide +kernel
theorem dX12_word_60 : decode cX12_word 60 = .ok (.istore_n 2, 1) := by decide +kernel
theorem dX12_word_61 : decode cX12_word 61 = .ok (.aload_n 0, 1) := by decide +kernel
theorem dX12_word_62 : decode cX12_word 62 = .ok (.iload_n 1, 1) := by decide +kernel
theorem dX12_word_63 : decode cX12_word 63 = .ok (.ifCond .ge 7, 3) := by decide +kernel
theorem dX12_word_66 : decode cX12_word 66 = .ok (.iconst 0, 1) := by decide +kernel
theorem dX12_word_67 : decode cX12_word 67 = .ok (.goto 4, 3) := by decide +kernel
theorem dX12_word_70 : decode cX12_word 70 = .ok (.iconst 1, 1) := by decide +kernel
theorem dX12_word_71 : decode cX12_word 71 = .ok (.putfield 215, 3) := by decide +kernel
theorem dX12_word_74 : decode cX12_word 74 = .ok (.iload_n 1, 1) := by decide +kernel
theorem dX12_word_75 : decode cX12_word 75 = .ok (.invokestatic 218, 3) := by decide +kernel
theorem dX12_word_78 : decode cX12_word 78 = .ok (.ifCond .eq 43, 3) := by decide +kernel
theorem dX12_word_81 : decode cX12_word 81 = .ok (.aload_n 0, 1) := by decide +kernel
theorem dX12_word_82 : decode cX12_word 82 = .ok (.iload_n 2, 1) := by decide +kernel
theorem dX12_word_83 : decode cX12_word 83 = .ok (.invokevirtual 209, 3) := by decide +kernel
theorem dX12_word_86 : decode cX12_word 86 = .ok (.invokestatic 218, 3) := by decide +kernel
theorem dX12_word_89 : decode cX12_word 89 = .ok (.ifCond .eq 9, 3) := by decide +kernel
theorem dX12_word_92 : decode cX12_word 92 = .ok (.iinc 2 1, 3) := by decide +kernel
theorem dX12_word_95 : decode cX12_word 95 = .ok (.goto (-14), 3) := by decide +kernel
theorem dX12_word_98 : decode cX12_word 98 = .ok (.aload_n 0, 1) := by decide +kernel
theorem dX12_word_99 : decode cX12_word 99 = .ok (.iload_n 2, 1) := by decide +kernel
theorem dX12_word_100 : decode cX12_word 100 = .ok (.aload_n 0, 1) := by decide +kernel
theorem dX12_word_101 : decode cX12_word 101 = .ok (.getfield 206, 3) := by decide +kernel
theorem dX12_word_104 : decode cX12_word 104 = .ok (.isub, 1) := by decide +kernel
theorem dX12_word_105 : decode cX12_word 105 = .ok (.bipush 8, 2) := by decide +kernel
theorem dX12_word_107 : decode cX12_word 107 = .ok (.if_icmp .gt 7, 3) := by decide +kernel
theorem dX12_word_110 : decode cX12_word 110 = .ok (.iconst 2, 1) := by decide +kernel
theorem dX12_word_111 : decode cX12_word 111 = .ok (.goto 4, 3) := by decide +kernel
theorem dX12_word_114 : decode cX12_word 114 = .ok (.iconst 1, 1) := by decide +kernel
theorem dX12_word_115 : decode cX12_word 115 = .ok (.putfield 215, 3) := by decide +kernel
theorem dX12_word_118 : decode cX12_word 118 = .ok (.goto 79, 3) := by decide +kernel
theorem dX12_word_121 : decode cX12_word 121 = .ok (.iload_n 1, 1) := by decide +kernel
theorem dX12_word_122 : decode cX12_word 122 = .ok (.invokestatic 222, 3) := by decide +kernel
theorem dX12_word_125 : decode cX12_word 125 = .ok (.ifCond .eq 42, 3) := by decide +kernel
theorem dX12_word_128 : decode cX12_word 128 = .ok (.aload_n 0, 1) := by decide +kernel
theorem dX12_word_129 : decode cX12_word 129 = .ok (.iload_n 2, 1) := by decide +kernel
theorem dX12_word_130 : decode cX12_word 130 = .ok (.invokevirtual 209, 3) := by decide +kernel
theorem dX12_word_133 : decode cX12_word 133 = .ok (.invokestatic 222, 3) := by decide +kernel
theorem dX12_word_136 : decode cX12_word 136 = .ok (.ifCond .eq 9, 3) := by decide +kernel
theorem dX12_word_139 : decode cX12_word 139 = .ok (.iinc 2 1, 3) := by decide +kernel
theorem dX12_word_142 : decode cX12_word 142 = .ok (.goto (-14), 3) := by decide +kernel
theorem dX12_word_145 : decode cX12_word 145 = .ok (.aload_n 0, 1) := by decide +kernel
theorem dX12_word_146 : decode cX12_word 146 = .ok (.iload_n 2, 1) := by decide +kernel
theorem dX12_word_147 : decode cX12_word 147 = .ok (.aload_n 0, 1) := by decide +kernel
theorem dX12_word_148 : decode cX12_word 148 = .ok (.getfield 206, 3) := by decide +kernel
theorem dX12_word_151 : decode cX12_word 151 = .ok (.isub, 1) := by decide +kernel
theorem dX12_word_152 : decode cX12_word 152 = .ok (.iconst 3, 1) := by decide +kernel
theorem dX12_word_153 : decode cX12_word 153 = .ok (.if_icmp .gt 7, 3) := by decide +kernel
theorem dX12_word_156 : decode cX12_word 156 = .ok (.iconst 3, 1) := by decide +kernel
theorem dX12_word_157 : decode cX12_word 157 = .ok (.goto 4, 3) := by decide +kernel
theorem dX12_word_160 : decode cX12_word 160 = .ok (.iconst 1, 1) := by decide +kernel
theorem dX12_word_161 : decode cX12_word 161 = .ok (.putfield 215, 3) := by decide +kernel
theorem dX12_word_164 : decode cX12_word 164 = .ok (.goto 33, 3) := by decide +kernel
theorem dX12_word_167 : decode cX12_word 167 = .ok (.iload_n 1, 1) := by decide +kernel
theorem dX12_word_168 : decode cX12_word 168 = .ok (.bipush 123, 2) := by decide +kernel
theorem dX12_word_170 : decode cX12_word 170 = .ok (.if_icmp .eq 15, 3) := by decide +kernel
theorem dX12_word_173 : decode cX12_word 173 = .ok (.iload_n 1, 1) := by decide +kernel
theorem dX12_word_174 : decode cX12_word 174 = .ok (.bipush 125, 2) := by decide +kernel
theorem dX12_word_176 : decode cX12_word 176 = .ok (.if_icmp .eq 9, 3) := by decide +kernel
theorem dX12_word_179 : decode cX12_word 179 = .ok (.iload_n 1, 1) := by decide +kernel
theorem dX12_word_180 : decode cX12_word 180 = .ok (.bipush 59, 2) := by decide +kernel
theorem dX12_word_182 : decode cX12_word 182 = .ok (.if_icmp .ne 15, 3) := by decide +kernel
theorem dX12_word_185 : decode cX12_word 185 = .ok (.aload_n 0, 1) := by decide +kernel
theorem dX12_word_186 : decode cX12_word 186 = .ok (.getfield 206, 3) := by decide +kernel
theorem dX12_word_189 : decode cX12_word 189 = .ok (.iconst 1, 1) := by decide +kernel
theorem dX12_word_190 : decode cX12_word 190 = .ok (.iadd, 1) := by decide +kernel
theorem dX12_word_191 : decode cX12_word 191 = .ok (.istore_n 2, 1) := by decide +kernel
theorem dX12_word_192 : decode cX12_word 192 = .ok (.aload_n 0, 1) := by decide +kernel
theorem dX12_word_193 : decode cX12_word 193 = .ok (.iconst 4, 1) := by decide +kernel
theorem dX12_word_194 : decode cX12_word 194 = .ok (.putfield 215, 3) := by decide +kernel
theorem dX12_word_197 : decode cX12_word 197 = .ok (.aload_n 0, 1) := by decide +kernel
theorem dX12_word_198 : decode cX12_word 198 = .ok (.aload_n 0, 1) := by decide +kernel
theorem dX12_word_199 : decode cX12_word 199 = .ok (.getfield 215, 3) := by decide +kernel
theorem dX12_word_202 : decode cX12_word 202 = .ok (.iconst 1, 1) := by decide +kernel
theorem dX12_word_203 : decode cX12_word 203 = .ok (.if_icmp .ne 10, 3) := by decide +kernel
theorem dX12_word_206 : decode cX12_word 206 = .ok (.aload_n 0, 1) := by decide +kernel
theorem dX12_word_207 : decode cX12_word 207 = .ok (.getfield 206, 3) := by decide +kernel
theorem dX12_word_210 : decode cX12_word 210 = .ok (.goto 4, 3) := by decide +kernel
theorem dX12_word_213 : decode cX12_word 213 = .ok (.iload_n 2, 1) := by decide +kernel
theorem dX12_word_214 : decode cX12_word 214 = .ok (.putfield 225, 3) := by decide +kernel
theorem dX12_word_217 : decode cX12_word 217 = .ok (.aload_n 0, 1) := by decide +kernel
theorem dX12_word_218 : decode cX12_word 218 = .ok (.aload_n 0, 1) := by decide +kernel
theorem dX12_word_219 : decode cX12_word 219 = .ok (.getfield 225, 3) := by decide +kernel
theorem dX12_word_222 : decode cX12_word 222 = .ok (.putfield 206, 3) := by decide +kernel
theorem dX12_word_225 : decode cX12_word 225 = .ok (.return_, 1) := by decide +kernel
theorem dX12_told_0 : decode cX12_told 0 = .ok (.new 228, 3) := by decide +kernel
theorem dX12_told_3 : decode cX12_told 3 = .ok (.dup, 1) := by decide +kernel
theorem dX12_told_4 : decode cX12_told 4 = .ok (.invokespecial 230, 3) := by decide +kernel
theorem dX12_told_7 : decode cX12_told 7 = .ok (.astore_n 1, 1) := by decide +kernel
theorem dX12_told_8 : decode cX12_told 8 = .ok (.aload_n 0, 1) := by decide +kernel
theorem dX12_told_9 : decode cX12_told 9 = .ok (.getfield 212, 3) := by decide +kernel
theorem dX12_told_12 : decode cX12_told 12 = .ok (.istore_n 2, 1) := by decide +kernel
theorem dX12_told_13 : decode cX12_told 13 = .ok (.iload_n 2, 1) := by decide +kernel
theorem dX12_told_14 : decode cX12_told 14 = .ok (.aload_n 0, 1) := by decide +kernel
theorem dX12_told_15 : decode cX12_told 15 = .ok (.getfield 225, 3) := by decide +kernel
theorem dX12_told_18 : decode cX12_told 18 = .ok (.if_icmp .ge 21, 3) := by decide +kernel
theorem dX12_told_21 : decode cX12_told 21 = .ok (.aload_n 1, 1) := by decide +kernel
theorem dX12_told_22 : decode cX12_told 22 = .ok (.aload_n 0, 1) := by decide +kernel
theorem dX12_told_23 : decode cX12_told 23 = .ok (.getfield 9, 3) := by decide +kernel
theorem dX12_told_26 : decode cX12_told 26 = .ok (.iload_n 2, 1) := by decide +kernel
theorem dX12_told_27 : decode cX12_told 27 = .ok (.baload, 1) := by decide +kernel
theorem dX12_told_28 : decode cX12_told 28 = .ok (.i2c, 1) := by decide +kernel
theorem dX12_told_29 : decode cX12_told 29 = .ok (.invokevirtual 231, 3) := by decide +kernel
theorem dX12_told_32 : decode cX12_told 32 = .ok (.pop, 1) := by decide +kernel
theorem dX12_told_33 : decode cX12_told 33 = .ok (.iinc 2 1, 3) := by decide +kernel
theorem dX12_told_36 : decode cX12_told 36 = .ok (.goto (-23), 3) := by decide +kernel
theorem dX12_told_39 : decode cX12_told 39 = .ok (.aload_n 1, 1) := by decide +kernel
theorem dX12_told_40 : decode cX12_told 40 = .ok (.invokevirtual 235, 3) := by decide +kernel
theorem dX12_told_43 : decode cX12_told 43 = .ok (.areturn, 1) := by decide +kernel
theorem dX12_is_0 : decode cX12_is 0 = .ok (.aload_n 0, 1) := by decide +kernel
theorem dX12_is_1 : decode cX12_is 1 = .ok (.getfield 215, 3) := by decide +kernel
theorem dX12_is_4 : decode cX12_is 4 = .ok (.iconst 2, 1) := by decide +kernel
theorem dX12_is_5 : decode cX12_is 5 = .ok (.if_icmp .eq 11, 3) := by decide +kernel
theorem dX12_is_8 : decode cX12_is 8 = .ok (.aload_n 0, 1) := by decide +kernel
theorem dX12_is_9 : decode cX12_is 9 = .ok (.getfield 215, 3) := by decide +kernel
theorem dX12_is_12 : decode cX12_is 12 = .ok (.iconst 4, 1) := by decide +kernel
theorem dX12_is_13 : decode cX12_is 13 = .ok (.if_icmp .ne 23, 3) := by decide +kernel
theorem dX12_is_16 : decode cX12_is 16 = .ok (.aload_n 1, 1) := by decide +kernel
theorem dX12_is_17 : decode cX12_is 17 = .ok (.invokevirtual 239, 3) := by decide +kernel
theorem dX12_is_20 : decode cX12_is 20 = .ok (.aload_n 0, 1) := by decide +kernel
theorem dX12_is_21 : decode cX12_is 21 = .ok (.getfield 225, 3) := by decide +kernel
theorem dX12_is_24 : decode cX12_is 24 = .ok (.aload_n 0, 1) := by decide +kernel
theorem dX12_is_25 : decode cX12_is 25 = .ok (.getfield 212, 3) := by decide +kernel
theorem dX12_is_28 : decode cX12_is 28 = .ok (.isub, 1) := by decide +kernel
theorem dX12_is_29 : decode cX12_is 29 = .ok (.if_icmp .ne 7, 3) := by decide +kernel
theorem dX12_is_32 : decode cX12_is 32 = .ok (.iconst 1, 1) := by decide +kernel
theorem dX12_is_33 : decode cX12_is 33 = .ok (.goto 4, 3) := by decide +kernel
theorem dX12_is_36 : decode cX12_is 36 = .ok (.iconst 0, 1) := by decide +kernel
theorem dX12_is_37 : decode cX12_is 37 = .ok (.istore_n 2, 1) := by decide +kernel
theorem dX12_is_38 : decode cX12_is 38 = .ok (.aload_n 0, 1) := by decide +kernel
theorem dX12_is_39 : decode cX12_is 39 = .ok (.getfield 212, 3) := by decide +kernel
theorem dX12_is_42 : decode cX12_is 42 = .ok (.istore_n 3, 1) := by decide +kernel
theorem dX12_is_43 : decode cX12_is 43 = .ok (.iload_n 3, 1) := by decide +kernel
theorem dX12_is_44 : decode cX12_is 44 = .ok (.aload_n 0, 1) := by decide +kernel
theorem dX12_is_45 : decode cX12_is 45 = .ok (.getfield 225, 3) := by decide +kernel
theorem dX12_is_48 : decode cX12_is 48 = .ok (.if_icmp .ge 38, 3) := by decide +kernel
theorem dX12_is_51 : decode cX12_is 51 = .ok (.iload_n 2, 1) := by decide +kernel
theorem dX12_is_52 : decode cX12_is 52 = .ok (.ifCond .eq 34, 3) := by decide +kernel
theorem dX12_is_55 : decode cX12_is 55 = .ok (.aload_n 1, 1) := by decide +kernel
theorem dX12_is_56 : decode cX12_is 56 = .ok (.iload_n 3, 1) := by decide +kernel
theorem dX12_is_57 : decode cX12_is 57 = .ok (.aload_n 0, 1) := by decide +kernel
theorem dX12_is_58 : decode cX12_is 58 = .ok (.getfield 212, 3) := by decide +kernel
theorem dX12_is_61 : decode cX12_is 61 = .ok (.isub, 1) := by decide +kernel
theorem dX12_is_62 : decode cX12_is 62 = .ok (.invokevirtual 243, 3) := by decide +kernel
theorem dX12_is_65 : decode cX12_is 65 = .ok (.aload_n 0, 1) := by decide +kernel
theorem dX12_is_66 : decode cX12_is 66 = .ok (.getfield 9, 3) := by decide +kernel
theorem dX12_is_69 : decode cX12_is 69 = .ok (.iload_n 3, 1) := by decide +kernel
theorem dX12_is_70 : decode cX12_is 70 = .ok (.baload, 1) := by decide +kernel
theorem dX12_is_71 : decode cX12_is 71 = .ok (.if_icmp .ne 7, 3) := by decide +kernel
theorem dX12_is_74 : decode cX12_is 74 = .ok (.iconst 1, 1) := by decide +kernel
theorem dX12_is_75 : decode cX12_is 75 = .ok (.goto 4, 3) := by decide +kernel
theorem dX12_is_78 : decode cX12_is 78 = .ok (.iconst 0, 1) := by decide +kernel
theorem dX12_is_79 : decode cX12_is 79 = .ok (.istore_n 2, 1) := by decide +kernel
theorem dX12_is_80 : decode cX12_is 80 = .ok (.iinc 3 1, 3) := by decide +kernel
theorem dX12_is_83 : decode cX12_is 83 = .ok (.goto (-40), 3) := by decide +kernel
theorem dX12_is_86 : decode cX12_is 86 = .ok (.iload_n 2, 1) := by decide +kernel
theorem dX12_is_87 : decode cX12_is 87 = .ok (.ireturn, 1) := by decide +kernel
theorem dX12_isName_0 : decode cX12_isName 0 = .ok (.aload_n 0, 1) := by decide +kernel
theorem dX12_isName_1 : decode cX12_isName 1 = .ok (.getfield 215, 3) := by decide +kernel
theorem dX12_isName_4 : decode cX12_isName 4 = .ok (.iconst 2, 1) := by decide +kernel
theorem dX12_isName_5 : decode cX12_isName 5 = .ok (.if_icmp .ne 42, 3) := by decide +kernel
theorem dX12_isName_8 : decode cX12_isName 8 = .ok (.ldc 247, 2) := by decide +kernel
theorem dX12_isName_10 : decode cX12_isName 10 = .ok (.new 228, 3) := by decide +kernel
theorem dX12_isName_13 : decode cX12_isName 13 = .ok (.dup, 1) := by decide +kernel
theorem dX12_isName_14 : decode cX12_isName 14 = .ok (.invokespecial 230, 3) := by decide +kernel
theorem dX12_isName_17 : decode cX12_isName 17 = .ok (.ldc 249, 2) := by decide +kernel
theorem dX12_isName_19 : decode cX12_isName 19 = .ok (.invokevirtual 251, 3) := by decide +kernel
theorem dX12_isName_22 : decode cX12_isName 22 = .ok (.aload_n 0, 1) := by decide +kernel
theorem dX12_isName_23 : decode cX12_isName 23 = .ok (.invokevirtual 254, 3) := by decide +kernel
theorem dX12_isName_26 : decode cX12_isName 26 = .ok (.invokevirtual 251, 3) := by decide +kernel
theorem dX12_isName_29 : decode cX12_isName 29 = .ok (.ldc 249, 2) := by decide +kernel
theorem dX12_isName_31 : decode cX12_isName 31 = .ok (.invokevirtual 251, 3) := by decide +kernel
theorem dX12_isName_34 : decode cX12_isName 34 = .ok (.invokevirtual 235, 3) := by decide +kernel
theorem dX12_isName_37 : decode cX12_isName 37 = .ok (.invokevirtual 257, 3) := by decide +kernel
theorem dX12_isName_40 : decode cX12_isName 40 = .ok (.ifCond .ge 7, 3) := by decide +kernel
theorem dX12_isName_43 : decode cX12_isName 43 = .ok (.iconst 1, 1) := by decide +kernel
theorem dX12_isName_44 : decode cX12_isName 44 = .ok (.goto 4, 3) := by decide +kernel
theorem dX12_isName_47 : decode cX12_isName 47 = .ok (.iconst 0, 1) := by decide +kernel
theorem dX12_isName_48 : decode cX12_isName 48 = .ok (.ireturn, 1) := by decide +kernel
theorem dX12_hook_0 : decode cX12_hook 0 = .ok (.aload_n 0, 1) := by decide +kernel
theorem dX12_hook_1 : decode cX12_hook 1 = .ok (.ldc_w 261, 3) := by decide +kernel
theorem dX12_hook_4 : decode cX12_hook 4 = .ok (.invokevirtual 263, 3) := by decide +kernel
theorem dX12_hook_7 : decode cX12_hook 7 = .ok (.ifCond .eq 7, 3) := by decide +kernel
theorem dX12_hook_10 : decode cX12_hook 10 = .ok (.iconst 0, 1) := by decide +kernel
theorem dX12_hook_11 : decode cX12_hook 11 = .ok (.goto 74, 3) := by decide +kernel
theorem dX12_hook_14 : decode cX12_hook 14 = .ok (.aload_n 0, 1) := by decide +kernel
theorem dX12_hook_15 : decode cX12_hook 15 = .ok (.ldc_w 267, 3) := by decide +kernel
theorem dX12_hook_18 : decode cX12_hook 18 = .ok (.invokevirtual 263, 3) := by decide +kernel
theorem dX12_hook_21 : decode cX12_hook 21 = .ok (.ifCond .eq 7, 3) := by decide +kernel
theorem dX12_hook_24 : decode cX12_hook 24 = .ok (.iconst 1, 1) := by decide +kernel
theorem dX12_hook_25 : decode cX12_hook 25 = .ok (.goto 60, 3) := by decide +kernel
theorem dX12_hook_28 : decode cX12_hook 28 = .ok (.aload_n 0, 1) := by decide +kernel
theorem dX12_hook_29 : decode cX12_hook 29 = .ok (.ldc_w 269, 3) := by decide +kernel
theorem dX12_hook_32 : decode cX12_hook 32 = .ok (.invokevirtual 263, 3) := by decide +kernel
theorem dX12_hook_35 : decode cX12_hook 35 = .ok (.ifCond .eq 7, 3) := by decide +kernel
theorem dX12_hook_38 : decode cX12_hook 38 = .ok (.iconst 2, 1) := by decide +kernel
theorem dX12_hook_39 : decode cX12_hook 39 = .ok (.goto 46, 3) := by decide +kernel
theorem dX12_hook_42 : decode cX12_hook 42 = .ok (.aload_n 0, 1) := by decide +kernel
theorem dX12_hook_43 : decode cX12_hook 43 = .ok (.ldc_w 271, 3) := by decide +kernel
theorem dX12_hook_46 : decode cX12_hook 46 = .ok (.invokevirtual 263, 3) := by decide +kernel
theorem dX12_hook_49 : decode cX12_hook 49 = .ok (.ifCond .eq 7, 3) := by decide +kernel
theorem dX12_hook_52 : decode cX12_hook 52 = .ok (.iconst 3, 1) := by decide +kernel
theorem dX12_hook_53 : decode cX12_hook 53 = .ok (.goto 32, 3) := by decide +kernel
theorem dX12_hook_56 : decode cX12_hook 56 = .ok (.aload_n 0, 1) := by decide +kernel
theorem dX12_hook_57 : decode cX12_hook 57 = .ok (.ldc_w 273, 3) := by decide +kernel
theorem dX12_hook_60 : decode cX12_hook 60 = .ok (.invokevirtual 263, 3) := by decide +kernel
theorem dX12_hook_63 : decode cX12_hook 63 = .ok (.ifCond .eq 7, 3) := by decide +kernel
theorem dX12_hook_66 : decode cX12_hook 66 = .ok (.iconst 4, 1) := by decide +kernel
theorem dX12_hook_67 : decode cX12_hook 67 = .ok (.goto 18, 3) := by decide +kernel
theorem dX12_hook_70 : decode cX12_hook 70 = .ok (.aload_n 0, 1) := by decide +kernel
theorem dX12_hook_71 : decode cX12_hook 71 = .ok (.ldc_w 275, 3) := by decide +kernel
theorem dX12_hook_74 : decode cX12_hook 74 = .ok (.invokevirtual 263, 3) := by decide +kernel
theorem dX12_hook_77 : decode cX12_hook 77 = .ok (.ifCond .eq 7, 3) := by decide +kernel
theorem dX12_hook_80 : decode cX12_hook 80 = .ok (.iconst 5, 1) := by decide +kernel
theorem dX12_hook_81 : decode cX12_hook 81 = .ok (.goto 4, 3) := by decide +kernel
theorem dX12_hook_84 : decode cX12_hook 84 = .ok (.iconst (-1), 1) := by decide +kernel
theorem dX12_hook_85 : decode cX12_hook 85 = .ok (.ireturn, 1) := by decide +kernel
theorem dX12_fails_0 : decode cX12_fails 0 = .ok (.aload_n 0, 1) := by decide +kernel
theorem dX12_fails_1 : decode cX12_fails 1 = .ok (.getfield 277, 3) := by decide +kernel
theorem dX12_fails_4 : decode cX12_fails 4 = .ok (.ifCond .eq 13, 3) := by decide +kernel
theorem dX12_fails_7 : decode cX12_fails 7 = .ok (.aload_n 0, 1) := by decide +kernel
theorem dX12_fails_8 : decode cX12_fails 8 = .ok (.iconst 0, 1) := by decide +kernel
theorem dX12_fails_9 : decode cX12_fails 9 = .ok (.putfield 277, 3) := by decide +kernel
theorem dX12_fails_12 : decode cX12_fails 12 = .ok (.aload_n 0, 1) := by decide +kernel
theorem dX12_fails_13 : decode cX12_fails 13 = .ok (.iload_n 1, 1) := by decide +kernel
theorem dX12_fails_14 : decode cX12_fails 14 = .ok (.putfield 76, 3) := by decide +kernel
theorem dX12_fails_17 : decode cX12_fails 17 = .ok (.iconst 0, 1) := by decide +kernel
theorem dX12_fails_18 : decode cX12_fails 18 = .ok (.ireturn, 1) := by decide +kernel
theorem dX12_take_0 : decode cX12_take 0 = .ok (.aload_n 0, 1) := by decide +kernel
theorem dX12_take_1 : decode cX12_take 1 = .ok (.aload_n 1, 1) := by decide +kernel
theorem dX12_take_2 : decode cX12_take 2 = .ok (.invokevirtual 263, 3) := by decide +kernel
theorem dX12_take_5 : decode cX12_take 5 = .ok (.ifCond .ne 12, 3) := by decide +kernel
theorem dX12_take_8 : decode cX12_take 8 = .ok (.aload_n 0, 1) := by decide +kernel
theorem dX12_take_9 : decode cX12_take 9 = .ok (.aload_n 0, 1) := by decide +kernel
theorem dX12_take_10 : decode cX12_take 10 = .ok (.getfield 212, 3) := by decide +kernel
theorem dX12_take_13 : decode cX12_take 13 = .ok (.invokevirtual 281, 3) := by decide +kernel
theorem dX12_take_16 : decode cX12_take 16 = .ok (.ireturn, 1) := by decide +kernel
theorem dX12_take_17 : decode cX12_take 17 = .ok (.aload_n 0, 1) := by decide +kernel
theorem dX12_take_18 : decode cX12_take 18 = .ok (.invokevirtual 284, 3) := by decide +kernel
theorem dX12_take_21 : decode cX12_take 21 = .ok (.iconst 1, 1) := by decide +kernel
theorem dX12_take_22 : decode cX12_take 22 = .ok (.ireturn, 1) := by decide +kernel
theorem dX12_rank_0 : decode cX12_rank 0 = .ok (.iload_n 0, 1) := by decide +kernel
theorem dX12_rank_1 : decode cX12_rank 1 = .ok (.iconst 5, 1) := by decide +kernel
theorem dX12_rank_2 : decode cX12_rank 2 = .ok (.if_icmp .ne 7, 3) := by decide +kernel
theorem dX12_rank_5 : decode cX12_rank 5 = .ok (.iconst 4, 1) := by decide +kernel
theorem dX12_rank_6 : decode cX12_rank 6 = .ok (.goto 13, 3) := by decide +kernel
theorem dX12_rank_9 : decode cX12_rank 9 = .ok (.iload_n 0, 1) := by decide +kernel
theorem dX12_rank_10 : decode cX12_rank 10 = .ok (.iconst 4, 1) := by decide +kernel
theorem dX12_rank_11 : decode cX12_rank 11 = .ok (.if_icmp .ne 7, 3) := by decide +kernel
theorem dX12_rank_14 : decode cX12_rank 14 = .ok (.iconst 5, 1) := by decide +kernel
theorem dX12_rank_15 : decode cX12_rank 15 = .ok (.goto 4, 3) := by decide +kernel
theorem dX12_rank_18 : decode cX12_rank 18 = .ok (.iload_n 0, 1) := by decide +kernel
theorem dX12_rank_19 : decode cX12_rank 19 = .ok (.ireturn, 1) := by decide +kernel
theorem dX12_faulty_0 : decode cX12_faulty 0 = .ok (.aload_n 0, 1) := by decide +kernel
theorem dX12_faulty_1 : decode cX12_faulty 1 = .ok (.getfield 287, 3) := by decide +kernel
theorem dX12_faulty_4 : decode cX12_faulty 4 = .ok (.ifCond .eq 33, 3) := by decide +kernel
theorem dX12_faulty_7 : decode cX12_faulty 7 = .ok (.iload_n 2, 1) := by decide +kernel
theorem dX12_faulty_8 : decode cX12_faulty 8 = .ok (.aload_n 0, 1) := by decide +kernel
theorem dX12_faulty_9 : decode cX12_faulty 9 = .ok (.getfield 290, 3) := by decide +kernel
theorem dX12_faulty_12 : decode cX12_faulty 12 = .ok (.if_icmp .lt 25, 3) := by decide +kernel
theorem dX12_faulty_15 : decode cX12_faulty 15 = .ok (.iload_n 2, 1) := by decide +kernel
theorem dX12_faulty_16 : decode cX12_faulty 16 = .ok (.aload_n 0, 1) := by decide +kernel
theorem dX12_faulty_17 : decode cX12_faulty 17 = .ok (.getfield 290, 3) := by decide +kernel
theorem dX12_faulty_20 : decode cX12_faulty 20 = .ok (.if_icmp .ne 27, 3) := by decide +kernel
theorem dX12_faulty_23 : decode cX12_faulty 23 = .ok (.iload_n 1, 1) := by decide +kernel
theorem dX12_faulty_24 : decode cX12_faulty 24 = .ok (.invokestatic 293, 3) := by decide +kernel
theorem dX12_faulty_27 : decode cX12_faulty 27 = .ok (.aload_n 0, 1) := by decide +kernel
theorem dX12_faulty_28 : decode cX12_faulty 28 = .ok (.getfield 287, 3) := by decide +kernel
theorem dX12_faulty_31 : decode cX12_faulty 31 = .ok (.invokestatic 293, 3) := by decide +kernel
theorem dX12_faulty_34 : decode cX12_faulty 34 = .ok (.if_icmp .ge 13, 3) := by decide +kernel
theorem dX12_faulty_37 : decode cX12_faulty 37 = .ok (.aload_n 0, 1) := by decide +kernel
theorem dX12_faulty_38 : decode cX12_faulty 38 = .ok (.iload_n 1, 1) := by decide +kernel
theorem dX12_faulty_39 : decode cX12_faulty 39 = .ok (.putfield 287, 3) := by decide +kernel
theorem dX12_faulty_42 : decode cX12_faulty 42 = .ok (.aload_n 0, 1) := by decide +kernel
theorem dX12_faulty_43 : decode cX12_faulty 43 = .ok (.iload_n 2, 1) := by decide +kernel
theorem dX12_faulty_44 : decode cX12_faulty 44 = .ok (.putfield 290, 3) := by decide +kernel
theorem dX12_faulty_47 : decode cX12_faulty 47 = .ok (.return_, 1) := by decide +kernel
theorem dX12_kindOf_0 : decode cX12_kindOf 0 = .ok (.iconst 0, 1) := by decide +kernel
theorem dX12_kindOf_1 : decode cX12_kindOf 1 = .ok (.istore_n 3, 1) := by decide +kernel
theorem dX12_kindOf_2 : decode cX12_kindOf 2 = .ok (.iload_n 3, 1) := by decide +kernel
theorem dX12_kindOf_3 : decode cX12_kindOf 3 = .ok (.iload_n 2, 1) := by decide +kernel
theorem dX12_kindOf_4 : decode cX12_kindOf 4 = .ok (.if_icmp .ge 24, 3) := by decide +kernel
theorem dX12_kindOf_7 : decode cX12_kindOf 7 = .ok (.aload_n 0, 1) := by decide +kernel
theorem dX12_kindOf_8 : decode cX12_kindOf 8 = .ok (.getfield 19, 3) := by decide +kernel
theorem dX12_kindOf_11 : decode cX12_kindOf 11 = .ok (.iload_n 3, 1) := by decide +kernel
theorem dX12_kindOf_12 : decode cX12_kindOf 12 = .ok (.aaload, 1) := by decide +kernel
theorem dX12_kindOf_13 : decode cX12_kindOf 13 = .ok (.aload_n 1, 1) := by decide +kernel
theorem dX12_kindOf_14 : decode cX12_kindOf 14 = .ok (.invokevirtual 296, 3) := by decide +kernel
theorem dX12_kindOf_17 : decode cX12_kindOf 17 = .ok (.ifCond .eq 5, 3) := by decide +kernel
theorem dX12_kindOf_20 : decode cX12_kindOf 20 = .ok (.iload_n 3, 1) := by decide +kernel
theorem dX12_kindOf_21 : decode cX12_kindOf 21 = .ok (.ireturn, 1) := by decide +kernel
theorem dX12_kindOf_22 : decode cX12_kindOf 22 = .ok (.iinc 3 1, 3) := by decide +kernel
theorem dX12_kindOf_25 : decode cX12_kindOf 25 = .ok (.goto (-23), 3) := by decide +kernel
theorem dX12_kindOf_28 : decode cX12_kindOf 28 = .ok (.iconst (-1), 1) := by decide +kernel
theorem dX12_kindOf_29 : decode cX12_kindOf 29 = .ok (.ireturn, 1) := by decide +kernel
theorem dX12_readPack_0 : decode cX12_readPack 0 = .ok (.aload_n 0, 1) := by decide +kernel
theorem dX12_readPack_1 : decode cX12_readPack 1 = .ok (.getfield 186, 3) := by decide +kernel
theorem dX12_readPack_4 : decode cX12_readPack 4 = .ok (.sipush 700, 3) := by decide +kernel
theorem dX12_readPack_7 : decode cX12_readPack 7 = .ok (.if_icmp .le 11, 3) := by decide +kernel
theorem dX12_readPack_10 : decode cX12_readPack 10 = .ok (.aload_n 0, 1) := by decide +kernel
theorem dX12_readPack_11 : decode cX12_readPack 11 = .ok (.sipush 700, 3) := by decide +kernel
theorem dX12_readPack_14 : decode cX12_readPack 14 = .ok (.invokevirtual 281, 3) := by decide +kernel
theorem dX12_readPack_17 : decode cX12_readPack 17 = .ok (.ireturn, 1) := by decide +kernel
theorem dX12_readPack_18 : decode cX12_readPack 18 = .ok (.aload_n 0, 1) := by decide +kernel
theorem dX12_readPack_19 : decode cX12_readPack 19 = .ok (.invokevirtual 284, 3) := by decide +kernel
theorem dX12_readPack_22 : decode cX12_readPack 22 = .ok (.aload_n 0, 1) := by decide +kernel
theorem dX12_readPack_23 : decode cX12_readPack 23 = .ok (.ldc_w 300, 3) := by decide +kernel
theorem dX12_readPack_26 : decode cX12_readPack 26 = .ok (.invokevirtual 302, 3) := by decide +kernel
theorem dX12_readPack_29 : decode cX12_readPack 29 = .ok (.ifCond .eq 10, 3) := by decide +kernel
theorem dX12_readPack_32 : decode cX12_readPack 32 = .ok (.aload_n 0, 1) := by decide +kernel
theorem dX12_readPack_33 : decode cX12_readPack 33 = .ok (.invokevirtual 305, 3) := by decide +kernel
theorem dX12_readPack_36 : decode cX12_readPack 36 = .ok (.ifCond .ne 12, 3) := by decide +kernel
theorem dX12_readPack_39 : decode cX12_readPack 39 = .ok (.aload_n 0, 1) := by decide +kernel
theorem dX12_readPack_40 : decode cX12_readPack 40 = .ok (.aload_n 0, 1) := by decide +kernel
theorem dX12_readPack_41 : decode cX12_readPack 41 = .ok (.getfield 212, 3) := by decide +kernel
theorem dX12_readPack_44 : decode cX12_readPack 44 = .ok (.invokevirtual 281, 3) := by decide +kernel
theorem dX12_readPack_47 : decode cX12_readPack 47 = .ok (.ireturn, 1) := by decide +kernel
theorem dX12_readPack_48 : decode cX12_readPack 48 = .ok (.aload_n 0, 1) := by decide +kernel
theorem dX12_readPack_49 : decode cX12_readPack 49 = .ok (.aload_n 0, 1) := by decide +kernel
theorem dX12_readPack_50 : decode cX12_readPack 50 = .ok (.invokevirtual 254, 3) := by decide +kernel
theorem dX12_readPack_53 : decode cX12_readPack 53 = .ok (.putfield 309, 3) := by decide +kernel
theorem dX12_readPack_56 : decode cX12_readPack 56 = .ok (.aload_n 0, 1) := by decide +kernel
theorem dX12_readPack_57 : decode cX12_readPack 57 = .ok (.invokevirtual 284, 3) := by decide +kernel
theorem dX12_readPack_60 : decode cX12_readPack 60 = .ok (.aload_n 0, 1) := by decide +kernel
theorem dX12_readPack_61 : decode cX12_readPack 61 = .ok (.aload_n 0, 1) := by decide +kernel
theorem dX12_readPack_62 : decode cX12_readPack 62 = .ok (.getfield 72, 3) := by decide +kernel
theorem dX12_readPack_65 : decode cX12_readPack 65 = .ok (.putfield 313, 3) := by decide +kernel
theorem dX12_readPack_68 : decode cX12_readPack 68 = .ok (.aload_n 0, 1) := by decide +kernel
theorem dX12_readPack_69 : decode cX12_readPack 69 = .ok (.ldc_w 316, 3) := by decide +kernel
theorem dX12_readPack_72 : decode cX12_readPack 72 = .ok (.invokevirtual 263, 3) := by decide +kernel
theorem dX12_readPack_75 : decode cX12_readPack 75 = .ok (.ifCond .eq 35, 3) := by decide +kernel
theorem dX12_readPack_78 : decode cX12_readPack 78 = .ok (.aload_n 0, 1) := by decide +kernel
theorem dX12_readPack_79 : decode cX12_readPack 79 = .ok (.invokevirtual 284, 3) := by decide +kernel
theorem dX12_readPack_82 : decode cX12_readPack 82 = .ok (.aload_n 0, 1) := by decide +kernel
theorem dX12_readPack_83 : decode cX12_readPack 83 = .ok (.invokevirtual 305, 3) := by decide +kernel
theorem dX12_readPack_86 : decode cX12_readPack 86 = .ok (.ifCond .ne 12, 3) := by decide +kernel
theorem dX12_readPack_89 : decode cX12_readPack 89 = .ok (.aload_n 0, 1) := by decide +kernel
theorem dX12_readPack_90 : decode cX12_readPack 90 = .ok (.aload_n 0, 1) := by decide +kernel
theorem dX12_readPack_91 : decode cX12_readPack 91 = .ok (.getfield 212, 3) := by decide +kernel
theorem dX12_readPack_94 : decode cX12_readPack 94 = .ok (.invokevirtual 281, 3) := by decide +kernel
theorem dX12_readPack_97 : decode cX12_readPack 97 = .ok (.ireturn, 1) := by decide +kernel
theorem dX12_readPack_98 : decode cX12_readPack 98 = .ok (.aload_n 0, 1) := by decide +kernel
theorem dX12_readPack_99 : decode cX12_readPack 99 = .ok (.aload_n 0, 1) := by decide +kernel
theorem dX12_readPack_100 : decode cX12_readPack 100 = .ok (.invokevirtual 254, 3) := by decide +kernel
theorem dX12_readPack_103 : decode cX12_readPack 103 = .ok (.invokevirtual 318, 3) := by decide +kernel
theorem dX12_readPack_106 : decode cX12_readPack 106 = .ok (.aload_n 0, 1) := by decide +kernel
theorem dX12_readPack_107 : decode cX12_readPack 107 = .ok (.invokevirtual 284, 3) := by decide +kernel
theorem dX12_readPack_110 : decode cX12_readPack 110 = .ok (.aload_n 0, 1) := by decide +kernel
theorem dX12_readPack_111 : decode cX12_readPack 111 = .ok (.ldc_w 321, 3) := by decide +kernel
theorem dX12_readPack_114 : decode cX12_readPack 114 = .ok (.invokevirtual 302, 3) := by decide +kernel
theorem dX12_readPack_117 : decode cX12_readPack 117 = .ok (.ifCond .ne 5, 3) := by decide +kernel
theorem dX12_readPack_120 : decode cX12_readPack 120 = .ok (.iconst 0, 1) := by decide +kernel
theorem dX12_readPack_121 : decode cX12_readPack 121 = .ok (.ireturn, 1) := by decide +kernel
theorem dX12_readPack_122 : decode cX12_readPack 122 = .ok (.aload_n 0, 1) := by decide +kernel
theorem dX12_readPack_123 : decode cX12_readPack 123 = .ok (.invokevirtual 323, 3) := by decide +kernel
theorem dX12_readPack_126 : decode cX12_readPack 126 = .ok (.ifCond .ne 5, 3) := by decide +kernel
theorem dX12_readPack_129 : decode cX12_readPack 129 = .ok (.iconst 0, 1) := by decide +kernel
theorem dX12_readPack_130 : decode cX12_readPack 130 = .ok (.ireturn, 1) := by decide +kernel
theorem dX12_readPack_131 : decode cX12_readPack 131 = .ok (.aload_n 0, 1) := by decide +kernel
theorem dX12_readPack_132 : decode cX12_readPack 132 = .ok (.ldc_w 326, 3) := by decide +kernel
theorem dX12_readPack_135 : decode cX12_readPack 135 = .ok (.invokevirtual 263, 3) := by decide +kernel
theorem dX12_readPack_138 : decode cX12_readPack 138 = .ok (.ifCond .eq (-16), 3) := by decide +kernel
theorem dX12_readPack_141 : decode cX12_readPack 141 = .ok (.aload_n 0, 1) := by decide +kernel
theorem dX12_readPack_142 : decode cX12_readPack 142 = .ok (.invokevirtual 284, 3) := by decide +kernel
theorem dX12_readPack_145 : decode cX12_readPack 145 = .ok (.aload_n 0, 1) := by decide +kernel
theorem dX12_readPack_146 : decode cX12_readPack 146 = .ok (.getfield 215, 3) := by decide +kernel
theorem dX12_readPack_149 : decode cX12_readPack 149 = .ok (.ifCond .eq 14, 3) := by decide +kernel
theorem dX12_readPack_152 : decode cX12_readPack 152 = .ok (.aload_n 0, 1) := by decide +kernel
theorem dX12_readPack_153 : decode cX12_readPack 153 = .ok (.aload_n 0, 1) := by decide +kernel
theorem dX12_readPack_154 : decode cX12_readPack 154 = .ok (.getfield 212, 3) := by decide +kernel
theorem dX12_readPack_157 : decode cX12_readPack 157 = .ok (.invokevirtual 281, 3) := by decide +kernel
theorem dX12_readPack_160 : decode cX12_readPack 160 = .ok (.ifCond .eq 7, 3) := by decide +kernel
theorem dX12_readPack_163 : decode cX12_readPack 163 = .ok (.iconst 1, 1) := by decide +kernel
theorem dX12_readPack_164 : decode cX12_readPack 164 = .ok (.goto 4, 3) := by decide +kernel
theorem dX12_readPack_167 : decode cX12_readPack 167 = .ok (.iconst 0, 1) := by decide +kernel
theorem dX12_readPack_168 : decode cX12_readPack 168 = .ok (.ireturn, 1) := by decide +kernel
theorem dX12_with_0 : decode cX12_with 0 = .ok (.aload_n 1, 1) := by decide +kernel
theorem dX12_with_1 : decode cX12_with 1 = .ok (.ldc_w 328, 3) := by decide +kernel
theorem dX12_with_4 : decode cX12_with 4 = .ok (.invokevirtual 296, 3) := by decide +kernel
theorem dX12_with_7 : decode cX12_with 7 = .ok (.ifCond .eq 9, 3) := by decide +kernel
theorem dX12_with_10 : decode cX12_with 10 = .ok (.aload_n 0, 1) := by decide +kernel
theorem dX12_with_11 : decode cX12_with 11 = .ok (.iconst 0, 1) := by decide +kernel
theorem dX12_with_12 : decode cX12_with 12 = .ok (.putfield 313, 3) := by decide +kernel
theorem dX12_with_15 : decode cX12_with 15 = .ok (.return_, 1) := by decide +kernel
theorem dX12_with_16 : decode cX12_with 16 = .ok (.aload_n 0, 1) := by decide +kernel
theorem dX12_with_17 : decode cX12_with 17 = .ok (.getfield 330, 3) := by decide +kernel
theorem dX12_with_20 : decode cX12_with 20 = .ok (.iconst 1, 1) := by decide +kernel
theorem dX12_with_21 : decode cX12_with 21 = .ok (.isub, 1) := by decide +kernel
theorem dX12_with_22 : decode cX12_with 22 = .ok (.istore_n 2, 1) := by decide +kernel
theorem dX12_with_23 : decode cX12_with 23 = .ok (.iload_n 2, 1) := by decide +kernel
theorem dX12_with_24 : decode cX12_with 24 = .ok (.ifCond .lt 33, 3) := by decide +kernel
theorem dX12_with_27 : decode cX12_with 27 = .ok (.aload_n 0, 1) := by decide +kernel
theorem dX12_with_28 : decode cX12_with 28 = .ok (.getfield 63, 3) := by decide +kernel
theorem dX12_with_31 : decode cX12_with 31 = .ok (.iload_n 2, 1) := by decide +kernel
theorem dX12_with_32 : decode cX12_with 32 = .ok (.aaload, 1) := by decide +kernel
theorem dX12_with_33 : decode cX12_with 33 = .ok (.aload_n 1, 1) := by decide +kernel
theorem dX12_with_34 : decode cX12_with 34 = .ok (.invokevirtual 296, 3) := by decide +kernel
theorem dX12_with_37 : decode cX12_with 37 = .ok (.ifCond .eq 14, 3) := by decide +kernel
theorem dX12_with_40 : decode cX12_with 40 = .ok (.aload_n 0, 1) := by decide +kernel
theorem dX12_with_41 : decode cX12_with 41 = .ok (.aload_n 0, 1) := by decide +kernel
theorem dX12_with_42 : decode cX12_with 42 = .ok (.getfield 66, 3) := by decide +kernel
theorem dX12_with_45 : decode cX12_with 45 = .ok (.iload_n 2, 1) := by decide +kernel
theorem dX12_with_46 : decode cX12_with 46 = .ok (.iaload, 1) := by decide +kernel
theorem dX12_with_47 : decode cX12_with 47 = .ok (.putfield 313, 3) := by decide +kernel
theorem dX12_with_50 : decode cX12_with 50 = .ok (.return_, 1) := by decide +kernel
theorem dX12_with_51 : decode cX12_with 51 = .ok (.iinc 2 (-1), 3) := by decide +kernel
theorem dX12_with_54 : decode cX12_with 54 = .ok (.goto (-31), 3) := by decide +kernel
theorem dX12_with_57 : decode cX12_with 57 = .ok (.aload_n 0, 1) := by decide +kernel
theorem dX12_with_58 : decode cX12_with 58 = .ok (.iconst 2, 1) := by decide +kernel
theorem dX12_with_59 : decode cX12_with 59 = .ok (.aload_n 0, 1) := by decide +kernel
theorem dX12_with_60 : decode cX12_with 60 = .ok (.getfield 212, 3) := by decide +kernel
theorem dX12_with_63 : decode cX12_with 63 = .ok (.invokevirtual 333, 3) := by decide +kernel
theorem dX12_with_66 : decode cX12_with 66 = .ok (.return_, 1) := by decide +kernel
theorem dX12_readKind_0 : decode cX12_readKind 0 = .ok (.aload_n 0, 1) := by decide +kernel
theorem dX12_readKind_1 : decode cX12_readKind 1 = .ok (.ldc_w 337, 3) := by decide +kernel
theorem dX12_readKind_4 : decode cX12_readKind 4 = .ok (.invokevirtual 263, 3) := by decide +kernel
theorem dX12_readKind_7 : decode cX12_readKind 7 = .ok (.ifCond .eq 12, 3) := by decide +kernel
theorem dX12_readKind_10 : decode cX12_readKind 10 = .ok (.aload_n 0, 1) := by decide +kernel
theorem dX12_readKind_11 : decode cX12_readKind 11 = .ok (.getfield 339, 3) := by decide +kernel
theorem dX12_readKind_14 : decode cX12_readKind 14 = .ok (.bipush 10, 2) := by decide +kernel
theorem dX12_readKind_16 : decode cX12_readKind 16 = .ok (.if_icmp .ne 12, 3) := by decide +kernel
theorem dX12_readKind_19 : decode cX12_readKind 19 = .ok (.aload_n 0, 1) := by decide +kernel
theorem dX12_readKind_20 : decode cX12_readKind 20 = .ok (.aload_n 0, 1) := by decide +kernel
theorem dX12_readKind_21 : decode cX12_readKind 21 = .ok (.getfield 212, 3) := by decide +kernel
theorem dX12_readKind_24 : decode cX12_readKind 24 = .ok (.invokevirtual 281, 3) := by decide +kernel
theorem dX12_readKind_27 : decode cX12_readKind 27 = .ok (.ireturn, 1) := by decide +kernel
theorem dX12_readKind_28 : decode cX12_readKind 28 = .ok (.aload_n 0, 1) := by decide +kernel
theorem dX12_readKind_29 : decode cX12_readKind 29 = .ok (.invokevirtual 284, 3) := by decide +kernel
theorem dX12_readKind_32 : decode cX12_readKind 32 = .ok (.aload_n 0, 1) := by decide +kernel
theorem dX12_readKind_33 : decode cX12_readKind 33 = .ok (.invokevirtual 305, 3) := by decide +kernel
theorem dX12_readKind_36 : decode cX12_readKind 36 = .ok (.ifCond .ne 12, 3) := by decide +kernel
theorem dX12_readKind_39 : decode cX12_readKind 39 = .ok (.aload_n 0, 1) := by decide +kernel
theorem dX12_readKind_40 : decode cX12_readKind 40 = .ok (.aload_n 0, 1) := by decide +kernel
theorem dX12_readKind_41 : decode cX12_readKind 41 = .ok (.getfield 212, 3) := by decide +kernel
theorem dX12_readKind_44 : decode cX12_readKind 44 = .ok (.invokevirtual 281, 3) := by decide +kernel
theorem dX12_readKind_47 : decode cX12_readKind 47 = .ok (.ireturn, 1) := by decide +kernel
theorem dX12_readKind_48 : decode cX12_readKind 48 = .ok (.aload_n 0, 1) := by decide +kernel
theorem dX12_readKind_49 : decode cX12_readKind 49 = .ok (.getfield 180, 3) := by decide +kernel
theorem dX12_readKind_52 : decode cX12_readKind 52 = .ok (.aload_n 0, 1) := by decide +kernel
theorem dX12_readKind_53 : decode cX12_readKind 53 = .ok (.getfield 339, 3) := by decide +kernel
theorem dX12_readKind_56 : decode cX12_readKind 56 = .ok (.iadd, 1) := by decide +kernel
theorem dX12_readKind_57 : decode cX12_readKind 57 = .ok (.istore_n 1, 1) := by decide +kernel
theorem dX12_readKind_58 : decode cX12_readKind 58 = .ok (.aload_n 0, 1) := by decide +kernel
theorem dX12_readKind_59 : decode cX12_readKind 59 = .ok (.getfield 19, 3) := by decide +kernel
theorem dX12_readKind_62 : decode cX12_readKind 62 = .ok (.iload_n 1, 1) := by decide +kernel
theorem dX12_readKind_63 : decode cX12_readKind 63 = .ok (.aload_n 0, 1) := by decide +kernel
theorem dX12_readKind_64 : decode cX12_readKind 64 = .ok (.invokevirtual 254, 3) := by decide +kernel
theorem dX12_readKind_67 : decode cX12_readKind 67 = .ok (.aastore, 1) := by decide +kernel
theorem dX12_readKind_68 : decode cX12_readKind 68 = .ok (.aload_n 0, 1) := by decide +kernel
theorem dX12_readKind_69 : decode cX12_readKind 69 = .ok (.aload_n 0, 1) := by decide +kernel
theorem dX12_readKind_70 : decode cX12_readKind 70 = .ok (.getfield 19, 3) := by decide +kernel
theorem dX12_readKind_73 : decode cX12_readKind 73 = .ok (.iload_n 1, 1) := by decide +kernel
theorem dX12_readKind_74 : decode cX12_readKind 74 = .ok (.aaload, 1) := by decide +kernel
theorem dX12_readKind_75 : decode cX12_readKind 75 = .ok (.iload_n 1, 1) := by decide +kernel
theorem dX12_readKind_76 : decode cX12_readKind 76 = .ok (.invokevirtual 342, 3) := by decide +kernel
theorem dX12_readKind_79 : decode cX12_readKind 79 = .ok (.ifCond .lt 12, 3) := by decide +kernel
theorem dX12_readKind_82 : decode cX12_readKind 82 = .ok (.aload_n 0, 1) := by decide +kernel
theorem dX12_readKind_83 : decode cX12_readKind 83 = .ok (.iconst 2, 1) := by decide +kernel
theorem dX12_readKind_84 : decode cX12_readKind 84 = .ok (.aload_n 0, 1) := by decide +kernel
theorem dX12_readKind_85 : decode cX12_readKind 85 = .ok (.getfield 212, 3) := by decide +kernel
theorem dX12_readKind_88 : decode cX12_readKind 88 = .ok (.invokevirtual 333, 3) := by decide +kernel
theorem dX12_readKind_91 : decode cX12_readKind 91 = .ok (.aload_n 0, 1) := by decide +kernel
theorem dX12_readKind_92 : decode cX12_readKind 92 = .ok (.invokevirtual 284, 3) := by decide +kernel
theorem dX12_readKind_95 : decode cX12_readKind 95 = .ok (.aload_n 0, 1) := by decide +kernel
theorem dX12_readKind_96 : decode cX12_readKind 96 = .ok (.ldc_w 346, 3) := by decide +kernel
theorem dX12_readKind_99 : decode cX12_readKind 99 = .ok (.invokevirtual 302, 3) := by decide +kernel
theorem dX12_readKind_102 : decode cX12_readKind 102 = .ok (.ifCond .eq 10, 3) := by decide +kernel
theorem dX12_readKind_105 : decode cX12_readKind 105 = .ok (.aload_n 0, 1) := by decide +kernel
theorem dX12_readKind_106 : decode cX12_readKind 106 = .ok (.invokevirtual 305, 3) := by decide +kernel
theorem dX12_readKind_109 : decode cX12_readKind 109 = .ok (.ifCond .ne 12, 3) := by decide +kernel
theorem dX12_readKind_112 : decode cX12_readKind 112 = .ok (.aload_n 0, 1) := by decide +kernel
theorem dX12_readKind_113 : decode cX12_readKind 113 = .ok (.aload_n 0, 1) := by decide +kernel
theorem dX12_readKind_114 : decode cX12_readKind 114 = .ok (.getfield 212, 3) := by decide +kernel
theorem dX12_readKind_117 : decode cX12_readKind 117 = .ok (.invokevirtual 281, 3) := by decide +kernel
theorem dX12_readKind_120 : decode cX12_readKind 120 = .ok (.ireturn, 1) := by decide +kernel
