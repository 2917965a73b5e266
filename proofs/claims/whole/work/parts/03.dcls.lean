theorem dX0_init_0 : decode cX0_init 0 = .ok (.aload_n 0, 1) := by decide +kernel
theorem dX0_init_1 : decode cX0_init 1 = .ok (.invokespecial 3, 3) := by decide +kernel
theorem dX0_init_4 : decode cX0_init 4 = .ok (.return_, 1) := by decide +kernel
theorem dX0_startNew_0 : decode cX0_startNew 0 = .ok (.aload_n 0, 1) := by decide +kernel
theorem dX0_startNew_1 : decode cX0_startNew 1 = .ok (.aload_n 1, 1) := by decide +kernel
theorem dX0_startNew_2 : decode cX0_startNew 2 = .ok (.aload_n 1, 1) := by decide +kernel
theorem dX0_startNew_3 : decode cX0_startNew 3 = .ok (.iload_n 2, 1) := by decide +kernel
theorem dX0_startNew_4 : decode cX0_startNew 4 = .ok (.invokevirtual 9, 3) := by decide +kernel
theorem dX0_startNew_7 : decode cX0_startNew 7 = .ok (.iconst 0, 1) := by decide +kernel
theorem dX0_startNew_8 : decode cX0_startNew 8 = .ok (.invokevirtual 15, 3) := by decide +kernel
theorem dX0_startNew_11 : decode cX0_startNew 11 = .ok (.putfield 19, 3) := by decide +kernel
theorem dX0_startNew_14 : decode cX0_startNew 14 = .ok (.aload_n 0, 1) := by decide +kernel
theorem dX0_startNew_15 : decode cX0_startNew 15 = .ok (.iconst 0, 1) := by decide +kernel
theorem dX0_startNew_16 : decode cX0_startNew 16 = .ok (.putfield 25, 3) := by decide +kernel
theorem dX0_startNew_19 : decode cX0_startNew 19 = .ok (.aload_n 0, 1) := by decide +kernel
theorem dX0_startNew_20 : decode cX0_startNew 20 = .ok (.iconst 0, 1) := by decide +kernel
theorem dX0_startNew_21 : decode cX0_startNew 21 = .ok (.putfield 28, 3) := by decide +kernel
theorem dX0_startNew_24 : decode cX0_startNew 24 = .ok (.aload_n 0, 1) := by decide +kernel
theorem dX0_startNew_25 : decode cX0_startNew 25 = .ok (.iconst 0, 1) := by decide +kernel
theorem dX0_startNew_26 : decode cX0_startNew 26 = .ok (.putfield 31, 3) := by decide +kernel
theorem dX0_startNew_29 : decode cX0_startNew 29 = .ok (.return_, 1) := by decide +kernel
theorem dX0_goOnFrom_0 : decode cX0_goOnFrom 0 = .ok (.aload_n 0, 1) := by decide +kernel
theorem dX0_goOnFrom_1 : decode cX0_goOnFrom 1 = .ok (.aload_n 1, 1) := by decide +kernel
theorem dX0_goOnFrom_2 : decode cX0_goOnFrom 2 = .ok (.getfield 35, 3) := by decide +kernel
theorem dX0_goOnFrom_5 : decode cX0_goOnFrom 5 = .ok (.putfield 19, 3) := by decide +kernel
theorem dX0_goOnFrom_8 : decode cX0_goOnFrom 8 = .ok (.aload_n 0, 1) := by decide +kernel
theorem dX0_goOnFrom_9 : decode cX0_goOnFrom 9 = .ok (.aload_n 1, 1) := by decide +kernel
theorem dX0_goOnFrom_10 : decode cX0_goOnFrom 10 = .ok (.getfield 38, 3) := by decide +kernel
theorem dX0_goOnFrom_13 : decode cX0_goOnFrom 13 = .ok (.putfield 25, 3) := by decide +kernel
theorem dX0_goOnFrom_16 : decode cX0_goOnFrom 16 = .ok (.aload_n 0, 1) := by decide +kernel
theorem dX0_goOnFrom_17 : decode cX0_goOnFrom 17 = .ok (.aload_n 1, 1) := by decide +kernel
theorem dX0_goOnFrom_18 : decode cX0_goOnFrom 18 = .ok (.getfield 39, 3) := by decide +kernel
theorem dX0_goOnFrom_21 : decode cX0_goOnFrom 21 = .ok (.putfield 28, 3) := by decide +kernel
theorem dX0_goOnFrom_24 : decode cX0_goOnFrom 24 = .ok (.aload_n 0, 1) := by decide +kernel
theorem dX0_goOnFrom_25 : decode cX0_goOnFrom 25 = .ok (.iconst 0, 1) := by decide +kernel
theorem dX0_goOnFrom_26 : decode cX0_goOnFrom 26 = .ok (.putfield 31, 3) := by decide +kernel
theorem dX0_goOnFrom_29 : decode cX0_goOnFrom 29 = .ok (.return_, 1) := by decide +kernel
theorem dX0_run_0 : decode cX0_run 0 = .ok (.aload_n 0, 1) := by decide +kernel
theorem dX0_run_1 : decode cX0_run 1 = .ok (.iload_n 3, 1) := by decide +kernel
theorem dX0_run_2 : decode cX0_run 2 = .ok (.putfield 40, 3) := by decide +kernel
theorem dX0_run_5 : decode cX0_run 5 = .ok (.aload_n 0, 1) := by decide +kernel
theorem dX0_run_6 : decode cX0_run 6 = .ok (.iload 4, 2) := by decide +kernel
theorem dX0_run_8 : decode cX0_run 8 = .ok (.putfield 43, 3) := by decide +kernel
theorem dX0_run_11 : decode cX0_run 11 = .ok (.aload_n 0, 1) := by decide +kernel
theorem dX0_run_12 : decode cX0_run 12 = .ok (.iconst 0, 1) := by decide +kernel
theorem dX0_run_13 : decode cX0_run 13 = .ok (.putfield 46, 3) := by decide +kernel
theorem dX0_run_16 : decode cX0_run 16 = .ok (.aload_n 0, 1) := by decide +kernel
theorem dX0_run_17 : decode cX0_run 17 = .ok (.iconst 0, 1) := by decide +kernel
theorem dX0_run_18 : decode cX0_run 18 = .ok (.putfield 49, 3) := by decide +kernel
theorem dX0_run_21 : decode cX0_run 21 = .ok (.iconst 0, 1) := by decide +kernel
theorem dX0_run_22 : decode cX0_run 22 = .ok (.istore 5, 2) := by decide +kernel
theorem dX0_run_24 : decode cX0_run 24 = .ok (.iconst 0, 1) := by decide +kernel
theorem dX0_run_25 : decode cX0_run 25 = .ok (.istore 6, 2) := by decide +kernel
theorem dX0_run_27 : decode cX0_run 27 = .ok (.iload 6, 2) := by decide +kernel
theorem dX0_run_29 : decode cX0_run 29 = .ok (.bipush 24, 2) := by decide +kernel
theorem dX0_run_31 : decode cX0_run 31 = .ok (.if_icmp .ge 68, 3) := by decide +kernel
theorem dX0_run_34 : decode cX0_run 34 = .ok (.iload 5, 2) := by decide +kernel
theorem dX0_run_36 : decode cX0_run 36 = .ok (.iload 4, 2) := by decide +kernel
theorem dX0_run_38 : decode cX0_run 38 = .ok (.if_icmp .ge 61, 3) := by decide +kernel
theorem dX0_run_41 : decode cX0_run 41 = .ok (.iload_n 2, 1) := by decide +kernel
theorem dX0_run_42 : decode cX0_run 42 = .ok (.iload 5, 2) := by decide +kernel
theorem dX0_run_44 : decode cX0_run 44 = .ok (.iadd, 1) := by decide +kernel
theorem dX0_run_45 : decode cX0_run 45 = .ok (.ldc 52, 2) := by decide +kernel
theorem dX0_run_47 : decode cX0_run 47 = .ok (.irem, 1) := by decide +kernel
theorem dX0_run_48 : decode cX0_run 48 = .ok (.istore 7, 2) := by decide +kernel
theorem dX0_run_50 : decode cX0_run 50 = .ok (.iload 4, 2) := by decide +kernel
theorem dX0_run_52 : decode cX0_run 52 = .ok (.iload 5, 2) := by decide +kernel
theorem dX0_run_54 : decode cX0_run 54 = .ok (.sipush 3600, 3) := by decide +kernel
theorem dX0_run_57 : decode cX0_run 57 = .ok (.iadd, 1) := by decide +kernel
theorem dX0_run_58 : decode cX0_run 58 = .ok (.iload 7, 2) := by decide +kernel
theorem dX0_run_60 : decode cX0_run 60 = .ok (.sipush 3600, 3) := by decide +kernel
theorem dX0_run_63 : decode cX0_run 63 = .ok (.irem, 1) := by decide +kernel
theorem dX0_run_64 : decode cX0_run 64 = .ok (.isub, 1) := by decide +kernel
theorem dX0_run_65 : decode cX0_run 65 = .ok (.invokestatic 53, 3) := by decide +kernel
theorem dX0_run_68 : decode cX0_run 68 = .ok (.istore 8, 2) := by decide +kernel
theorem dX0_run_70 : decode cX0_run 70 = .ok (.aload_n 0, 1) := by decide +kernel
theorem dX0_run_71 : decode cX0_run 71 = .ok (.aload_n 1, 1) := by decide +kernel
theorem dX0_run_72 : decode cX0_run 72 = .ok (.aload_n 1, 1) := by decide +kernel
theorem dX0_run_73 : decode cX0_run 73 = .ok (.iload 7, 2) := by decide +kernel
theorem dX0_run_75 : decode cX0_run 75 = .ok (.invokevirtual 9, 3) := by decide +kernel
theorem dX0_run_78 : decode cX0_run 78 = .ok (.invokevirtual 58, 3) := by decide +kernel
theorem dX0_run_81 : decode cX0_run 81 = .ok (.aload_n 0, 1) := by decide +kernel
theorem dX0_run_82 : decode cX0_run 82 = .ok (.iload 5, 2) := by decide +kernel
theorem dX0_run_84 : decode cX0_run 84 = .ok (.iload 8, 2) := by decide +kernel
theorem dX0_run_86 : decode cX0_run 86 = .ok (.invokevirtual 62, 3) := by decide +kernel
theorem dX0_run_89 : decode cX0_run 89 = .ok (.iload 8, 2) := by decide +kernel
theorem dX0_run_91 : decode cX0_run 91 = .ok (.istore 5, 2) := by decide +kernel
theorem dX0_run_93 : decode cX0_run 93 = .ok (.iinc 6 1, 3) := by decide +kernel
theorem dX0_run_96 : decode cX0_run 96 = .ok (.goto (-69), 3) := by decide +kernel
theorem dX0_run_99 : decode cX0_run 99 = .ok (.return_, 1) := by decide +kernel
theorem dX0_takeTariff_0 : decode cX0_takeTariff 0 = .ok (.aload_n 0, 1) := by decide +kernel
theorem dX0_takeTariff_1 : decode cX0_takeTariff 1 = .ok (.aload_n 1, 1) := by decide +kernel
theorem dX0_takeTariff_2 : decode cX0_takeTariff 2 = .ok (.iload_n 2, 1) := by decide +kernel
theorem dX0_takeTariff_3 : decode cX0_takeTariff 3 = .ok (.iconst 1, 1) := by decide +kernel
theorem dX0_takeTariff_4 : decode cX0_takeTariff 4 = .ok (.invokevirtual 15, 3) := by decide +kernel
theorem dX0_takeTariff_7 : decode cX0_takeTariff 7 = .ok (.putfield 66, 3) := by decide +kernel
theorem dX0_takeTariff_10 : decode cX0_takeTariff 10 = .ok (.aload_n 0, 1) := by decide +kernel
theorem dX0_takeTariff_11 : decode cX0_takeTariff 11 = .ok (.aload_n 1, 1) := by decide +kernel
theorem dX0_takeTariff_12 : decode cX0_takeTariff 12 = .ok (.iload_n 2, 1) := by decide +kernel
theorem dX0_takeTariff_13 : decode cX0_takeTariff 13 = .ok (.iconst 2, 1) := by decide +kernel
theorem dX0_takeTariff_14 : decode cX0_takeTariff 14 = .ok (.invokevirtual 15, 3) := by decide +kernel
theorem dX0_takeTariff_17 : decode cX0_takeTariff 17 = .ok (.putfield 69, 3) := by decide +kernel
theorem dX0_takeTariff_20 : decode cX0_takeTariff 20 = .ok (.aload_n 0, 1) := by decide +kernel
theorem dX0_takeTariff_21 : decode cX0_takeTariff 21 = .ok (.aload_n 1, 1) := by decide +kernel
theorem dX0_takeTariff_22 : decode cX0_takeTariff 22 = .ok (.iload_n 2, 1) := by decide +kernel
theorem dX0_takeTariff_23 : decode cX0_takeTariff 23 = .ok (.iconst 3, 1) := by decide +kernel
theorem dX0_takeTariff_24 : decode cX0_takeTariff 24 = .ok (.invokevirtual 15, 3) := by decide +kernel
theorem dX0_takeTariff_27 : decode cX0_takeTariff 27 = .ok (.putfield 72, 3) := by decide +kernel
theorem dX0_takeTariff_30 : decode cX0_takeTariff 30 = .ok (.aload_n 0, 1) := by decide +kernel
theorem dX0_takeTariff_31 : decode cX0_takeTariff 31 = .ok (.getfield 28, 3) := by decide +kernel
theorem dX0_takeTariff_34 : decode cX0_takeTariff 34 = .ok (.istore_n 3, 1) := by decide +kernel
theorem dX0_takeTariff_35 : decode cX0_takeTariff 35 = .ok (.aload_n 0, 1) := by decide +kernel
theorem dX0_takeTariff_36 : decode cX0_takeTariff 36 = .ok (.iconst 1, 1) := by decide +kernel
theorem dX0_takeTariff_37 : decode cX0_takeTariff 37 = .ok (.aload_n 0, 1) := by decide +kernel
theorem dX0_takeTariff_38 : decode cX0_takeTariff 38 = .ok (.getfield 69, 3) := by decide +kernel
theorem dX0_takeTariff_41 : decode cX0_takeTariff 41 = .ok (.aload_n 0, 1) := by decide +kernel
theorem dX0_takeTariff_42 : decode cX0_takeTariff 42 = .ok (.getfield 72, 3) := by decide +kernel
theorem dX0_takeTariff_45 : decode cX0_takeTariff 45 = .ok (.imul, 1) := by decide +kernel
theorem dX0_takeTariff_46 : decode cX0_takeTariff 46 = .ok (.invokestatic 75, 3) := by decide +kernel
theorem dX0_takeTariff_49 : decode cX0_takeTariff 49 = .ok (.putfield 28, 3) := by decide +kernel
theorem dX0_takeTariff_52 : decode cX0_takeTariff 52 = .ok (.iload_n 3, 1) := by decide +kernel
theorem dX0_takeTariff_53 : decode cX0_takeTariff 53 = .ok (.ifCond .le 22, 3) := by decide +kernel
theorem dX0_takeTariff_56 : decode cX0_takeTariff 56 = .ok (.aload_n 0, 1) := by decide +kernel
theorem dX0_takeTariff_57 : decode cX0_takeTariff 57 = .ok (.aload_n 0, 1) := by decide +kernel
theorem dX0_takeTariff_58 : decode cX0_takeTariff 58 = .ok (.getfield 25, 3) := by decide +kernel
theorem dX0_takeTariff_61 : decode cX0_takeTariff 61 = .ok (.i2l, 1) := by decide +kernel
theorem dX0_takeTariff_62 : decode cX0_takeTariff 62 = .ok (.aload_n 0, 1) := by decide +kernel
theorem dX0_takeTariff_63 : decode cX0_takeTariff 63 = .ok (.getfield 28, 3) := by decide +kernel
theorem dX0_takeTariff_66 : decode cX0_takeTariff 66 = .ok (.i2l, 1) := by decide +kernel
theorem dX0_takeTariff_67 : decode cX0_takeTariff 67 = .ok (.lmul, 1) := by decide +kernel
theorem dX0_takeTariff_68 : decode cX0_takeTariff 68 = .ok (.iload_n 3, 1) := by decide +kernel
theorem dX0_takeTariff_69 : decode cX0_takeTariff 69 = .ok (.i2l, 1) := by decide +kernel
theorem dX0_takeTariff_70 : decode cX0_takeTariff 70 = .ok (.ldiv, 1) := by decide +kernel
theorem dX0_takeTariff_71 : decode cX0_takeTariff 71 = .ok (.l2i, 1) := by decide +kernel
theorem dX0_takeTariff_72 : decode cX0_takeTariff 72 = .ok (.putfield 25, 3) := by decide +kernel
theorem dX0_takeTariff_75 : decode cX0_takeTariff 75 = .ok (.return_, 1) := by decide +kernel
theorem dX0_runCut_0 : decode cX0_runCut 0 = .ok (.aload_n 0, 1) := by decide +kernel
theorem dX0_runCut_1 : decode cX0_runCut 1 = .ok (.iconst 1, 1) := by decide +kernel
theorem dX0_runCut_2 : decode cX0_runCut 2 = .ok (.invokevirtual 78, 3) := by decide +kernel
theorem dX0_runCut_5 : decode cX0_runCut 5 = .ok (.istore_n 3, 1) := by decide +kernel
theorem dX0_runCut_6 : decode cX0_runCut 6 = .ok (.aload_n 0, 1) := by decide +kernel
theorem dX0_runCut_7 : decode cX0_runCut 7 = .ok (.iload_n 2, 1) := by decide +kernel
theorem dX0_runCut_8 : decode cX0_runCut 8 = .ok (.invokevirtual 78, 3) := by decide +kernel
theorem dX0_runCut_11 : decode cX0_runCut 11 = .ok (.aload_n 0, 1) := by decide +kernel
theorem dX0_runCut_12 : decode cX0_runCut 12 = .ok (.iload_n 1, 1) := by decide +kernel
theorem dX0_runCut_13 : decode cX0_runCut 13 = .ok (.invokevirtual 78, 3) := by decide +kernel
theorem dX0_runCut_16 : decode cX0_runCut 16 = .ok (.isub, 1) := by decide +kernel
theorem dX0_runCut_17 : decode cX0_runCut 17 = .ok (.iload_n 3, 1) := by decide +kernel
theorem dX0_runCut_18 : decode cX0_runCut 18 = .ok (.iload_n 2, 1) := by decide +kernel
theorem dX0_runCut_19 : decode cX0_runCut 19 = .ok (.iload_n 1, 1) := by decide +kernel
theorem dX0_runCut_20 : decode cX0_runCut 20 = .ok (.isub, 1) := by decide +kernel
theorem dX0_runCut_21 : decode cX0_runCut 21 = .ok (.imul, 1) := by decide +kernel
theorem dX0_runCut_22 : decode cX0_runCut 22 = .ok (.isub, 1) := by decide +kernel
theorem dX0_runCut_23 : decode cX0_runCut 23 = .ok (.istore 4, 2) := by decide +kernel
theorem dX0_runCut_25 : decode cX0_runCut 25 = .ok (.aload_n 0, 1) := by decide +kernel
theorem dX0_runCut_26 : decode cX0_runCut 26 = .ok (.getfield 31, 3) := by decide +kernel
theorem dX0_runCut_29 : decode cX0_runCut 29 = .ok (.ifCond .eq 23, 3) := by decide +kernel
theorem dX0_runCut_32 : decode cX0_runCut 32 = .ok (.iload 4, 2) := by decide +kernel
theorem dX0_runCut_34 : decode cX0_runCut 34 = .ok (.ifCond .eq 18, 3) := by decide +kernel
theorem dX0_runCut_37 : decode cX0_runCut 37 = .ok (.aload_n 0, 1) := by decide +kernel
theorem dX0_runCut_38 : decode cX0_runCut 38 = .ok (.iload_n 3, 1) := by decide +kernel
theorem dX0_runCut_39 : decode cX0_runCut 39 = .ok (.invokevirtual 81, 3) := by decide +kernel
theorem dX0_runCut_42 : decode cX0_runCut 42 = .ok (.aload_n 0, 1) := by decide +kernel
theorem dX0_runCut_43 : decode cX0_runCut 43 = .ok (.iload_n 3, 1) := by decide +kernel
theorem dX0_runCut_44 : decode cX0_runCut 44 = .ok (.iconst 1, 1) := by decide +kernel
theorem dX0_runCut_45 : decode cX0_runCut 45 = .ok (.iadd, 1) := by decide +kernel
theorem dX0_runCut_46 : decode cX0_runCut 46 = .ok (.invokevirtual 81, 3) := by decide +kernel
theorem dX0_runCut_49 : decode cX0_runCut 49 = .ok (.if_icmp .ne 36, 3) := by decide +kernel
theorem dX0_runCut_52 : decode cX0_runCut 52 = .ok (.aload_n 0, 1) := by decide +kernel
theorem dX0_runCut_53 : decode cX0_runCut 53 = .ok (.iload_n 2, 1) := by decide +kernel
theorem dX0_runCut_54 : decode cX0_runCut 54 = .ok (.iload_n 1, 1) := by decide +kernel
theorem dX0_runCut_55 : decode cX0_runCut 55 = .ok (.isub, 1) := by decide +kernel
theorem dX0_runCut_56 : decode cX0_runCut 56 = .ok (.iload 4, 2) := by decide +kernel
theorem dX0_runCut_58 : decode cX0_runCut 58 = .ok (.isub, 1) := by decide +kernel
theorem dX0_runCut_59 : decode cX0_runCut 59 = .ok (.aload_n 0, 1) := by decide +kernel
theorem dX0_runCut_60 : decode cX0_runCut 60 = .ok (.iload_n 3, 1) := by decide +kernel
theorem dX0_runCut_61 : decode cX0_runCut 61 = .ok (.invokevirtual 85, 3) := by decide +kernel
theorem dX0_runCut_64 : decode cX0_runCut 64 = .ok (.imul, 1) := by decide +kernel
theorem dX0_runCut_65 : decode cX0_runCut 65 = .ok (.iload 4, 2) := by decide +kernel
theorem dX0_runCut_67 : decode cX0_runCut 67 = .ok (.aload_n 0, 1) := by decide +kernel
theorem dX0_runCut_68 : decode cX0_runCut 68 = .ok (.iload_n 3, 1) := by decide +kernel
theorem dX0_runCut_69 : decode cX0_runCut 69 = .ok (.iconst 1, 1) := by decide +kernel
theorem dX0_runCut_70 : decode cX0_runCut 70 = .ok (.iadd, 1) := by decide +kernel
theorem dX0_runCut_71 : decode cX0_runCut 71 = .ok (.invokevirtual 85, 3) := by decide +kernel
theorem dX0_runCut_74 : decode cX0_runCut 74 = .ok (.imul, 1) := by decide +kernel
theorem dX0_runCut_75 : decode cX0_runCut 75 = .ok (.iadd, 1) := by decide +kernel
theorem dX0_runCut_76 : decode cX0_runCut 76 = .ok (.aload_n 0, 1) := by decide +kernel
theorem dX0_runCut_77 : decode cX0_runCut 77 = .ok (.iload_n 3, 1) := by decide +kernel
theorem dX0_runCut_78 : decode cX0_runCut 78 = .ok (.invokevirtual 81, 3) := by decide +kernel
theorem dX0_runCut_81 : decode cX0_runCut 81 = .ok (.invokevirtual 88, 3) := by decide +kernel
theorem dX0_runCut_84 : decode cX0_runCut 84 = .ok (.return_, 1) := by decide +kernel
theorem dX0_runCut_85 : decode cX0_runCut 85 = .ok (.iload_n 1, 1) := by decide +kernel
theorem dX0_runCut_86 : decode cX0_runCut 86 = .ok (.istore 5, 2) := by decide +kernel
theorem dX0_runCut_88 : decode cX0_runCut 88 = .ok (.iload 5, 2) := by decide +kernel
theorem dX0_runCut_90 : decode cX0_runCut 90 = .ok (.iload_n 2, 1) := by decide +kernel
theorem dX0_runCut_91 : decode cX0_runCut 91 = .ok (.if_icmp .ge 42, 3) := by decide +kernel
theorem dX0_runCut_94 : decode cX0_runCut 94 = .ok (.aload_n 0, 1) := by decide +kernel
theorem dX0_runCut_95 : decode cX0_runCut 95 = .ok (.iload 5, 2) := by decide +kernel
theorem dX0_runCut_97 : decode cX0_runCut 97 = .ok (.iconst 1, 1) := by decide +kernel
theorem dX0_runCut_98 : decode cX0_runCut 98 = .ok (.iadd, 1) := by decide +kernel
theorem dX0_runCut_99 : decode cX0_runCut 99 = .ok (.invokevirtual 78, 3) := by decide +kernel
theorem dX0_runCut_102 : decode cX0_runCut 102 = .ok (.aload_n 0, 1) := by decide +kernel
theorem dX0_runCut_103 : decode cX0_runCut 103 = .ok (.iload 5, 2) := by decide +kernel
theorem dX0_runCut_105 : decode cX0_runCut 105 = .ok (.invokevirtual 78, 3) := by decide +kernel
theorem dX0_runCut_108 : decode cX0_runCut 108 = .ok (.isub, 1) := by decide +kernel
theorem dX0_runCut_109 : decode cX0_runCut 109 = .ok (.istore 6, 2) := by decide +kernel
theorem dX0_runCut_111 : decode cX0_runCut 111 = .ok (.aload_n 0, 1) := by decide +kernel
theorem dX0_runCut_112 : decode cX0_runCut 112 = .ok (.aload_n 0, 1) := by decide +kernel
theorem dX0_runCut_113 : decode cX0_runCut 113 = .ok (.iload 6, 2) := by decide +kernel
theorem dX0_runCut_115 : decode cX0_runCut 115 = .ok (.invokevirtual 85, 3) := by decide +kernel
theorem dX0_runCut_118 : decode cX0_runCut 118 = .ok (.aload_n 0, 1) := by decide +kernel
theorem dX0_runCut_119 : decode cX0_runCut 119 = .ok (.iload 6, 2) := by decide +kernel
theorem dX0_runCut_121 : decode cX0_runCut 121 = .ok (.invokevirtual 81, 3) := by decide +kernel
theorem dX0_runCut_124 : decode cX0_runCut 124 = .ok (.invokevirtual 88, 3) := by decide +kernel
theorem dX0_runCut_127 : decode cX0_runCut 127 = .ok (.iinc 5 1, 3) := by decide +kernel
theorem dX0_runCut_130 : decode cX0_runCut 130 = .ok (.goto (-42), 3) := by decide +kernel
theorem dX0_runCut_133 : decode cX0_runCut 133 = .ok (.return_, 1) := by decide +kernel
theorem dX0_behind_0 : decode cX0_behind 0 = .ok (.aload_n 0, 1) := by decide +kernel
theorem dX0_behind_1 : decode cX0_behind 1 = .ok (.getfield 43, 3) := by decide +kernel
theorem dX0_behind_4 : decode cX0_behind 4 = .ok (.ifCond .le 17, 3) := by decide +kernel
theorem dX0_behind_7 : decode cX0_behind 7 = .ok (.aload_n 0, 1) := by decide +kernel
theorem dX0_behind_8 : decode cX0_behind 8 = .ok (.getfield 40, 3) := by decide +kernel
theorem dX0_behind_11 : decode cX0_behind 11 = .ok (.iload_n 1, 1) := by decide +kernel
theorem dX0_behind_12 : decode cX0_behind 12 = .ok (.imul, 1) := by decide +kernel
theorem dX0_behind_13 : decode cX0_behind 13 = .ok (.aload_n 0, 1) := by decide +kernel
theorem dX0_behind_14 : decode cX0_behind 14 = .ok (.getfield 43, 3) := by decide +kernel
theorem dX0_behind_17 : decode cX0_behind 17 = .ok (.idiv, 1) := by decide +kernel
theorem dX0_behind_18 : decode cX0_behind 18 = .ok (.goto 4, 3) := by decide +kernel
theorem dX0_behind_21 : decode cX0_behind 21 = .ok (.iconst 0, 1) := by decide +kernel
theorem dX0_behind_22 : decode cX0_behind 22 = .ok (.ireturn, 1) := by decide +kernel
theorem dX0_isByWay_0 : decode cX0_isByWay 0 = .ok (.iload_n 1, 1) := by decide +kernel
theorem dX0_isByWay_1 : decode cX0_isByWay 1 = .ok (.aload_n 0, 1) := by decide +kernel
theorem dX0_isByWay_2 : decode cX0_isByWay 2 = .ok (.getfield 72, 3) := by decide +kernel
theorem dX0_isByWay_5 : decode cX0_isByWay 5 = .ok (.imul, 1) := by decide +kernel
theorem dX0_isByWay_6 : decode cX0_isByWay 6 = .ok (.aload_n 0, 1) := by decide +kernel
theorem dX0_isByWay_7 : decode cX0_isByWay 7 = .ok (.getfield 69, 3) := by decide +kernel
theorem dX0_isByWay_10 : decode cX0_isByWay 10 = .ok (.if_icmp .lt 7, 3) := by decide +kernel
theorem dX0_isByWay_13 : decode cX0_isByWay 13 = .ok (.iconst 1, 1) := by decide +kernel
theorem dX0_isByWay_14 : decode cX0_isByWay 14 = .ok (.goto 4, 3) := by decide +kernel
theorem dX0_isByWay_17 : decode cX0_isByWay 17 = .ok (.iconst 0, 1) := by decide +kernel
theorem dX0_isByWay_18 : decode cX0_isByWay 18 = .ok (.ireturn, 1) := by decide +kernel
theorem dX0_gain_0 : decode cX0_gain 0 = .ok (.iload_n 1, 1) := by decide +kernel
theorem dX0_gain_1 : decode cX0_gain 1 = .ok (.aload_n 0, 1) := by decide +kernel
theorem dX0_gain_2 : decode cX0_gain 2 = .ok (.getfield 72, 3) := by decide +kernel
theorem dX0_gain_5 : decode cX0_gain 5 = .ok (.imul, 1) := by decide +kernel
theorem dX0_gain_6 : decode cX0_gain 6 = .ok (.aload_n 0, 1) := by decide +kernel
theorem dX0_gain_7 : decode cX0_gain 7 = .ok (.getfield 69, 3) := by decide +kernel
theorem dX0_gain_10 : decode cX0_gain 10 = .ok (.invokestatic 75, 3) := by decide +kernel
theorem dX0_gain_13 : decode cX0_gain 13 = .ok (.ireturn, 1) := by decide +kernel
theorem dX0_grow_0 : decode cX0_grow 0 = .ok (.aload_n 0, 1) := by decide +kernel
theorem dX0_grow_1 : decode cX0_grow 1 = .ok (.dup, 1) := by decide +kernel
theorem dX0_grow_2 : decode cX0_grow 2 = .ok (.getfield 25, 3) := by decide +kernel
theorem dX0_grow_5 : decode cX0_grow 5 = .ok (.iload_n 1, 1) := by decide +kernel
theorem dX0_grow_6 : decode cX0_grow 6 = .ok (.iadd, 1) := by decide +kernel
theorem dX0_grow_7 : decode cX0_grow 7 = .ok (.putfield 25, 3) := by decide +kernel
theorem dX0_grow_10 : decode cX0_grow 10 = .ok (.aload_n 0, 1) := by decide +kernel
theorem dX0_grow_11 : decode cX0_grow 11 = .ok (.getfield 28, 3) := by decide +kernel
theorem dX0_grow_14 : decode cX0_grow 14 = .ok (.ifCond .gt 4, 3) := by decide +kernel
theorem dX0_grow_17 : decode cX0_grow 17 = .ok (.return_, 1) := by decide +kernel
theorem dX0_grow_18 : decode cX0_grow 18 = .ok (.aload_n 0, 1) := by decide +kernel
theorem dX0_grow_19 : decode cX0_grow 19 = .ok (.getfield 25, 3) := by decide +kernel
theorem dX0_grow_22 : decode cX0_grow 22 = .ok (.aload_n 0, 1) := by decide +kernel
theorem dX0_grow_23 : decode cX0_grow 23 = .ok (.getfield 28, 3) := by decide +kernel
theorem dX0_grow_26 : decode cX0_grow 26 = .ok (.idiv, 1) := by decide +kernel
theorem dX0_grow_27 : decode cX0_grow 27 = .ok (.istore_n 3, 1) := by decide +kernel
theorem dX0_grow_28 : decode cX0_grow 28 = .ok (.aload_n 0, 1) := by decide +kernel
theorem dX0_grow_29 : decode cX0_grow 29 = .ok (.dup, 1) := by decide +kernel
theorem dX0_grow_30 : decode cX0_grow 30 = .ok (.getfield 25, 3) := by decide +kernel
theorem dX0_grow_33 : decode cX0_grow 33 = .ok (.aload_n 0, 1) := by decide +kernel
theorem dX0_grow_34 : decode cX0_grow 34 = .ok (.getfield 28, 3) := by decide +kernel
theorem dX0_grow_37 : decode cX0_grow 37 = .ok (.irem, 1) := by decide +kernel
theorem dX0_grow_38 : decode cX0_grow 38 = .ok (.putfield 25, 3) := by decide +kernel
theorem dX0_grow_41 : decode cX0_grow 41 = .ok (.aload_n 0, 1) := by decide +kernel
theorem dX0_grow_42 : decode cX0_grow 42 = .ok (.ldc 92, 2) := by decide +kernel
theorem dX0_grow_44 : decode cX0_grow 44 = .ok (.aload_n 0, 1) := by decide +kernel
theorem dX0_grow_45 : decode cX0_grow 45 = .ok (.getfield 19, 3) := by decide +kernel
theorem dX0_grow_48 : decode cX0_grow 48 = .ok (.iload_n 3, 1) := by decide +kernel
theorem dX0_grow_49 : decode cX0_grow 49 = .ok (.aload_n 0, 1) := by decide +kernel
theorem dX0_grow_50 : decode cX0_grow 50 = .ok (.getfield 66, 3) := by decide +kernel
theorem dX0_grow_53 : decode cX0_grow 53 = .ok (.imul, 1) := by decide +kernel
theorem dX0_grow_54 : decode cX0_grow 54 = .ok (.iadd, 1) := by decide +kernel
theorem dX0_grow_55 : decode cX0_grow 55 = .ok (.invokestatic 53, 3) := by decide +kernel
theorem dX0_grow_58 : decode cX0_grow 58 = .ok (.putfield 19, 3) := by decide +kernel
theorem dX0_grow_61 : decode cX0_grow 61 = .ok (.iload_n 2, 1) := by decide +kernel
theorem dX0_grow_62 : decode cX0_grow 62 = .ok (.ifCond .eq 16, 3) := by decide +kernel
theorem dX0_grow_65 : decode cX0_grow 65 = .ok (.aload_n 0, 1) := by decide +kernel
theorem dX0_grow_66 : decode cX0_grow 66 = .ok (.dup, 1) := by decide +kernel
theorem dX0_grow_67 : decode cX0_grow 67 = .ok (.getfield 46, 3) := by decide +kernel
theorem dX0_grow_70 : decode cX0_grow 70 = .ok (.iload_n 3, 1) := by decide +kernel
theorem dX0_grow_71 : decode cX0_grow 71 = .ok (.iadd, 1) := by decide +kernel
theorem dX0_grow_72 : decode cX0_grow 72 = .ok (.putfield 46, 3) := by decide +kernel
theorem dX0_grow_75 : decode cX0_grow 75 = .ok (.goto 13, 3) := by decide +kernel
theorem dX0_grow_78 : decode cX0_grow 78 = .ok (.aload_n 0, 1) := by decide +kernel
theorem dX0_grow_79 : decode cX0_grow 79 = .ok (.dup, 1) := by decide +kernel
theorem dX0_grow_80 : decode cX0_grow 80 = .ok (.getfield 49, 3) := by decide +kernel
theorem dX0_grow_83 : decode cX0_grow 83 = .ok (.iload_n 3, 1) := by decide +kernel
theorem dX0_grow_84 : decode cX0_grow 84 = .ok (.iadd, 1) := by decide +kernel
theorem dX0_grow_85 : decode cX0_grow 85 = .ok (.putfield 49, 3) := by decide +kernel
theorem dX0_grow_88 : decode cX0_grow 88 = .ok (.return_, 1) := by decide +kernel
theorem dX1_init_0 : decode cX1_init 0 = .ok (.aload_n 0, 1) := by decide +kernel
theorem dX1_init_1 : decode cX1_init 1 = .ok (.invokespecial 1, 3) := by decide +kernel
theorem dX1_init_4 : decode cX1_init 4 = .ok (.aload_n 0, 1) := by decide +kernel
theorem dX1_init_5 : decode cX1_init 5 = .ok (.bipush 7, 2) := by decide +kernel
theorem dX1_init_7 : decode cX1_init 7 = .ok (.anewarray 9, 3) := by decide +kernel
theorem dX1_init_10 : decode cX1_init 10 = .ok (.putfield 11, 3) := by decide +kernel
theorem dX1_init_13 : decode cX1_init 13 = .ok (.iconst 0, 1) := by decide +kernel
theorem dX1_init_14 : decode cX1_init 14 = .ok (.istore_n 1, 1) := by decide +kernel
theorem dX1_init_15 : decode cX1_init 15 = .ok (.iload_n 1, 1) := by decide +kernel
theorem dX1_init_16 : decode cX1_init 16 = .ok (.aload_n 0, 1) := by decide +kernel
theorem dX1_init_17 : decode cX1_init 17 = .ok (.getfield 11, 3) := by decide +kernel
theorem dX1_init_20 : decode cX1_init 20 = .ok (.arraylength, 1) := by decide +kernel
theorem dX1_init_21 : decode cX1_init 21 = .ok (.if_icmp .ge 22, 3) := by decide +kernel
theorem dX1_init_24 : decode cX1_init 24 = .ok (.aload_n 0, 1) := by decide +kernel
theorem dX1_init_25 : decode cX1_init 25 = .ok (.getfield 11, 3) := by decide +kernel
theorem dX1_init_28 : decode cX1_init 28 = .ok (.iload_n 1, 1) := by decide +kernel
theorem dX1_init_29 : decode cX1_init 29 = .ok (.new 9, 3) := by decide +kernel
theorem dX1_init_32 : decode cX1_init 32 = .ok (.dup, 1) := by decide +kernel
theorem dX1_init_33 : decode cX1_init 33 = .ok (.invokespecial 15, 3) := by decide +kernel
theorem dX1_init_36 : decode cX1_init 36 = .ok (.aastore, 1) := by decide +kernel
theorem dX1_init_37 : decode cX1_init 37 = .ok (.iinc 1 1, 3) := by decide +kernel
theorem dX1_init_40 : decode cX1_init 40 = .ok (.goto (-25), 3) := by decide +kernel
theorem dX1_init_43 : decode cX1_init 43 = .ok (.return_, 1) := by decide +kernel
theorem dX1_draft_0 : decode cX1_draft 0 = .ok (.aload_n 0, 1) := by decide +kernel
theorem dX1_draft_1 : decode cX1_draft 1 = .ok (.aload_n 0, 1) := by decide +kernel
theorem dX1_draft_2 : decode cX1_draft 2 = .ok (.getfield 16, 3) := by decide +kernel
theorem dX1_draft_5 : decode cX1_draft 5 = .ok (.invokevirtual 20, 3) := by decide +kernel
theorem dX1_draft_8 : decode cX1_draft 8 = .ok (.astore_n 2, 1) := by decide +kernel
theorem dX1_draft_9 : decode cX1_draft 9 = .ok (.aload_n 2, 1) := by decide +kernel
theorem dX1_draft_10 : decode cX1_draft 10 = .ok (.ifnull 8, 3) := by decide +kernel
theorem dX1_draft_13 : decode cX1_draft 13 = .ok (.aload_n 2, 1) := by decide +kernel
theorem dX1_draft_14 : decode cX1_draft 14 = .ok (.aload_n 1, 1) := by decide +kernel
theorem dX1_draft_15 : decode cX1_draft 15 = .ok (.invokevirtual 24, 3) := by decide +kernel
theorem dX1_draft_18 : decode cX1_draft 18 = .ok (.return_, 1) := by decide +kernel
theorem dX1_settle_0 : decode cX1_settle 0 = .ok (.iload_n 1, 1) := by decide +kernel
theorem dX1_settle_1 : decode cX1_settle 1 = .ok (.ifCond .lt 31, 3) := by decide +kernel
theorem dX1_settle_4 : decode cX1_settle 4 = .ok (.aload_n 0, 1) := by decide +kernel
theorem dX1_settle_5 : decode cX1_settle 5 = .ok (.aload_n 0, 1) := by decide +kernel
theorem dX1_settle_6 : decode cX1_settle 6 = .ok (.getfield 16, 3) := by decide +kernel
theorem dX1_settle_9 : decode cX1_settle 9 = .ok (.iconst 1, 1) := by decide +kernel
theorem dX1_settle_10 : decode cX1_settle 10 = .ok (.iadd, 1) := by decide +kernel
theorem dX1_settle_11 : decode cX1_settle 11 = .ok (.bipush 7, 2) := by decide +kernel
theorem dX1_settle_13 : decode cX1_settle 13 = .ok (.irem, 1) := by decide +kernel
theorem dX1_settle_14 : decode cX1_settle 14 = .ok (.putfield 16, 3) := by decide +kernel
theorem dX1_settle_17 : decode cX1_settle 17 = .ok (.aload_n 0, 1) := by decide +kernel
theorem dX1_settle_18 : decode cX1_settle 18 = .ok (.aload_n 0, 1) := by decide +kernel
theorem dX1_settle_19 : decode cX1_settle 19 = .ok (.getfield 28, 3) := by decide +kernel
theorem dX1_settle_22 : decode cX1_settle 22 = .ok (.iconst 1, 1) := by decide +kernel
theorem dX1_settle_23 : decode cX1_settle 23 = .ok (.iadd, 1) := by decide +kernel
theorem dX1_settle_24 : decode cX1_settle 24 = .ok (.bipush 6, 2) := by decide +kernel
theorem dX1_settle_26 : decode cX1_settle 26 = .ok (.invokestatic 31, 3) := by decide +kernel
theorem dX1_settle_29 : decode cX1_settle 29 = .ok (.putfield 28, 3) := by decide +kernel
theorem dX1_settle_32 : decode cX1_settle 32 = .ok (.iload_n 1, 1) := by decide +kernel
theorem dX1_settle_33 : decode cX1_settle 33 = .ok (.ireturn, 1) := by decide +kernel
theorem dX1_takeBack_0 : decode cX1_takeBack 0 = .ok (.aload_n 0, 1) := by decide +kernel
theorem dX1_takeBack_1 : decode cX1_takeBack 1 = .ok (.aload_n 0, 1) := by decide +kernel
theorem dX1_takeBack_2 : decode cX1_takeBack 2 = .ok (.getfield 16, 3) := by decide +kernel
theorem dX1_takeBack_5 : decode cX1_takeBack 5 = .ok (.bipush 6, 2) := by decide +kernel
theorem dX1_takeBack_7 : decode cX1_takeBack 7 = .ok (.iadd, 1) := by decide +kernel
theorem dX1_takeBack_8 : decode cX1_takeBack 8 = .ok (.bipush 7, 2) := by decide +kernel
theorem dX1_takeBack_10 : decode cX1_takeBack 10 = .ok (.irem, 1) := by decide +kernel
theorem dX1_takeBack_11 : decode cX1_takeBack 11 = .ok (.putfield 16, 3) := by decide +kernel
theorem dX1_takeBack_14 : decode cX1_takeBack 14 = .ok (.aload_n 0, 1) := by decide +kernel
theorem dX1_takeBack_15 : decode cX1_takeBack 15 = .ok (.dup, 1) := by decide +kernel
theorem dX1_takeBack_16 : decode cX1_takeBack 16 = .ok (.getfield 28, 3) := by decide +kernel
theorem dX1_takeBack_19 : decode cX1_takeBack 19 = .ok (.iconst 1, 1) := by decide +kernel
theorem dX1_takeBack_20 : decode cX1_takeBack 20 = .ok (.isub, 1) := by decide +kernel
theorem dX1_takeBack_21 : decode cX1_takeBack 21 = .ok (.putfield 28, 3) := by decide +kernel
theorem dX1_takeBack_24 : decode cX1_takeBack 24 = .ok (.aload_n 0, 1) := by decide +kernel
theorem dX1_takeBack_25 : decode cX1_takeBack 25 = .ok (.aload_n 0, 1) := by decide +kernel
theorem dX1_takeBack_26 : decode cX1_takeBack 26 = .ok (.getfield 16, 3) := by decide +kernel
theorem dX1_takeBack_29 : decode cX1_takeBack 29 = .ok (.invokevirtual 20, 3) := by decide +kernel
theorem dX1_takeBack_32 : decode cX1_takeBack 32 = .ok (.astore_n 2, 1) := by decide +kernel
theorem dX1_takeBack_33 : decode cX1_takeBack 33 = .ok (.aload_n 2, 1) := by decide +kernel
theorem dX1_takeBack_34 : decode cX1_takeBack 34 = .ok (.ifnull 8, 3) := by decide +kernel
theorem dX1_takeBack_37 : decode cX1_takeBack 37 = .ok (.aload_n 1, 1) := by decide +kernel
theorem dX1_takeBack_38 : decode cX1_takeBack 38 = .ok (.aload_n 2, 1) := by decide +kernel
theorem dX1_takeBack_39 : decode cX1_takeBack 39 = .ok (.invokevirtual 24, 3) := by decide +kernel
theorem dX1_takeBack_42 : decode cX1_takeBack 42 = .ok (.return_, 1) := by decide +kernel
theorem dX1_rowAt_0 : decode cX1_rowAt 0 = .ok (.iload_n 1, 1) := by decide +kernel
theorem dX1_rowAt_1 : decode cX1_rowAt 1 = .ok (.ifCond .lt 21, 3) := by decide +kernel
theorem dX1_rowAt_4 : decode cX1_rowAt 4 = .ok (.iload_n 1, 1) := by decide +kernel
theorem dX1_rowAt_5 : decode cX1_rowAt 5 = .ok (.aload_n 0, 1) := by decide +kernel
theorem dX1_rowAt_6 : decode cX1_rowAt 6 = .ok (.getfield 11, 3) := by decide +kernel
theorem dX1_rowAt_9 : decode cX1_rowAt 9 = .ok (.arraylength, 1) := by decide +kernel
theorem dX1_rowAt_10 : decode cX1_rowAt 10 = .ok (.if_icmp .ge 12, 3) := by decide +kernel
theorem dX1_rowAt_13 : decode cX1_rowAt 13 = .ok (.aload_n 0, 1) := by decide +kernel
theorem dX1_rowAt_14 : decode cX1_rowAt 14 = .ok (.getfield 11, 3) := by decide +kernel
theorem dX1_rowAt_17 : decode cX1_rowAt 17 = .ok (.iload_n 1, 1) := by decide +kernel
theorem dX1_rowAt_18 : decode cX1_rowAt 18 = .ok (.aaload, 1) := by decide +kernel
theorem dX1_rowAt_19 : decode cX1_rowAt 19 = .ok (.goto 4, 3) := by decide +kernel
theorem dX1_rowAt_22 : decode cX1_rowAt 22 = .ok (.aconst_null, 1) := by decide +kernel
theorem dX1_rowAt_23 : decode cX1_rowAt 23 = .ok (.areturn, 1) := by decide +kernel
theorem dX2_init_0 : decode cX2_init 0 = .ok (.aload_n 0, 1) := by decide +kernel
theorem dX2_init_1 : decode cX2_init 1 = .ok (.invokespecial 1, 3) := by decide +kernel
theorem dX2_init_4 : decode cX2_init 4 = .ok (.aload_n 0, 1) := by decide +kernel
theorem dX2_init_5 : decode cX2_init 5 = .ok (.bipush 60, 2) := by decide +kernel
theorem dX2_init_7 : decode cX2_init 7 = .ok (.newarray .int, 2) := by decide +kernel
theorem dX2_init_9 : decode cX2_init 9 = .ok (.putfield 9, 3) := by decide +kernel
theorem dX2_init_12 : decode cX2_init 12 = .ok (.return_, 1) := by decide +kernel
theorem dX2_copyFrom_0 : decode cX2_copyFrom 0 = .ok (.aload_n 1, 1) := by decide +kernel
theorem dX2_copyFrom_1 : decode cX2_copyFrom 1 = .ok (.getfield 9, 3) := by decide +kernel
theorem dX2_copyFrom_4 : decode cX2_copyFrom 4 = .ok (.aload_n 0, 1) := by decide +kernel
theorem dX2_copyFrom_5 : decode cX2_copyFrom 5 = .ok (.getfield 9, 3) := by decide +kernel
theorem dX2_copyFrom_8 : decode cX2_copyFrom 8 = .ok (.invokestatic 13, 3) := by decide +kernel
theorem dX2_copyFrom_11 : decode cX2_copyFrom 11 = .ok (.aload_n 0, 1) := by decide +kernel
theorem dX2_copyFrom_12 : decode cX2_copyFrom 12 = .ok (.aload_n 1, 1) := by decide +kernel
theorem dX2_copyFrom_13 : decode cX2_copyFrom 13 = .ok (.getfield 19, 3) := by decide +kernel
theorem dX2_copyFrom_16 : decode cX2_copyFrom 16 = .ok (.putfield 19, 3) := by decide +kernel
theorem dX2_copyFrom_19 : decode cX2_copyFrom 19 = .ok (.aload_n 0, 1) := by decide +kernel
theorem dX2_copyFrom_20 : decode cX2_copyFrom 20 = .ok (.aload_n 1, 1) := by decide +kernel
theorem dX2_copyFrom_21 : decode cX2_copyFrom 21 = .ok (.getfield 23, 3) := by decide +kernel
theorem dX2_copyFrom_24 : decode cX2_copyFrom 24 = .ok (.putfield 23, 3) := by decide +kernel
theorem dX2_copyFrom_27 : decode cX2_copyFrom 27 = .ok (.return_, 1) := by decide +kernel
theorem dX2_add_0 : decode cX2_add 0 = .ok (.aload_n 0, 1) := by decide +kernel
theorem dX2_add_1 : decode cX2_add 1 = .ok (.getfield 19, 3) := by decide +kernel
theorem dX2_add_4 : decode cX2_add 4 = .ok (.iconst 5, 1) := by decide +kernel
theorem dX2_add_5 : decode cX2_add 5 = .ok (.imul, 1) := by decide +kernel
theorem dX2_add_6 : decode cX2_add 6 = .ok (.istore_n 2, 1) := by decide +kernel
theorem dX2_add_7 : decode cX2_add 7 = .ok (.aload_n 0, 1) := by decide +kernel
theorem dX2_add_8 : decode cX2_add 8 = .ok (.getfield 9, 3) := by decide +kernel
theorem dX2_add_11 : decode cX2_add 11 = .ok (.iload_n 2, 1) := by decide +kernel
theorem dX2_add_12 : decode cX2_add 12 = .ok (.aload_n 1, 1) := by decide +kernel
theorem dX2_add_13 : decode cX2_add 13 = .ok (.getfield 26, 3) := by decide +kernel
theorem dX2_add_16 : decode cX2_add 16 = .ok (.aload_n 1, 1) := by decide +kernel
theorem dX2_add_17 : decode cX2_add 17 = .ok (.getfield 31, 3) := by decide +kernel
theorem dX2_add_20 : decode cX2_add 20 = .ok (.iadd, 1) := by decide +kernel
theorem dX2_add_21 : decode cX2_add 21 = .ok (.invokestatic 34, 3) := by decide +kernel
theorem dX2_add_24 : decode cX2_add 24 = .ok (.aload_n 0, 1) := by decide +kernel
theorem dX2_add_25 : decode cX2_add 25 = .ok (.getfield 9, 3) := by decide +kernel
theorem dX2_add_28 : decode cX2_add 28 = .ok (.iload_n 2, 1) := by decide +kernel
theorem dX2_add_29 : decode cX2_add 29 = .ok (.iconst 1, 1) := by decide +kernel
theorem dX2_add_30 : decode cX2_add 30 = .ok (.iadd, 1) := by decide +kernel
theorem dX2_add_31 : decode cX2_add 31 = .ok (.aload_n 1, 1) := by decide +kernel
theorem dX2_add_32 : decode cX2_add 32 = .ok (.getfield 38, 3) := by decide +kernel
theorem dX2_add_35 : decode cX2_add 35 = .ok (.invokestatic 34, 3) := by decide +kernel
theorem dX2_add_38 : decode cX2_add 38 = .ok (.aload_n 0, 1) := by decide +kernel
theorem dX2_add_39 : decode cX2_add 39 = .ok (.getfield 9, 3) := by decide +kernel
theorem dX2_add_42 : decode cX2_add 42 = .ok (.iload_n 2, 1) := by decide +kernel
theorem dX2_add_43 : decode cX2_add 43 = .ok (.iconst 2, 1) := by decide +kernel
theorem dX2_add_44 : decode cX2_add 44 = .ok (.iadd, 1) := by decide +kernel
theorem dX2_add_45 : decode cX2_add 45 = .ok (.aload_n 1, 1) := by decide +kernel
theorem dX2_add_46 : decode cX2_add 46 = .ok (.getfield 41, 3) := by decide +kernel
theorem dX2_add_49 : decode cX2_add 49 = .ok (.aload_n 1, 1) := by decide +kernel
theorem dX2_add_50 : decode cX2_add 50 = .ok (.getfield 44, 3) := by decide +kernel
theorem dX2_add_53 : decode cX2_add 53 = .ok (.iadd, 1) := by decide +kernel
theorem dX2_add_54 : decode cX2_add 54 = .ok (.invokestatic 34, 3) := by decide +kernel
theorem dX2_add_57 : decode cX2_add 57 = .ok (.aload_n 0, 1) := by decide +kernel
theorem dX2_add_58 : decode cX2_add 58 = .ok (.getfield 9, 3) := by decide +kernel
theorem dX2_add_61 : decode cX2_add 61 = .ok (.iload_n 2, 1) := by decide +kernel
theorem dX2_add_62 : decode cX2_add 62 = .ok (.iconst 3, 1) := by decide +kernel
theorem dX2_add_63 : decode cX2_add 63 = .ok (.iadd, 1) := by decide +kernel
theorem dX2_add_64 : decode cX2_add 64 = .ok (.aload_n 1, 1) := by decide +kernel
theorem dX2_add_65 : decode cX2_add 65 = .ok (.getfield 47, 3) := by decide +kernel
theorem dX2_add_68 : decode cX2_add 68 = .ok (.aload_n 1, 1) := by decide +kernel
theorem dX2_add_69 : decode cX2_add 69 = .ok (.getfield 50, 3) := by decide +kernel
theorem dX2_add_72 : decode cX2_add 72 = .ok (.iadd, 1) := by decide +kernel
theorem dX2_add_73 : decode cX2_add 73 = .ok (.invokestatic 34, 3) := by decide +kernel
theorem dX2_add_76 : decode cX2_add 76 = .ok (.aload_n 0, 1) := by decide +kernel
theorem dX2_add_77 : decode cX2_add 77 = .ok (.getfield 9, 3) := by decide +kernel
theorem dX2_add_80 : decode cX2_add 80 = .ok (.iload_n 2, 1) := by decide +kernel
theorem dX2_add_81 : decode cX2_add 81 = .ok (.iconst 4, 1) := by decide +kernel
theorem dX2_add_82 : decode cX2_add 82 = .ok (.iadd, 1) := by decide +kernel
theorem dX2_add_83 : decode cX2_add 83 = .ok (.aload_n 1, 1) := by decide +kernel
theorem dX2_add_84 : decode cX2_add 84 = .ok (.getfield 53, 3) := by decide +kernel
theorem dX2_add_87 : decode cX2_add 87 = .ok (.invokestatic 34, 3) := by decide +kernel
theorem dX2_add_90 : decode cX2_add 90 = .ok (.aload_n 0, 1) := by decide +kernel
theorem dX2_add_91 : decode cX2_add 91 = .ok (.aload_n 0, 1) := by decide +kernel
theorem dX2_add_92 : decode cX2_add 92 = .ok (.getfield 19, 3) := by decide +kernel
theorem dX2_add_95 : decode cX2_add 95 = .ok (.iconst 1, 1) := by decide +kernel
theorem dX2_add_96 : decode cX2_add 96 = .ok (.iadd, 1) := by decide +kernel
theorem dX2_add_97 : decode cX2_add 97 = .ok (.bipush 12, 2) := by decide +kernel
theorem dX2_add_99 : decode cX2_add 99 = .ok (.irem, 1) := by decide +kernel
theorem dX2_add_100 : decode cX2_add 100 = .ok (.putfield 19, 3) := by decide +kernel
theorem dX2_add_103 : decode cX2_add 103 = .ok (.aload_n 0, 1) := by decide +kernel
theorem dX2_add_104 : decode cX2_add 104 = .ok (.aload_n 0, 1) := by decide +kernel
theorem dX2_add_105 : decode cX2_add 105 = .ok (.getfield 23, 3) := by decide +kernel
theorem dX2_add_108 : decode cX2_add 108 = .ok (.iconst 1, 1) := by decide +kernel
theorem dX2_add_109 : decode cX2_add 109 = .ok (.iadd, 1) := by decide +kernel
theorem dX2_add_110 : decode cX2_add 110 = .ok (.bipush 12, 2) := by decide +kernel
theorem dX2_add_112 : decode cX2_add 112 = .ok (.invokestatic 56, 3) := by decide +kernel
theorem dX2_add_115 : decode cX2_add 115 = .ok (.putfield 23, 3) := by decide +kernel
theorem dX2_add_118 : decode cX2_add 118 = .ok (.return_, 1) := by decide +kernel
theorem dX2_about_0 : decode cX2_about 0 = .ok (.aload_n 0, 1) := by decide +kernel
theorem dX2_about_1 : decode cX2_about 1 = .ok (.getfield 19, 3) := by decide +kernel
theorem dX2_about_4 : decode cX2_about 4 = .ok (.bipush 12, 2) := by decide +kernel
theorem dX2_about_6 : decode cX2_about 6 = .ok (.iadd, 1) := by decide +kernel
theorem dX2_about_7 : decode cX2_about 7 = .ok (.iconst 1, 1) := by decide +kernel
theorem dX2_about_8 : decode cX2_about 8 = .ok (.isub, 1) := by decide +kernel
theorem dX2_about_9 : decode cX2_about 9 = .ok (.iload_n 1, 1) := by decide +kernel
theorem dX2_about_10 : decode cX2_about 10 = .ok (.isub, 1) := by decide +kernel
theorem dX2_about_11 : decode cX2_about 11 = .ok (.bipush 12, 2) := by decide +kernel
theorem dX2_about_13 : decode cX2_about 13 = .ok (.irem, 1) := by decide +kernel
theorem dX2_about_14 : decode cX2_about 14 = .ok (.istore_n 3, 1) := by decide +kernel
theorem dX2_about_15 : decode cX2_about 15 = .ok (.aload_n 0, 1) := by decide +kernel
theorem dX2_about_16 : decode cX2_about 16 = .ok (.getfield 9, 3) := by decide +kernel
theorem dX2_about_19 : decode cX2_about 19 = .ok (.iload_n 3, 1) := by decide +kernel
theorem dX2_about_20 : decode cX2_about 20 = .ok (.iconst 5, 1) := by decide +kernel
theorem dX2_about_21 : decode cX2_about 21 = .ok (.imul, 1) := by decide +kernel
theorem dX2_about_22 : decode cX2_about 22 = .ok (.iload_n 2, 1) := by decide +kernel
theorem dX2_about_23 : decode cX2_about 23 = .ok (.iadd, 1) := by decide +kernel
theorem dX2_about_24 : decode cX2_about 24 = .ok (.invokestatic 62, 3) := by decide +kernel
theorem dX2_about_27 : decode cX2_about 27 = .ok (.ireturn, 1) := by decide +kernel
theorem dX3_init_0 : decode cX3_init 0 = .ok (.aload_n 0, 1) := by decide +kernel
theorem dX3_init_1 : decode cX3_init 1 = .ok (.invokespecial 3, 3) := by decide +kernel
theorem dX3_init_4 : decode cX3_init 4 = .ok (.aload_n 0, 1) := by decide +kernel
theorem dX3_init_5 : decode cX3_init 5 = .ok (.new 9, 3) := by decide +kernel
theorem dX3_init_8 : decode cX3_init 8 = .ok (.dup, 1) := by decide +kernel
theorem dX3_init_9 : decode cX3_init 9 = .ok (.invokespecial 11, 3) := by decide +kernel
theorem dX3_init_12 : decode cX3_init 12 = .ok (.putfield 12, 3) := by decide +kernel
theorem dX3_init_15 : decode cX3_init 15 = .ok (.aload_n 0, 1) := by decide +kernel
theorem dX3_init_16 : decode cX3_init 16 = .ok (.new 18, 3) := by decide +kernel
theorem dX3_init_19 : decode cX3_init 19 = .ok (.dup, 1) := by decide +kernel
theorem dX3_init_20 : decode cX3_init 20 = .ok (.invokespecial 20, 3) := by decide +kernel
theorem dX3_init_23 : decode cX3_init 23 = .ok (.putfield 21, 3) := by decide +kernel
theorem dX3_init_26 : decode cX3_init 26 = .ok (.aload_n 0, 1) := by decide +kernel
theorem dX3_init_27 : decode cX3_init 27 = .ok (.new 25, 3) := by decide +kernel
theorem dX3_init_30 : decode cX3_init 30 = .ok (.dup, 1) := by decide +kernel
theorem dX3_init_31 : decode cX3_init 31 = .ok (.invokespecial 27, 3) := by decide +kernel
theorem dX3_init_34 : decode cX3_init 34 = .ok (.putfield 28, 3) := by decide +kernel
theorem dX3_init_37 : decode cX3_init 37 = .ok (.aload_n 0, 1) := by decide +kernel
theorem dX3_init_38 : decode cX3_init 38 = .ok (.iconst 0, 1) := by decide +kernel
theorem dX3_init_39 : decode cX3_init 39 = .ok (.putfield 32, 3) := by decide +kernel
theorem dX3_init_42 : decode cX3_init 42 = .ok (.aload_n 0, 1) := by decide +kernel
theorem dX3_init_43 : decode cX3_init 43 = .ok (.iconst 5, 1) := by decide +kernel
theorem dX3_init_44 : decode cX3_init 44 = .ok (.putfield 36, 3) := by decide +kernel
theorem dX3_init_47 : decode cX3_init 47 = .ok (.return_, 1) := by decide +kernel
theorem dX3_copyFrom_0 : decode cX3_copyFrom 0 = .ok (.aload_n 0, 1) := by decide +kernel
theorem dX3_copyFrom_1 : decode cX3_copyFrom 1 = .ok (.getfield 12, 3) := by decide +kernel
theorem dX3_copyFrom_4 : decode cX3_copyFrom 4 = .ok (.aload_n 1, 1) := by decide +kernel
theorem dX3_copyFrom_5 : decode cX3_copyFrom 5 = .ok (.getfield 12, 3) := by decide +kernel
theorem dX3_copyFrom_8 : decode cX3_copyFrom 8 = .ok (.invokevirtual 39, 3) := by decide +kernel
theorem dX3_copyFrom_11 : decode cX3_copyFrom 11 = .ok (.aload_n 0, 1) := by decide +kernel
theorem dX3_copyFrom_12 : decode cX3_copyFrom 12 = .ok (.getfield 21, 3) := by decide +kernel
theorem dX3_copyFrom_15 : decode cX3_copyFrom 15 = .ok (.aload_n 1, 1) := by decide +kernel
theorem dX3_copyFrom_16 : decode cX3_copyFrom 16 = .ok (.getfield 21, 3) := by decide +kernel
theorem dX3_copyFrom_19 : decode cX3_copyFrom 19 = .ok (.invokevirtual 43, 3) := by decide +kernel
theorem dX3_copyFrom_22 : decode cX3_copyFrom 22 = .ok (.aload_n 0, 1) := by decide +kernel
theorem dX3_copyFrom_23 : decode cX3_copyFrom 23 = .ok (.getfield 28, 3) := by decide +kernel
theorem dX3_copyFrom_26 : decode cX3_copyFrom 26 = .ok (.aload_n 1, 1) := by decide +kernel
theorem dX3_copyFrom_27 : decode cX3_copyFrom 27 = .ok (.getfield 28, 3) := by decide +kernel
theorem dX3_copyFrom_30 : decode cX3_copyFrom 30 = .ok (.invokevirtual 46, 3) := by decide +kernel
theorem dX3_copyFrom_33 : decode cX3_copyFrom 33 = .ok (.aload_n 0, 1) := by decide +kernel
theorem dX3_copyFrom_34 : decode cX3_copyFrom 34 = .ok (.aload_n 1, 1) := by decide +kernel
theorem dX3_copyFrom_35 : decode cX3_copyFrom 35 = .ok (.getfield 49, 3) := by decide +kernel
theorem dX3_copyFrom_38 : decode cX3_copyFrom 38 = .ok (.putfield 49, 3) := by decide +kernel
theorem dX3_copyFrom_41 : decode cX3_copyFrom 41 = .ok (.aload_n 0, 1) := by decide +kernel
theorem dX3_copyFrom_42 : decode cX3_copyFrom 42 = .ok (.aload_n 1, 1) := by decide +kernel
theorem dX3_copyFrom_43 : decode cX3_copyFrom 43 = .ok (.getfield 32, 3) := by decide +kernel
theorem dX3_copyFrom_46 : decode cX3_copyFrom 46 = .ok (.putfield 32, 3) := by decide +kernel
theorem dX3_copyFrom_49 : decode cX3_copyFrom 49 = .ok (.aload_n 0, 1) := by decide +kernel
theorem dX3_copyFrom_50 : decode cX3_copyFrom 50 = .ok (.aload_n 1, 1) := by decide +kernel
theorem dX3_copyFrom_51 : decode cX3_copyFrom 51 = .ok (.getfield 36, 3) := by decide +kernel
theorem dX3_copyFrom_54 : decode cX3_copyFrom 54 = .ok (.putfield 36, 3) := by decide +kernel
theorem dX3_copyFrom_57 : decode cX3_copyFrom 57 = .ok (.aload_n 0, 1) := by decide +kernel
theorem dX3_copyFrom_58 : decode cX3_copyFrom 58 = .ok (.aload_n 1, 1) := by decide +kernel
theorem dX3_copyFrom_59 : decode cX3_copyFrom 59 = .ok (.getfield 52, 3) := by decide +kernel
theorem dX3_copyFrom_62 : decode cX3_copyFrom 62 = .ok (.putfield 52, 3) := by decide +kernel
theorem dX3_copyFrom_65 : decode cX3_copyFrom 65 = .ok (.aload_n 0, 1) := by decide +kernel
theorem dX3_copyFrom_66 : decode cX3_copyFrom 66 = .ok (.aload_n 1, 1) := by decide +kernel
theorem dX3_copyFrom_67 : decode cX3_copyFrom 67 = .ok (.getfield 55, 3) := by decide +kernel
theorem dX3_copyFrom_70 : decode cX3_copyFrom 70 = .ok (.putfield 55, 3) := by decide +kernel
theorem dX3_copyFrom_73 : decode cX3_copyFrom 73 = .ok (.return_, 1) := by decide +kernel
theorem dX3_beginRide_0 : decode cX3_beginRide 0 = .ok (.aload_n 0, 1) := by decide +kernel
theorem dX3_beginRide_1 : decode cX3_beginRide 1 = .ok (.getfield 32, 3) := by decide +kernel
theorem dX3_beginRide_4 : decode cX3_beginRide 4 = .ok (.ifCond .eq 6, 3) := by decide +kernel
theorem dX3_beginRide_7 : decode cX3_beginRide 7 = .ok (.bipush (-5), 2) := by decide +kernel
theorem dX3_beginRide_9 : decode cX3_beginRide 9 = .ok (.ireturn, 1) := by decide +kernel
theorem dX3_beginRide_10 : decode cX3_beginRide 10 = .ok (.aload_n 0, 1) := by decide +kernel
theorem dX3_beginRide_11 : decode cX3_beginRide 11 = .ok (.getfield 12, 3) := by decide +kernel
theorem dX3_beginRide_14 : decode cX3_beginRide 14 = .ok (.aload_n 0, 1) := by decide +kernel
theorem dX3_beginRide_15 : decode cX3_beginRide 15 = .ok (.getfield 49, 3) := by decide +kernel
theorem dX3_beginRide_18 : decode cX3_beginRide 18 = .ok (.invokevirtual 58, 3) := by decide +kernel
theorem dX3_beginRide_21 : decode cX3_beginRide 21 = .ok (.istore_n 1, 1) := by decide +kernel
theorem dX3_beginRide_22 : decode cX3_beginRide 22 = .ok (.aload_n 0, 1) := by decide +kernel
theorem dX3_beginRide_23 : decode cX3_beginRide 23 = .ok (.getfield 21, 3) := by decide +kernel
theorem dX3_beginRide_26 : decode cX3_beginRide 26 = .ok (.aload_n 0, 1) := by decide +kernel
theorem dX3_beginRide_27 : decode cX3_beginRide 27 = .ok (.getfield 49, 3) := by decide +kernel
theorem dX3_beginRide_30 : decode cX3_beginRide 30 = .ok (.aload_n 0, 1) := by decide +kernel
theorem dX3_beginRide_31 : decode cX3_beginRide 31 = .ok (.getfield 12, 3) := by decide +kernel
theorem dX3_beginRide_34 : decode cX3_beginRide 34 = .ok (.iload_n 1, 1) := by decide +kernel
theorem dX3_beginRide_35 : decode cX3_beginRide 35 = .ok (.iconst 0, 1) := by decide +kernel
theorem dX3_beginRide_36 : decode cX3_beginRide 36 = .ok (.invokevirtual 62, 3) := by decide +kernel
theorem dX3_beginRide_39 : decode cX3_beginRide 39 = .ok (.invokevirtual 66, 3) := by decide +kernel
theorem dX3_beginRide_42 : decode cX3_beginRide 42 = .ok (.aload_n 0, 1) := by decide +kernel
theorem dX3_beginRide_43 : decode cX3_beginRide 43 = .ok (.iconst 1, 1) := by decide +kernel
theorem dX3_beginRide_44 : decode cX3_beginRide 44 = .ok (.putfield 32, 3) := by decide +kernel
theorem dX3_beginRide_47 : decode cX3_beginRide 47 = .ok (.iload_n 1, 1) := by decide +kernel
theorem dX3_beginRide_48 : decode cX3_beginRide 48 = .ok (.ireturn, 1) := by decide +kernel
theorem dX3_makeDrive_0 : decode cX3_makeDrive 0 = .ok (.iload_n 2, 1) := by decide +kernel
theorem dX3_makeDrive_1 : decode cX3_makeDrive 1 = .ok (.iload_n 3, 1) := by decide +kernel
theorem dX3_makeDrive_2 : decode cX3_makeDrive 2 = .ok (.invokestatic 70, 3) := by decide +kernel
theorem dX3_makeDrive_5 : decode cX3_makeDrive 5 = .ok (.ifCond .ne 6, 3) := by decide +kernel
theorem dX3_makeDrive_8 : decode cX3_makeDrive 8 = .ok (.bipush (-2), 2) := by decide +kernel
theorem dX3_makeDrive_10 : decode cX3_makeDrive 10 = .ok (.ireturn, 1) := by decide +kernel
theorem dX3_makeDrive_11 : decode cX3_makeDrive 11 = .ok (.aload_n 0, 1) := by decide +kernel
theorem dX3_makeDrive_12 : decode cX3_makeDrive 12 = .ok (.getfield 32, 3) := by decide +kernel
theorem dX3_makeDrive_15 : decode cX3_makeDrive 15 = .ok (.iconst 1, 1) := by decide +kernel
theorem dX3_makeDrive_16 : decode cX3_makeDrive 16 = .ok (.if_icmp .eq 6, 3) := by decide +kernel
theorem dX3_makeDrive_19 : decode cX3_makeDrive 19 = .ok (.bipush (-5), 2) := by decide +kernel
theorem dX3_makeDrive_21 : decode cX3_makeDrive 21 = .ok (.ireturn, 1) := by decide +kernel
theorem dX3_makeDrive_22 : decode cX3_makeDrive 22 = .ok (.aload_n 1, 1) := by decide +kernel
theorem dX3_makeDrive_23 : decode cX3_makeDrive 23 = .ok (.aload_n 0, 1) := by decide +kernel
theorem dX3_makeDrive_24 : decode cX3_makeDrive 24 = .ok (.getfield 21, 3) := by decide +kernel
theorem dX3_makeDrive_27 : decode cX3_makeDrive 27 = .ok (.invokevirtual 74, 3) := by decide +kernel
theorem dX3_makeDrive_30 : decode cX3_makeDrive 30 = .ok (.aload_n 1, 1) := by decide +kernel
theorem dX3_makeDrive_31 : decode cX3_makeDrive 31 = .ok (.iconst 1, 1) := by decide +kernel
theorem dX3_makeDrive_32 : decode cX3_makeDrive 32 = .ok (.putfield 79, 3) := by decide +kernel
theorem dX3_makeDrive_35 : decode cX3_makeDrive 35 = .ok (.aload_n 1, 1) := by decide +kernel
theorem dX3_makeDrive_36 : decode cX3_makeDrive 36 = .ok (.aload_n 0, 1) := by decide +kernel
theorem dX3_makeDrive_37 : decode cX3_makeDrive 37 = .ok (.getfield 12, 3) := by decide +kernel
theorem dX3_makeDrive_40 : decode cX3_makeDrive 40 = .ok (.aload_n 0, 1) := by decide +kernel
theorem dX3_makeDrive_41 : decode cX3_makeDrive 41 = .ok (.getfield 49, 3) := by decide +kernel
theorem dX3_makeDrive_44 : decode cX3_makeDrive 44 = .ok (.iload_n 2, 1) := by decide +kernel
theorem dX3_makeDrive_45 : decode cX3_makeDrive 45 = .ok (.iload_n 3, 1) := by decide +kernel
theorem dX3_makeDrive_46 : decode cX3_makeDrive 46 = .ok (.invokevirtual 83, 3) := by decide +kernel
theorem dX3_makeDrive_49 : decode cX3_makeDrive 49 = .ok (.aload_n 0, 1) := by decide +kernel
theorem dX3_makeDrive_50 : decode cX3_makeDrive 50 = .ok (.getfield 21, 3) := by decide +kernel
theorem dX3_makeDrive_53 : decode cX3_makeDrive 53 = .ok (.aload_n 1, 1) := by decide +kernel
theorem dX3_makeDrive_54 : decode cX3_makeDrive 54 = .ok (.getfield 87, 3) := by decide +kernel
theorem dX3_makeDrive_57 : decode cX3_makeDrive 57 = .ok (.putfield 90, 3) := by decide +kernel
theorem dX3_makeDrive_60 : decode cX3_makeDrive 60 = .ok (.aload_n 0, 1) := by decide +kernel
theorem dX3_makeDrive_61 : decode cX3_makeDrive 61 = .ok (.getfield 21, 3) := by decide +kernel
theorem dX3_makeDrive_64 : decode cX3_makeDrive 64 = .ok (.aload_n 1, 1) := by decide +kernel
theorem dX3_makeDrive_65 : decode cX3_makeDrive 65 = .ok (.getfield 91, 3) := by decide +kernel
theorem dX3_makeDrive_68 : decode cX3_makeDrive 68 = .ok (.putfield 94, 3) := by decide +kernel
theorem dX3_makeDrive_71 : decode cX3_makeDrive 71 = .ok (.aload_n 0, 1) := by decide +kernel
theorem dX3_makeDrive_72 : decode cX3_makeDrive 72 = .ok (.getfield 21, 3) := by decide +kernel
theorem dX3_makeDrive_75 : decode cX3_makeDrive 75 = .ok (.aload_n 1, 1) := by decide +kernel
theorem dX3_makeDrive_76 : decode cX3_makeDrive 76 = .ok (.getfield 95, 3) := by decide +kernel
theorem dX3_makeDrive_79 : decode cX3_makeDrive 79 = .ok (.putfield 98, 3) := by decide +kernel
theorem dX3_makeDrive_82 : decode cX3_makeDrive 82 = .ok (.aload_n 0, 1) := by decide +kernel
theorem dX3_makeDrive_83 : decode cX3_makeDrive 83 = .ok (.getfield 21, 3) := by decide +kernel
theorem dX3_makeDrive_86 : decode cX3_makeDrive 86 = .ok (.dup, 1) := by decide +kernel
theorem dX3_makeDrive_87 : decode cX3_makeDrive 87 = .ok (.getfield 99, 3) := by decide +kernel
theorem dX3_makeDrive_90 : decode cX3_makeDrive 90 = .ok (.aload_n 1, 1) := by decide +kernel
theorem dX3_makeDrive_91 : decode cX3_makeDrive 91 = .ok (.getfield 102, 3) := by decide +kernel
theorem dX3_makeDrive_94 : decode cX3_makeDrive 94 = .ok (.iadd, 1) := by decide +kernel
theorem dX3_makeDrive_95 : decode cX3_makeDrive 95 = .ok (.putfield 99, 3) := by decide +kernel
theorem dX3_makeDrive_98 : decode cX3_makeDrive 98 = .ok (.aload_n 0, 1) := by decide +kernel
theorem dX3_makeDrive_99 : decode cX3_makeDrive 99 = .ok (.getfield 21, 3) := by decide +kernel
theorem dX3_makeDrive_102 : decode cX3_makeDrive 102 = .ok (.dup, 1) := by decide +kernel
theorem dX3_makeDrive_103 : decode cX3_makeDrive 103 = .ok (.getfield 103, 3) := by decide +kernel
theorem dX3_makeDrive_106 : decode cX3_makeDrive 106 = .ok (.aload_n 1, 1) := by decide +kernel
theorem dX3_makeDrive_107 : decode cX3_makeDrive 107 = .ok (.getfield 106, 3) := by decide +kernel
theorem dX3_makeDrive_110 : decode cX3_makeDrive 110 = .ok (.iadd, 1) := by decide +kernel
theorem dX3_makeDrive_111 : decode cX3_makeDrive 111 = .ok (.putfield 103, 3) := by decide +kernel
theorem dX3_makeDrive_114 : decode cX3_makeDrive 114 = .ok (.aload_n 0, 1) := by decide +kernel
theorem dX3_makeDrive_115 : decode cX3_makeDrive 115 = .ok (.getfield 21, 3) := by decide +kernel
theorem dX3_makeDrive_118 : decode cX3_makeDrive 118 = .ok (.dup, 1) := by decide +kernel
theorem dX3_makeDrive_119 : decode cX3_makeDrive 119 = .ok (.getfield 107, 3) := by decide +kernel
theorem dX3_makeDrive_122 : decode cX3_makeDrive 122 = .ok (.iload_n 2, 1) := by decide +kernel
theorem dX3_makeDrive_123 : decode cX3_makeDrive 123 = .ok (.iadd, 1) := by decide +kernel
theorem dX3_makeDrive_124 : decode cX3_makeDrive 124 = .ok (.putfield 107, 3) := by decide +kernel
theorem dX3_makeDrive_127 : decode cX3_makeDrive 127 = .ok (.aload_n 0, 1) := by decide +kernel
theorem dX3_makeDrive_128 : decode cX3_makeDrive 128 = .ok (.getfield 21, 3) := by decide +kernel
theorem dX3_makeDrive_131 : decode cX3_makeDrive 131 = .ok (.dup, 1) := by decide +kernel
theorem dX3_makeDrive_132 : decode cX3_makeDrive 132 = .ok (.getfield 110, 3) := by decide +kernel
theorem dX3_makeDrive_135 : decode cX3_makeDrive 135 = .ok (.iload_n 3, 1) := by decide +kernel
theorem dX3_makeDrive_136 : decode cX3_makeDrive 136 = .ok (.iadd, 1) := by decide +kernel
theorem dX3_makeDrive_137 : decode cX3_makeDrive 137 = .ok (.putfield 110, 3) := by decide +kernel
theorem dX3_makeDrive_140 : decode cX3_makeDrive 140 = .ok (.aload_n 0, 1) := by decide +kernel
theorem dX3_makeDrive_141 : decode cX3_makeDrive 141 = .ok (.aload_n 0, 1) := by decide +kernel
theorem dX3_makeDrive_142 : decode cX3_makeDrive 142 = .ok (.getfield 49, 3) := by decide +kernel
theorem dX3_makeDrive_145 : decode cX3_makeDrive 145 = .ok (.iload_n 3, 1) := by decide +kernel
theorem dX3_makeDrive_146 : decode cX3_makeDrive 146 = .ok (.iadd, 1) := by decide +kernel
theorem dX3_makeDrive_147 : decode cX3_makeDrive 147 = .ok (.ldc 113, 2) := by decide +kernel
theorem dX3_makeDrive_149 : decode cX3_makeDrive 149 = .ok (.irem, 1) := by decide +kernel
theorem dX3_makeDrive_150 : decode cX3_makeDrive 150 = .ok (.putfield 49, 3) := by decide +kernel
theorem dX3_makeDrive_153 : decode cX3_makeDrive 153 = .ok (.aload_n 1, 1) := by decide +kernel
theorem dX3_makeDrive_154 : decode cX3_makeDrive 154 = .ok (.getfield 102, 3) := by decide +kernel
theorem dX3_makeDrive_157 : decode cX3_makeDrive 157 = .ok (.aload_n 1, 1) := by decide +kernel
theorem dX3_makeDrive_158 : decode cX3_makeDrive 158 = .ok (.getfield 106, 3) := by decide +kernel
theorem dX3_makeDrive_161 : decode cX3_makeDrive 161 = .ok (.iadd, 1) := by decide +kernel
theorem dX3_makeDrive_162 : decode cX3_makeDrive 162 = .ok (.ireturn, 1) := by decide +kernel
theorem dX3_letTimePass_0 : decode cX3_letTimePass 0 = .ok (.iload_n 1, 1) := by decide +kernel
theorem dX3_letTimePass_1 : decode cX3_letTimePass 1 = .ok (.iconst 1, 1) := by decide +kernel
theorem dX3_letTimePass_2 : decode cX3_letTimePass 2 = .ok (.sipush 9999, 3) := by decide +kernel
theorem dX3_letTimePass_5 : decode cX3_letTimePass 5 = .ok (.invokestatic 114, 3) := by decide +kernel
theorem dX3_letTimePass_8 : decode cX3_letTimePass 8 = .ok (.ifCond .ne 6, 3) := by decide +kernel
theorem dX3_letTimePass_11 : decode cX3_letTimePass 11 = .ok (.bipush (-2), 2) := by decide +kernel
theorem dX3_letTimePass_13 : decode cX3_letTimePass 13 = .ok (.ireturn, 1) := by decide +kernel
theorem dX3_letTimePass_14 : decode cX3_letTimePass 14 = .ok (.aload_n 0, 1) := by decide +kernel
theorem dX3_letTimePass_15 : decode cX3_letTimePass 15 = .ok (.getfield 32, 3) := by decide +kernel
theorem dX3_letTimePass_18 : decode cX3_letTimePass 18 = .ok (.iconst 1, 1) := by decide +kernel
theorem dX3_letTimePass_19 : decode cX3_letTimePass 19 = .ok (.if_icmp .ne 6, 3) := by decide +kernel
theorem dX3_letTimePass_22 : decode cX3_letTimePass 22 = .ok (.bipush (-5), 2) := by decide +kernel
theorem dX3_letTimePass_24 : decode cX3_letTimePass 24 = .ok (.ireturn, 1) := by decide +kernel
theorem dX3_letTimePass_25 : decode cX3_letTimePass 25 = .ok (.aload_n 0, 1) := by decide +kernel
theorem dX3_letTimePass_26 : decode cX3_letTimePass 26 = .ok (.getfield 32, 3) := by decide +kernel
theorem dX3_letTimePass_29 : decode cX3_letTimePass 29 = .ok (.iconst 2, 1) := by decide +kernel
theorem dX3_letTimePass_30 : decode cX3_letTimePass 30 = .ok (.if_icmp .ne 16, 3) := by decide +kernel
theorem dX3_letTimePass_33 : decode cX3_letTimePass 33 = .ok (.aload_n 0, 1) := by decide +kernel
theorem dX3_letTimePass_34 : decode cX3_letTimePass 34 = .ok (.getfield 21, 3) := by decide +kernel
theorem dX3_letTimePass_37 : decode cX3_letTimePass 37 = .ok (.dup, 1) := by decide +kernel
theorem dX3_letTimePass_38 : decode cX3_letTimePass 38 = .ok (.getfield 118, 3) := by decide +kernel
theorem dX3_letTimePass_41 : decode cX3_letTimePass 41 = .ok (.iload_n 1, 1) := by decide +kernel
theorem dX3_letTimePass_42 : decode cX3_letTimePass 42 = .ok (.iadd, 1) := by decide +kernel
theorem dX3_letTimePass_43 : decode cX3_letTimePass 43 = .ok (.putfield 118, 3) := by decide +kernel
theorem dX3_letTimePass_46 : decode cX3_letTimePass 46 = .ok (.aload_n 0, 1) := by decide +kernel
theorem dX3_letTimePass_47 : decode cX3_letTimePass 47 = .ok (.aload_n 0, 1) := by decide +kernel
theorem dX3_letTimePass_48 : decode cX3_letTimePass 48 = .ok (.getfield 49, 3) := by decide +kernel
theorem dX3_letTimePass_51 : decode cX3_letTimePass 51 = .ok (.iload_n 1, 1) := by decide +kernel
theorem dX3_letTimePass_52 : decode cX3_letTimePass 52 = .ok (.iadd, 1) := by decide +kernel
theorem dX3_letTimePass_53 : decode cX3_letTimePass 53 = .ok (.ldc 113, 2) := by decide +kernel
theorem dX3_letTimePass_55 : decode cX3_letTimePass 55 = .ok (.irem, 1) := by decide +kernel
theorem dX3_letTimePass_56 : decode cX3_letTimePass 56 = .ok (.putfield 49, 3) := by decide +kernel
theorem dX3_letTimePass_59 : decode cX3_letTimePass 59 = .ok (.aload_n 0, 1) := by decide +kernel
theorem dX3_letTimePass_60 : decode cX3_letTimePass 60 = .ok (.getfield 49, 3) := by decide +kernel
theorem dX3_letTimePass_63 : decode cX3_letTimePass 63 = .ok (.ireturn, 1) := by decide +kernel
theorem dX3_turnHalt_0 : decode cX3_turnHalt 0 = .ok (.aload_n 0, 1) := by decide +kernel
theorem dX3_turnHalt_1 : decode cX3_turnHalt 1 = .ok (.getfield 32, 3) := by decide +kernel
theorem dX3_turnHalt_4 : decode cX3_turnHalt 4 = .ok (.ifCond .ne 6, 3) := by decide +kernel
theorem dX3_turnHalt_7 : decode cX3_turnHalt 7 = .ok (.bipush (-5), 2) := by decide +kernel
theorem dX3_turnHalt_9 : decode cX3_turnHalt 9 = .ok (.ireturn, 1) := by decide +kernel
theorem dX3_turnHalt_10 : decode cX3_turnHalt 10 = .ok (.aload_n 0, 1) := by decide +kernel
theorem dX3_turnHalt_11 : decode cX3_turnHalt 11 = .ok (.aload_n 0, 1) := by decide +kernel
theorem dX3_turnHalt_12 : decode cX3_turnHalt 12 = .ok (.getfield 32, 3) := by decide +kernel
theorem dX3_turnHalt_15 : decode cX3_turnHalt 15 = .ok (.iconst 1, 1) := by decide +kernel
theorem dX3_turnHalt_16 : decode cX3_turnHalt 16 = .ok (.if_icmp .ne 7, 3) := by decide +kernel
theorem dX3_turnHalt_19 : decode cX3_turnHalt 19 = .ok (.iconst 2, 1) := by decide +kernel
theorem dX3_turnHalt_20 : decode cX3_turnHalt 20 = .ok (.goto 4, 3) := by decide +kernel
theorem dX3_turnHalt_23 : decode cX3_turnHalt 23 = .ok (.iconst 1, 1) := by decide +kernel
theorem dX3_turnHalt_24 : decode cX3_turnHalt 24 = .ok (.putfield 32, 3) := by decide +kernel
theorem dX3_turnHalt_27 : decode cX3_turnHalt 27 = .ok (.aload_n 0, 1) := by decide +kernel
theorem dX3_turnHalt_28 : decode cX3_turnHalt 28 = .ok (.getfield 32, 3) := by decide +kernel
theorem dX3_turnHalt_31 : decode cX3_turnHalt 31 = .ok (.ireturn, 1) := by decide +kernel
theorem dX3_takeExtra_0 : decode cX3_takeExtra 0 = .ok (.aload_n 0, 1) := by decide +kernel
theorem dX3_takeExtra_1 : decode cX3_takeExtra 1 = .ok (.getfield 32, 3) := by decide +kernel
theorem dX3_takeExtra_4 : decode cX3_takeExtra 4 = .ok (.ifCond .ne 6, 3) := by decide +kernel
theorem dX3_takeExtra_7 : decode cX3_takeExtra 7 = .ok (.bipush (-5), 2) := by decide +kernel
theorem dX3_takeExtra_9 : decode cX3_takeExtra 9 = .ok (.ireturn, 1) := by decide +kernel
theorem dX3_takeExtra_10 : decode cX3_takeExtra 10 = .ok (.aload_n 0, 1) := by decide +kernel
theorem dX3_takeExtra_11 : decode cX3_takeExtra 11 = .ok (.getfield 21, 3) := by decide +kernel
theorem dX3_takeExtra_14 : decode cX3_takeExtra 14 = .ok (.getfield 121, 3) := by decide +kernel
theorem dX3_takeExtra_17 : decode cX3_takeExtra 17 = .ok (.bipush 9, 2) := by decide +kernel
theorem dX3_takeExtra_19 : decode cX3_takeExtra 19 = .ok (.if_icmp .lt 6, 3) := by decide +kernel
theorem dX3_takeExtra_22 : decode cX3_takeExtra 22 = .ok (.bipush (-4), 2) := by decide +kernel
theorem dX3_takeExtra_24 : decode cX3_takeExtra 24 = .ok (.ireturn, 1) := by decide +kernel
theorem dX3_takeExtra_25 : decode cX3_takeExtra 25 = .ok (.aload_n 0, 1) := by decide +kernel
theorem dX3_takeExtra_26 : decode cX3_takeExtra 26 = .ok (.getfield 21, 3) := by decide +kernel
theorem dX3_takeExtra_29 : decode cX3_takeExtra 29 = .ok (.dup, 1) := by decide +kernel
theorem dX3_takeExtra_30 : decode cX3_takeExtra 30 = .ok (.getfield 121, 3) := by decide +kernel
theorem dX3_takeExtra_33 : decode cX3_takeExtra 33 = .ok (.iconst 1, 1) := by decide +kernel
theorem dX3_takeExtra_34 : decode cX3_takeExtra 34 = .ok (.iadd, 1) := by decide +kernel
theorem dX3_takeExtra_35 : decode cX3_takeExtra 35 = .ok (.putfield 121, 3) := by decide +kernel
theorem dX3_takeExtra_38 : decode cX3_takeExtra 38 = .ok (.aload_n 0, 1) := by decide +kernel
theorem dX3_takeExtra_39 : decode cX3_takeExtra 39 = .ok (.getfield 21, 3) := by decide +kernel
theorem dX3_takeExtra_42 : decode cX3_takeExtra 42 = .ok (.dup, 1) := by decide +kernel
theorem dX3_takeExtra_43 : decode cX3_takeExtra 43 = .ok (.getfield 124, 3) := by decide +kernel
theorem dX3_takeExtra_46 : decode cX3_takeExtra 46 = .ok (.aload_n 0, 1) := by decide +kernel
theorem dX3_takeExtra_47 : decode cX3_takeExtra 47 = .ok (.getfield 36, 3) := by decide +kernel
theorem dX3_takeExtra_50 : decode cX3_takeExtra 50 = .ok (.iadd, 1) := by decide +kernel
theorem dX3_takeExtra_51 : decode cX3_takeExtra 51 = .ok (.putfield 124, 3) := by decide +kernel
theorem dX3_takeExtra_54 : decode cX3_takeExtra 54 = .ok (.aload_n 0, 1) := by decide +kernel
theorem dX3_takeExtra_55 : decode cX3_takeExtra 55 = .ok (.getfield 21, 3) := by decide +kernel
theorem dX3_takeExtra_58 : decode cX3_takeExtra 58 = .ok (.getfield 121, 3) := by decide +kernel
theorem dX3_takeExtra_61 : decode cX3_takeExtra 61 = .ok (.ireturn, 1) := by decide +kernel
theorem dX3_endRide_0 : decode cX3_endRide 0 = .ok (.aload_n 0, 1) := by decide +kernel
theorem dX3_endRide_1 : decode cX3_endRide 1 = .ok (.getfield 32, 3) := by decide +kernel
theorem dX3_endRide_4 : decode cX3_endRide 4 = .ok (.ifCond .ne 6, 3) := by decide +kernel
theorem dX3_endRide_7 : decode cX3_endRide 7 = .ok (.bipush (-5), 2) := by decide +kernel
theorem dX3_endRide_9 : decode cX3_endRide 9 = .ok (.ireturn, 1) := by decide +kernel
theorem dX3_endRide_10 : decode cX3_endRide 10 = .ok (.aload_n 0, 1) := by decide +kernel
theorem dX3_endRide_11 : decode cX3_endRide 11 = .ok (.getfield 21, 3) := by decide +kernel
theorem dX3_endRide_14 : decode cX3_endRide 14 = .ok (.getfield 90, 3) := by decide +kernel
theorem dX3_endRide_17 : decode cX3_endRide 17 = .ok (.aload_n 0, 1) := by decide +kernel
theorem dX3_endRide_18 : decode cX3_endRide 18 = .ok (.getfield 21, 3) := by decide +kernel
theorem dX3_endRide_21 : decode cX3_endRide 21 = .ok (.getfield 124, 3) := by decide +kernel
theorem dX3_endRide_24 : decode cX3_endRide 24 = .ok (.iadd, 1) := by decide +kernel
theorem dX3_endRide_25 : decode cX3_endRide 25 = .ok (.istore_n 1, 1) := by decide +kernel
theorem dX3_endRide_26 : decode cX3_endRide 26 = .ok (.aload_n 0, 1) := by decide +kernel
theorem dX3_endRide_27 : decode cX3_endRide 27 = .ok (.getfield 28, 3) := by decide +kernel
theorem dX3_endRide_30 : decode cX3_endRide 30 = .ok (.aload_n 0, 1) := by decide +kernel
theorem dX3_endRide_31 : decode cX3_endRide 31 = .ok (.getfield 21, 3) := by decide +kernel
theorem dX3_endRide_34 : decode cX3_endRide 34 = .ok (.invokevirtual 127, 3) := by decide +kernel
theorem dX3_endRide_37 : decode cX3_endRide 37 = .ok (.aload_n 0, 1) := by decide +kernel
theorem dX3_endRide_38 : decode cX3_endRide 38 = .ok (.dup, 1) := by decide +kernel
theorem dX3_endRide_39 : decode cX3_endRide 39 = .ok (.getfield 52, 3) := by decide +kernel
theorem dX3_endRide_42 : decode cX3_endRide 42 = .ok (.iconst 1, 1) := by decide +kernel
theorem dX3_endRide_43 : decode cX3_endRide 43 = .ok (.iadd, 1) := by decide +kernel
theorem dX3_endRide_44 : decode cX3_endRide 44 = .ok (.putfield 52, 3) := by decide +kernel
theorem dX3_endRide_47 : decode cX3_endRide 47 = .ok (.aload_n 0, 1) := by decide +kernel
theorem dX3_endRide_48 : decode cX3_endRide 48 = .ok (.aload_n 0, 1) := by decide +kernel
theorem dX3_endRide_49 : decode cX3_endRide 49 = .ok (.getfield 55, 3) := by decide +kernel
theorem dX3_endRide_52 : decode cX3_endRide 52 = .ok (.iload_n 1, 1) := by decide +kernel
theorem dX3_endRide_53 : decode cX3_endRide 53 = .ok (.iadd, 1) := by decide +kernel
theorem dX3_endRide_54 : decode cX3_endRide 54 = .ok (.ldc 130, 2) := by decide +kernel
theorem dX3_endRide_56 : decode cX3_endRide 56 = .ok (.irem, 1) := by decide +kernel
theorem dX3_endRide_57 : decode cX3_endRide 57 = .ok (.putfield 55, 3) := by decide +kernel
theorem dX3_endRide_60 : decode cX3_endRide 60 = .ok (.aload_n 0, 1) := by decide +kernel
theorem dX3_endRide_61 : decode cX3_endRide 61 = .ok (.iconst 0, 1) := by decide +kernel
theorem dX3_endRide_62 : decode cX3_endRide 62 = .ok (.putfield 32, 3) := by decide +kernel
theorem dX3_endRide_65 : decode cX3_endRide 65 = .ok (.iload_n 1, 1) := by decide +kernel
theorem dX3_endRide_66 : decode cX3_endRide 66 = .ok (.ireturn, 1) := by decide +kernel
theorem dX4_init_0 : decode cX4_init 0 = .ok (.aload_n 0, 1) := by decide +kernel
theorem dX4_init_1 : decode cX4_init 1 = .ok (.invokespecial 3, 3) := by decide +kernel
theorem dX4_init_4 : decode cX4_init 4 = .ok (.return_, 1) := by decide +kernel
theorem dX4_start_0 : decode cX4_start 0 = .ok (.aload_n 0, 1) := by decide +kernel
theorem dX4_start_1 : decode cX4_start 1 = .ok (.iconst 0, 1) := by decide +kernel
theorem dX4_start_2 : decode cX4_start 2 = .ok (.putfield 11, 3) := by decide +kernel
theorem dX4_start_5 : decode cX4_start 5 = .ok (.aload_n 0, 1) := by decide +kernel
theorem dX4_start_6 : decode cX4_start 6 = .ok (.iconst (-1), 1) := by decide +kernel
theorem dX4_start_7 : decode cX4_start 7 = .ok (.putfield 15, 3) := by decide +kernel
theorem dX4_start_10 : decode cX4_start 10 = .ok (.return_, 1) := by decide +kernel
theorem dX4_faultOf_0 : decode cX4_faultOf 0 = .ok (.aload_n 0, 1) := by decide +kernel
theorem dX4_faultOf_1 : decode cX4_faultOf 1 = .ok (.invokevirtual 18, 3) := by decide +kernel
theorem dX4_faultOf_4 : decode cX4_faultOf 4 = .ok (.iconst 0, 1) := by decide +kernel
theorem dX4_faultOf_5 : decode cX4_faultOf 5 = .ok (.istore_n 2, 1) := by decide +kernel
theorem dX4_faultOf_6 : decode cX4_faultOf 6 = .ok (.iload_n 2, 1) := by decide +kernel
theorem dX4_faultOf_7 : decode cX4_faultOf 7 = .ok (.aload_n 1, 1) := by decide +kernel
theorem dX4_faultOf_8 : decode cX4_faultOf 8 = .ok (.getfield 21, 3) := by decide +kernel
theorem dX4_faultOf_11 : decode cX4_faultOf 11 = .ok (.if_icmp .ge 23, 3) := by decide +kernel
theorem dX4_faultOf_14 : decode cX4_faultOf 14 = .ok (.aload_n 0, 1) := by decide +kernel
theorem dX4_faultOf_15 : decode cX4_faultOf 15 = .ok (.aload_n 1, 1) := by decide +kernel
theorem dX4_faultOf_16 : decode cX4_faultOf 16 = .ok (.iload_n 2, 1) := by decide +kernel
theorem dX4_faultOf_17 : decode cX4_faultOf 17 = .ok (.invokevirtual 26, 3) := by decide +kernel
theorem dX4_faultOf_20 : decode cX4_faultOf 20 = .ok (.invokevirtual 30, 3) := by decide +kernel
theorem dX4_faultOf_23 : decode cX4_faultOf 23 = .ok (.ifCond .ne 5, 3) := by decide +kernel
theorem dX4_faultOf_26 : decode cX4_faultOf 26 = .ok (.iload_n 2, 1) := by decide +kernel
theorem dX4_faultOf_27 : decode cX4_faultOf 27 = .ok (.ireturn, 1) := by decide +kernel
theorem dX4_faultOf_28 : decode cX4_faultOf 28 = .ok (.iinc 2 1, 3) := by decide +kernel
theorem dX4_faultOf_31 : decode cX4_faultOf 31 = .ok (.goto (-25), 3) := by decide +kernel
theorem dX4_faultOf_34 : decode cX4_faultOf 34 = .ok (.aload_n 0, 1) := by decide +kernel
theorem dX4_faultOf_35 : decode cX4_faultOf 35 = .ok (.invokevirtual 34, 3) := by decide +kernel
theorem dX4_faultOf_38 : decode cX4_faultOf 38 = .ok (.ifCond .eq 8, 3) := by decide +kernel
theorem dX4_faultOf_41 : decode cX4_faultOf 41 = .ok (.bipush (-6), 2) := by decide +kernel
theorem dX4_faultOf_43 : decode cX4_faultOf 43 = .ok (.goto 7, 3) := by decide +kernel
theorem dX4_faultOf_46 : decode cX4_faultOf 46 = .ok (.aload_n 1, 1) := by decide +kernel
theorem dX4_faultOf_47 : decode cX4_faultOf 47 = .ok (.getfield 21, 3) := by decide +kernel
theorem dX4_faultOf_50 : decode cX4_faultOf 50 = .ok (.ireturn, 1) := by decide +kernel
theorem dX4_take_0 : decode cX4_take 0 = .ok (.aload_n 0, 1) := by decide +kernel
theorem dX4_take_1 : decode cX4_take 1 = .ok (.getfield 11, 3) := by decide +kernel
theorem dX4_take_4 : decode cX4_take 4 = .ok (.ifCond .ne 9, 3) := by decide +kernel
theorem dX4_take_7 : decode cX4_take 7 = .ok (.aload_n 0, 1) := by decide +kernel
theorem dX4_take_8 : decode cX4_take 8 = .ok (.iload_n 1, 1) := by decide +kernel
theorem dX4_take_9 : decode cX4_take 9 = .ok (.invokevirtual 38, 3) := by decide +kernel
theorem dX4_take_12 : decode cX4_take 12 = .ok (.ireturn, 1) := by decide +kernel
theorem dX4_take_13 : decode cX4_take 13 = .ok (.iload_n 1, 1) := by decide +kernel
theorem dX4_take_14 : decode cX4_take 14 = .ok (.bipush 48, 2) := by decide +kernel
theorem dX4_take_16 : decode cX4_take 16 = .ok (.if_icmp .lt 18, 3) := by decide +kernel
theorem dX4_take_19 : decode cX4_take 19 = .ok (.iload_n 1, 1) := by decide +kernel
theorem dX4_take_20 : decode cX4_take 20 = .ok (.bipush 57, 2) := by decide +kernel
theorem dX4_take_22 : decode cX4_take 22 = .ok (.if_icmp .gt 12, 3) := by decide +kernel
theorem dX4_take_25 : decode cX4_take 25 = .ok (.aload_n 0, 1) := by decide +kernel
theorem dX4_take_26 : decode cX4_take 26 = .ok (.iload_n 1, 1) := by decide +kernel
theorem dX4_take_27 : decode cX4_take 27 = .ok (.bipush 48, 2) := by decide +kernel
theorem dX4_take_29 : decode cX4_take 29 = .ok (.isub, 1) := by decide +kernel
theorem dX4_take_30 : decode cX4_take 30 = .ok (.invokevirtual 41, 3) := by decide +kernel
theorem dX4_take_33 : decode cX4_take 33 = .ok (.ireturn, 1) := by decide +kernel
theorem dX4_take_34 : decode cX4_take 34 = .ok (.iload_n 1, 1) := by decide +kernel
theorem dX4_take_35 : decode cX4_take 35 = .ok (.bipush 47, 2) := by decide +kernel
theorem dX4_take_37 : decode cX4_take 37 = .ok (.if_icmp .ne 39, 3) := by decide +kernel
theorem dX4_take_40 : decode cX4_take 40 = .ok (.aload_n 0, 1) := by decide +kernel
theorem dX4_take_41 : decode cX4_take 41 = .ok (.getfield 11, 3) := by decide +kernel
theorem dX4_take_44 : decode cX4_take 44 = .ok (.iconst 1, 1) := by decide +kernel
theorem dX4_take_45 : decode cX4_take 45 = .ok (.if_icmp .ne 31, 3) := by decide +kernel
theorem dX4_take_48 : decode cX4_take 48 = .ok (.aload_n 0, 1) := by decide +kernel
theorem dX4_take_49 : decode cX4_take 49 = .ok (.getfield 15, 3) := by decide +kernel
theorem dX4_take_52 : decode cX4_take 52 = .ok (.iconst (-1), 1) := by decide +kernel
theorem dX4_take_53 : decode cX4_take 53 = .ok (.if_icmp .eq 23, 3) := by decide +kernel
theorem dX4_take_56 : decode cX4_take 56 = .ok (.aload_n 0, 1) := by decide +kernel
theorem dX4_take_57 : decode cX4_take 57 = .ok (.aload_n 0, 1) := by decide +kernel
theorem dX4_take_58 : decode cX4_take 58 = .ok (.getfield 15, 3) := by decide +kernel
theorem dX4_take_61 : decode cX4_take 61 = .ok (.putfield 45, 3) := by decide +kernel
theorem dX4_take_64 : decode cX4_take 64 = .ok (.aload_n 0, 1) := by decide +kernel
theorem dX4_take_65 : decode cX4_take 65 = .ok (.iconst (-1), 1) := by decide +kernel
theorem dX4_take_66 : decode cX4_take 66 = .ok (.putfield 15, 3) := by decide +kernel
theorem dX4_take_69 : decode cX4_take 69 = .ok (.aload_n 0, 1) := by decide +kernel
theorem dX4_take_70 : decode cX4_take 70 = .ok (.iconst 2, 1) := by decide +kernel
theorem dX4_take_71 : decode cX4_take 71 = .ok (.putfield 11, 3) := by decide +kernel
theorem dX4_take_74 : decode cX4_take 74 = .ok (.iconst 1, 1) := by decide +kernel
theorem dX4_take_75 : decode cX4_take 75 = .ok (.ireturn, 1) := by decide +kernel
theorem dX4_take_76 : decode cX4_take 76 = .ok (.iload_n 1, 1) := by decide +kernel
theorem dX4_take_77 : decode cX4_take 77 = .ok (.bipush 59, 2) := by decide +kernel
theorem dX4_take_79 : decode cX4_take 79 = .ok (.if_icmp .ne 17, 3) := by decide +kernel
theorem dX4_take_82 : decode cX4_take 82 = .ok (.aload_n 0, 1) := by decide +kernel
theorem dX4_take_83 : decode cX4_take 83 = .ok (.invokevirtual 34, 3) := by decide +kernel
theorem dX4_take_86 : decode cX4_take 86 = .ok (.ifCond .eq 10, 3) := by decide +kernel
theorem dX4_take_89 : decode cX4_take 89 = .ok (.aload_n 0, 1) := by decide +kernel
theorem dX4_take_90 : decode cX4_take 90 = .ok (.iconst 0, 1) := by decide +kernel
theorem dX4_take_91 : decode cX4_take 91 = .ok (.putfield 11, 3) := by decide +kernel
theorem dX4_take_94 : decode cX4_take 94 = .ok (.iconst 1, 1) := by decide +kernel
theorem dX4_take_95 : decode cX4_take 95 = .ok (.ireturn, 1) := by decide +kernel
theorem dX4_take_96 : decode cX4_take 96 = .ok (.iconst 0, 1) := by decide +kernel
theorem dX4_take_97 : decode cX4_take 97 = .ok (.ireturn, 1) := by decide +kernel
theorem dX4_mayEnd_0 : decode cX4_mayEnd 0 = .ok (.aload_n 0, 1) := by decide +kernel
theorem dX4_mayEnd_1 : decode cX4_mayEnd 1 = .ok (.getfield 11, 3) := by decide +kernel
theorem dX4_mayEnd_4 : decode cX4_mayEnd 4 = .ok (.iconst 3, 1) := by decide +kernel
theorem dX4_mayEnd_5 : decode cX4_mayEnd 5 = .ok (.if_icmp .eq 19, 3) := by decide +kernel
theorem dX4_mayEnd_8 : decode cX4_mayEnd 8 = .ok (.aload_n 0, 1) := by decide +kernel
theorem dX4_mayEnd_9 : decode cX4_mayEnd 9 = .ok (.getfield 11, 3) := by decide +kernel
theorem dX4_mayEnd_12 : decode cX4_mayEnd 12 = .ok (.iconst 2, 1) := by decide +kernel
theorem dX4_mayEnd_13 : decode cX4_mayEnd 13 = .ok (.if_icmp .ne 15, 3) := by decide +kernel
theorem dX4_mayEnd_16 : decode cX4_mayEnd 16 = .ok (.aload_n 0, 1) := by decide +kernel
theorem dX4_mayEnd_17 : decode cX4_mayEnd 17 = .ok (.getfield 15, 3) := by decide +kernel
theorem dX4_mayEnd_20 : decode cX4_mayEnd 20 = .ok (.iconst (-1), 1) := by decide +kernel
theorem dX4_mayEnd_21 : decode cX4_mayEnd 21 = .ok (.if_icmp .eq 7, 3) := by decide +kernel
theorem dX4_mayEnd_24 : decode cX4_mayEnd 24 = .ok (.iconst 1, 1) := by decide +kernel
theorem dX4_mayEnd_25 : decode cX4_mayEnd 25 = .ok (.goto 4, 3) := by decide +kernel
theorem dX4_mayEnd_28 : decode cX4_mayEnd 28 = .ok (.iconst 0, 1) := by decide +kernel
theorem dX4_mayEnd_29 : decode cX4_mayEnd 29 = .ok (.ireturn, 1) := by decide +kernel
theorem dX4_takeLetter_0 : decode cX4_takeLetter 0 = .ok (.ldc 48, 2) := by decide +kernel
theorem dX4_takeLetter_2 : decode cX4_takeLetter 2 = .ok (.iload_n 1, 1) := by decide +kernel
theorem dX4_takeLetter_3 : decode cX4_takeLetter 3 = .ok (.invokevirtual 50, 3) := by decide +kernel
theorem dX4_takeLetter_6 : decode cX4_takeLetter 6 = .ok (.ifCond .ge 5, 3) := by decide +kernel
theorem dX4_takeLetter_9 : decode cX4_takeLetter 9 = .ok (.iconst 0, 1) := by decide +kernel
theorem dX4_takeLetter_10 : decode cX4_takeLetter 10 = .ok (.ireturn, 1) := by decide +kernel
theorem dX4_takeLetter_11 : decode cX4_takeLetter 11 = .ok (.aload_n 0, 1) := by decide +kernel
theorem dX4_takeLetter_12 : decode cX4_takeLetter 12 = .ok (.iload_n 1, 1) := by decide +kernel
theorem dX4_takeLetter_13 : decode cX4_takeLetter 13 = .ok (.putfield 56, 3) := by decide +kernel
theorem dX4_takeLetter_16 : decode cX4_takeLetter 16 = .ok (.aload_n 0, 1) := by decide +kernel
theorem dX4_takeLetter_17 : decode cX4_takeLetter 17 = .ok (.iconst (-1), 1) := by decide +kernel
theorem dX4_takeLetter_18 : decode cX4_takeLetter 18 = .ok (.putfield 15, 3) := by decide +kernel
theorem dX4_takeLetter_21 : decode cX4_takeLetter 21 = .ok (.aload_n 0, 1) := by decide +kernel
theorem dX4_takeLetter_22 : decode cX4_takeLetter 22 = .ok (.iload_n 1, 1) := by decide +kernel
theorem dX4_takeLetter_23 : decode cX4_takeLetter 23 = .ok (.bipush 100, 2) := by decide +kernel
theorem dX4_takeLetter_25 : decode cX4_takeLetter 25 = .ok (.if_icmp .ne 7, 3) := by decide +kernel
theorem dX4_takeLetter_28 : decode cX4_takeLetter 28 = .ok (.iconst 1, 1) := by decide +kernel
theorem dX4_takeLetter_29 : decode cX4_takeLetter 29 = .ok (.goto 14, 3) := by decide +kernel
theorem dX4_takeLetter_32 : decode cX4_takeLetter 32 = .ok (.iload_n 1, 1) := by decide +kernel
theorem dX4_takeLetter_33 : decode cX4_takeLetter 33 = .ok (.bipush 119, 2) := by decide +kernel
theorem dX4_takeLetter_35 : decode cX4_takeLetter 35 = .ok (.if_icmp .ne 7, 3) := by decide +kernel
theorem dX4_takeLetter_38 : decode cX4_takeLetter 38 = .ok (.iconst 2, 1) := by decide +kernel
theorem dX4_takeLetter_39 : decode cX4_takeLetter 39 = .ok (.goto 4, 3) := by decide +kernel
theorem dX4_takeLetter_42 : decode cX4_takeLetter 42 = .ok (.iconst 3, 1) := by decide +kernel
theorem dX4_takeLetter_43 : decode cX4_takeLetter 43 = .ok (.putfield 11, 3) := by decide +kernel
theorem dX4_takeLetter_46 : decode cX4_takeLetter 46 = .ok (.iconst 1, 1) := by decide +kernel
theorem dX4_takeLetter_47 : decode cX4_takeLetter 47 = .ok (.ireturn, 1) := by decide +kernel
theorem dX4_takeDigit_0 : decode cX4_takeDigit 0 = .ok (.aload_n 0, 1) := by decide +kernel
theorem dX4_takeDigit_1 : decode cX4_takeDigit 1 = .ok (.getfield 11, 3) := by decide +kernel
theorem dX4_takeDigit_4 : decode cX4_takeDigit 4 = .ok (.iconst 3, 1) := by decide +kernel
theorem dX4_takeDigit_5 : decode cX4_takeDigit 5 = .ok (.if_icmp .eq 10, 3) := by decide +kernel
theorem dX4_takeDigit_8 : decode cX4_takeDigit 8 = .ok (.aload_n 0, 1) := by decide +kernel
theorem dX4_takeDigit_9 : decode cX4_takeDigit 9 = .ok (.getfield 15, 3) := by decide +kernel
theorem dX4_takeDigit_12 : decode cX4_takeDigit 12 = .ok (.ifCond .ne 5, 3) := by decide +kernel
theorem dX4_takeDigit_15 : decode cX4_takeDigit 15 = .ok (.iconst 0, 1) := by decide +kernel
theorem dX4_takeDigit_16 : decode cX4_takeDigit 16 = .ok (.ireturn, 1) := by decide +kernel
theorem dX4_takeDigit_17 : decode cX4_takeDigit 17 = .ok (.aload_n 0, 1) := by decide +kernel
theorem dX4_takeDigit_18 : decode cX4_takeDigit 18 = .ok (.getfield 15, 3) := by decide +kernel
theorem dX4_takeDigit_21 : decode cX4_takeDigit 21 = .ok (.iconst (-1), 1) := by decide +kernel
theorem dX4_takeDigit_22 : decode cX4_takeDigit 22 = .ok (.if_icmp .ne 7, 3) := by decide +kernel
theorem dX4_takeDigit_25 : decode cX4_takeDigit 25 = .ok (.iload_n 1, 1) := by decide +kernel
theorem dX4_takeDigit_26 : decode cX4_takeDigit 26 = .ok (.goto 12, 3) := by decide +kernel
theorem dX4_takeDigit_29 : decode cX4_takeDigit 29 = .ok (.aload_n 0, 1) := by decide +kernel
theorem dX4_takeDigit_30 : decode cX4_takeDigit 30 = .ok (.getfield 15, 3) := by decide +kernel
theorem dX4_takeDigit_33 : decode cX4_takeDigit 33 = .ok (.bipush 10, 2) := by decide +kernel
theorem dX4_takeDigit_35 : decode cX4_takeDigit 35 = .ok (.imul, 1) := by decide +kernel
theorem dX4_takeDigit_36 : decode cX4_takeDigit 36 = .ok (.iload_n 1, 1) := by decide +kernel
theorem dX4_takeDigit_37 : decode cX4_takeDigit 37 = .ok (.iadd, 1) := by decide +kernel
theorem dX4_takeDigit_38 : decode cX4_takeDigit 38 = .ok (.istore_n 2, 1) := by decide +kernel
theorem dX4_takeDigit_39 : decode cX4_takeDigit 39 = .ok (.iload_n 2, 1) := by decide +kernel
theorem dX4_takeDigit_40 : decode cX4_takeDigit 40 = .ok (.sipush 9999, 3) := by decide +kernel
theorem dX4_takeDigit_43 : decode cX4_takeDigit 43 = .ok (.if_icmp .le 5, 3) := by decide +kernel
theorem dX4_takeDigit_46 : decode cX4_takeDigit 46 = .ok (.iconst 0, 1) := by decide +kernel
theorem dX4_takeDigit_47 : decode cX4_takeDigit 47 = .ok (.ireturn, 1) := by decide +kernel
theorem dX4_takeDigit_48 : decode cX4_takeDigit 48 = .ok (.aload_n 0, 1) := by decide +kernel
theorem dX4_takeDigit_49 : decode cX4_takeDigit 49 = .ok (.iload_n 2, 1) := by decide +kernel
theorem dX4_takeDigit_50 : decode cX4_takeDigit 50 = .ok (.putfield 15, 3) := by decide +kernel
theorem dX4_takeDigit_53 : decode cX4_takeDigit 53 = .ok (.iconst 1, 1) := by decide +kernel
theorem dX4_takeDigit_54 : decode cX4_takeDigit 54 = .ok (.ireturn, 1) := by decide +kernel
theorem dX5_init_0 : decode cX5_init 0 = .ok (.aload_n 0, 1) := by decide +kernel
theorem dX5_init_1 : decode cX5_init 1 = .ok (.invokespecial 1, 3) := by decide +kernel
theorem dX5_init_4 : decode cX5_init 4 = .ok (.aload_n 0, 1) := by decide +kernel
theorem dX5_init_5 : decode cX5_init 5 = .ok (.bipush 80, 2) := by decide +kernel
theorem dX5_init_7 : decode cX5_init 7 = .ok (.newarray .char, 2) := by decide +kernel
theorem dX5_init_9 : decode cX5_init 9 = .ok (.putfield 9, 3) := by decide +kernel
theorem dX5_init_12 : decode cX5_init 12 = .ok (.return_, 1) := by decide +kernel
theorem dX5_countOf_0 : decode cX5_countOf 0 = .ok (.iconst 0, 1) := by decide +kernel
theorem dX5_countOf_1 : decode cX5_countOf 1 = .ok (.istore_n 2, 1) := by decide +kernel
theorem dX5_countOf_2 : decode cX5_countOf 2 = .ok (.iconst 0, 1) := by decide +kernel
theorem dX5_countOf_3 : decode cX5_countOf 3 = .ok (.istore_n 3, 1) := by decide +kernel
theorem dX5_countOf_4 : decode cX5_countOf 4 = .ok (.iload_n 3, 1) := by decide +kernel
theorem dX5_countOf_5 : decode cX5_countOf 5 = .ok (.bipush 8, 2) := by decide +kernel
theorem dX5_countOf_7 : decode cX5_countOf 7 = .ok (.if_icmp .ge 55, 3) := by decide +kernel
theorem dX5_countOf_10 : decode cX5_countOf 10 = .ok (.lload_n 0, 1) := by decide +kernel
theorem dX5_countOf_11 : decode cX5_countOf 11 = .ok (.iload_n 3, 1) := by decide +kernel
theorem dX5_countOf_12 : decode cX5_countOf 12 = .ok (.invokestatic 13, 3) := by decide +kernel
theorem dX5_countOf_15 : decode cX5_countOf 15 = .ok (.istore 4, 2) := by decide +kernel
theorem dX5_countOf_17 : decode cX5_countOf 17 = .ok (.iload 4, 2) := by decide +kernel
theorem dX5_countOf_19 : decode cX5_countOf 19 = .ok (.ifCond .ne 20, 3) := by decide +kernel
theorem dX5_countOf_22 : decode cX5_countOf 22 = .ok (.lload_n 0, 1) := by decide +kernel
theorem dX5_countOf_23 : decode cX5_countOf 23 = .ok (.bipush 8, 2) := by decide +kernel
theorem dX5_countOf_25 : decode cX5_countOf 25 = .ok (.iload_n 3, 1) := by decide +kernel
theorem dX5_countOf_26 : decode cX5_countOf 26 = .ok (.imul, 1) := by decide +kernel
theorem dX5_countOf_27 : decode cX5_countOf 27 = .ok (.lushr, 1) := by decide +kernel
theorem dX5_countOf_28 : decode cX5_countOf 28 = .ok (.lconst 0, 1) := by decide +kernel
theorem dX5_countOf_29 : decode cX5_countOf 29 = .ok (.lcmp, 1) := by decide +kernel
theorem dX5_countOf_30 : decode cX5_countOf 30 = .ok (.ifCond .ne 7, 3) := by decide +kernel
theorem dX5_countOf_33 : decode cX5_countOf 33 = .ok (.iload_n 2, 1) := by decide +kernel
theorem dX5_countOf_34 : decode cX5_countOf 34 = .ok (.goto 4, 3) := by decide +kernel
theorem dX5_countOf_37 : decode cX5_countOf 37 = .ok (.iconst 0, 1) := by decide +kernel
theorem dX5_countOf_38 : decode cX5_countOf 38 = .ok (.ireturn, 1) := by decide +kernel
theorem dX5_countOf_39 : decode cX5_countOf 39 = .ok (.iload 4, 2) := by decide +kernel
theorem dX5_countOf_41 : decode cX5_countOf 41 = .ok (.bipush 33, 2) := by decide +kernel
theorem dX5_countOf_43 : decode cX5_countOf 43 = .ok (.bipush 126, 2) := by decide +kernel
theorem dX5_countOf_45 : decode cX5_countOf 45 = .ok (.invokestatic 17, 3) := by decide +kernel
theorem dX5_countOf_48 : decode cX5_countOf 48 = .ok (.ifCond .ne 5, 3) := by decide +kernel
theorem dX5_countOf_51 : decode cX5_countOf 51 = .ok (.iconst 0, 1) := by decide +kernel
theorem dX5_countOf_52 : decode cX5_countOf 52 = .ok (.ireturn, 1) := by decide +kernel
theorem dX5_countOf_53 : decode cX5_countOf 53 = .ok (.iinc 2 1, 3) := by decide +kernel
theorem dX5_countOf_56 : decode cX5_countOf 56 = .ok (.iinc 3 1, 3) := by decide +kernel
theorem dX5_countOf_59 : decode cX5_countOf 59 = .ok (.goto (-55), 3) := by decide +kernel
theorem dX5_countOf_62 : decode cX5_countOf 62 = .ok (.iload_n 2, 1) := by decide +kernel
theorem dX5_countOf_63 : decode cX5_countOf 63 = .ok (.ireturn, 1) := by decide +kernel
theorem dX5_codeAt_0 : decode cX5_codeAt 0 = .ok (.lload_n 0, 1) := by decide +kernel
theorem dX5_codeAt_1 : decode cX5_codeAt 1 = .ok (.bipush 8, 2) := by decide +kernel
theorem dX5_codeAt_3 : decode cX5_codeAt 3 = .ok (.iload_n 2, 1) := by decide +kernel
theorem dX5_codeAt_4 : decode cX5_codeAt 4 = .ok (.imul, 1) := by decide +kernel
theorem dX5_codeAt_5 : decode cX5_codeAt 5 = .ok (.lushr, 1) := by decide +kernel
theorem dX5_codeAt_6 : decode cX5_codeAt 6 = .ok (.l2i, 1) := by decide +kernel
theorem dX5_codeAt_7 : decode cX5_codeAt 7 = .ok (.sipush 255, 3) := by decide +kernel
theorem dX5_codeAt_10 : decode cX5_codeAt 10 = .ok (.iand, 1) := by decide +kernel
theorem dX5_codeAt_11 : decode cX5_codeAt 11 = .ok (.ireturn, 1) := by decide +kernel
theorem dX5_append_0 : decode cX5_append 0 = .ok (.iload_n 3, 1) := by decide +kernel
theorem dX5_append_1 : decode cX5_append 1 = .ok (.iconst 1, 1) := by decide +kernel
theorem dX5_append_2 : decode cX5_append 2 = .ok (.isub, 1) := by decide +kernel
theorem dX5_append_3 : decode cX5_append 3 = .ok (.istore 4, 2) := by decide +kernel
theorem dX5_append_5 : decode cX5_append 5 = .ok (.iload 4, 2) := by decide +kernel
theorem dX5_append_7 : decode cX5_append 7 = .ok (.ifCond .lt 54, 3) := by decide +kernel
theorem dX5_append_10 : decode cX5_append 10 = .ok (.aload_n 0, 1) := by decide +kernel
theorem dX5_append_11 : decode cX5_append 11 = .ok (.getfield 23, 3) := by decide +kernel
theorem dX5_append_14 : decode cX5_append 14 = .ok (.ifCond .lt 41, 3) := by decide +kernel
theorem dX5_append_17 : decode cX5_append 17 = .ok (.aload_n 0, 1) := by decide +kernel
theorem dX5_append_18 : decode cX5_append 18 = .ok (.getfield 23, 3) := by decide +kernel
theorem dX5_append_21 : decode cX5_append 21 = .ok (.aload_n 0, 1) := by decide +kernel
theorem dX5_append_22 : decode cX5_append 22 = .ok (.getfield 9, 3) := by decide +kernel
theorem dX5_append_25 : decode cX5_append 25 = .ok (.arraylength, 1) := by decide +kernel
theorem dX5_append_26 : decode cX5_append 26 = .ok (.if_icmp .ge 29, 3) := by decide +kernel
theorem dX5_append_29 : decode cX5_append 29 = .ok (.aload_n 0, 1) := by decide +kernel
theorem dX5_append_30 : decode cX5_append 30 = .ok (.getfield 9, 3) := by decide +kernel
theorem dX5_append_33 : decode cX5_append 33 = .ok (.aload_n 0, 1) := by decide +kernel
theorem dX5_append_34 : decode cX5_append 34 = .ok (.getfield 23, 3) := by decide +kernel
theorem dX5_append_37 : decode cX5_append 37 = .ok (.lload_n 1, 1) := by decide +kernel
theorem dX5_append_38 : decode cX5_append 38 = .ok (.iload 4, 2) := by decide +kernel
theorem dX5_append_40 : decode cX5_append 40 = .ok (.invokestatic 13, 3) := by decide +kernel
theorem dX5_append_43 : decode cX5_append 43 = .ok (.i2c, 1) := by decide +kernel
theorem dX5_append_44 : decode cX5_append 44 = .ok (.castore, 1) := by decide +kernel
theorem dX5_append_45 : decode cX5_append 45 = .ok (.aload_n 0, 1) := by decide +kernel
theorem dX5_append_46 : decode cX5_append 46 = .ok (.dup, 1) := by decide +kernel
theorem dX5_append_47 : decode cX5_append 47 = .ok (.getfield 23, 3) := by decide +kernel
theorem dX5_append_50 : decode cX5_append 50 = .ok (.iconst 1, 1) := by decide +kernel
theorem dX5_append_51 : decode cX5_append 51 = .ok (.iadd, 1) := by decide +kernel
theorem dX5_append_52 : decode cX5_append 52 = .ok (.putfield 23, 3) := by decide +kernel
theorem dX5_append_55 : decode cX5_append 55 = .ok (.iinc 4 (-1), 3) := by decide +kernel
theorem dX5_append_58 : decode cX5_append 58 = .ok (.goto (-53), 3) := by decide +kernel
theorem dX5_append_61 : decode cX5_append 61 = .ok (.return_, 1) := by decide +kernel
theorem dX5_signAt_0 : decode cX5_signAt 0 = .ok (.iload_n 1, 1) := by decide +kernel
theorem dX5_signAt_1 : decode cX5_signAt 1 = .ok (.ifCond .lt 21, 3) := by decide +kernel
theorem dX5_signAt_4 : decode cX5_signAt 4 = .ok (.iload_n 1, 1) := by decide +kernel
theorem dX5_signAt_5 : decode cX5_signAt 5 = .ok (.aload_n 0, 1) := by decide +kernel
theorem dX5_signAt_6 : decode cX5_signAt 6 = .ok (.getfield 9, 3) := by decide +kernel
theorem dX5_signAt_9 : decode cX5_signAt 9 = .ok (.arraylength, 1) := by decide +kernel
theorem dX5_signAt_10 : decode cX5_signAt 10 = .ok (.if_icmp .ge 12, 3) := by decide +kernel
theorem dX5_signAt_13 : decode cX5_signAt 13 = .ok (.aload_n 0, 1) := by decide +kernel
theorem dX5_signAt_14 : decode cX5_signAt 14 = .ok (.getfield 9, 3) := by decide +kernel
theorem dX5_signAt_17 : decode cX5_signAt 17 = .ok (.iload_n 1, 1) := by decide +kernel
theorem dX5_signAt_18 : decode cX5_signAt 18 = .ok (.caload, 1) := by decide +kernel
theorem dX5_signAt_19 : decode cX5_signAt 19 = .ok (.goto 4, 3) := by decide +kernel
theorem dX5_signAt_22 : decode cX5_signAt 22 = .ok (.iconst 0, 1) := by decide +kernel
theorem dX5_signAt_23 : decode cX5_signAt 23 = .ok (.ireturn, 1) := by decide +kernel
theorem dX6_init_0 : decode cX6_init 0 = .ok (.aload_n 0, 1) := by decide +kernel
theorem dX6_init_1 : decode cX6_init 1 = .ok (.invokespecial 1, 3) := by decide +kernel
theorem dX6_init_4 : decode cX6_init 4 = .ok (.return_, 1) := by decide +kernel
theorem dX6_copyFrom_0 : decode cX6_copyFrom 0 = .ok (.aload_n 0, 1) := by decide +kernel
theorem dX6_copyFrom_1 : decode cX6_copyFrom 1 = .ok (.aload_n 1, 1) := by decide +kernel
theorem dX6_copyFrom_2 : decode cX6_copyFrom 2 = .ok (.getfield 7, 3) := by decide +kernel
theorem dX6_copyFrom_5 : decode cX6_copyFrom 5 = .ok (.putfield 7, 3) := by decide +kernel
theorem dX6_copyFrom_8 : decode cX6_copyFrom 8 = .ok (.aload_n 0, 1) := by decide +kernel
theorem dX6_copyFrom_9 : decode cX6_copyFrom 9 = .ok (.aload_n 1, 1) := by decide +kernel
theorem dX6_copyFrom_10 : decode cX6_copyFrom 10 = .ok (.getfield 13, 3) := by decide +kernel
theorem dX6_copyFrom_13 : decode cX6_copyFrom 13 = .ok (.putfield 13, 3) := by decide +kernel
theorem dX6_copyFrom_16 : decode cX6_copyFrom 16 = .ok (.aload_n 0, 1) := by decide +kernel
theorem dX6_copyFrom_17 : decode cX6_copyFrom 17 = .ok (.aload_n 1, 1) := by decide +kernel
theorem dX6_copyFrom_18 : decode cX6_copyFrom 18 = .ok (.getfield 16, 3) := by decide +kernel
theorem dX6_copyFrom_21 : decode cX6_copyFrom 21 = .ok (.putfield 16, 3) := by decide +kernel
theorem dX6_copyFrom_24 : decode cX6_copyFrom 24 = .ok (.aload_n 0, 1) := by decide +kernel
theorem dX6_copyFrom_25 : decode cX6_copyFrom 25 = .ok (.aload_n 1, 1) := by decide +kernel
theorem dX6_copyFrom_26 : decode cX6_copyFrom 26 = .ok (.getfield 19, 3) := by decide +kernel
theorem dX6_copyFrom_29 : decode cX6_copyFrom 29 = .ok (.putfield 19, 3) := by decide +kernel
theorem dX6_copyFrom_32 : decode cX6_copyFrom 32 = .ok (.aload_n 0, 1) := by decide +kernel
theorem dX6_copyFrom_33 : decode cX6_copyFrom 33 = .ok (.aload_n 1, 1) := by decide +kernel
theorem dX6_copyFrom_34 : decode cX6_copyFrom 34 = .ok (.getfield 22, 3) := by decide +kernel
theorem dX6_copyFrom_37 : decode cX6_copyFrom 37 = .ok (.putfield 22, 3) := by decide +kernel
theorem dX6_copyFrom_40 : decode cX6_copyFrom 40 = .ok (.aload_n 0, 1) := by decide +kernel
theorem dX6_copyFrom_41 : decode cX6_copyFrom 41 = .ok (.aload_n 1, 1) := by decide +kernel
theorem dX6_copyFrom_42 : decode cX6_copyFrom 42 = .ok (.getfield 25, 3) := by decide +kernel
theorem dX6_copyFrom_45 : decode cX6_copyFrom 45 = .ok (.putfield 25, 3) := by decide +kernel
theorem dX6_copyFrom_48 : decode cX6_copyFrom 48 = .ok (.aload_n 0, 1) := by decide +kernel
theorem dX6_copyFrom_49 : decode cX6_copyFrom 49 = .ok (.aload_n 1, 1) := by decide +kernel
theorem dX6_copyFrom_50 : decode cX6_copyFrom 50 = .ok (.getfield 28, 3) := by decide +kernel
theorem dX6_copyFrom_53 : decode cX6_copyFrom 53 = .ok (.putfield 28, 3) := by decide +kernel
theorem dX6_copyFrom_56 : decode cX6_copyFrom 56 = .ok (.aload_n 0, 1) := by decide +kernel
theorem dX6_copyFrom_57 : decode cX6_copyFrom 57 = .ok (.aload_n 1, 1) := by decide +kernel
theorem dX6_copyFrom_58 : decode cX6_copyFrom 58 = .ok (.getfield 31, 3) := by decide +kernel
theorem dX6_copyFrom_61 : decode cX6_copyFrom 61 = .ok (.putfield 31, 3) := by decide +kernel
theorem dX6_copyFrom_64 : decode cX6_copyFrom 64 = .ok (.aload_n 0, 1) := by decide +kernel
theorem dX6_copyFrom_65 : decode cX6_copyFrom 65 = .ok (.aload_n 1, 1) := by decide +kernel
theorem dX6_copyFrom_66 : decode cX6_copyFrom 66 = .ok (.getfield 34, 3) := by decide +kernel
theorem dX6_copyFrom_69 : decode cX6_copyFrom 69 = .ok (.putfield 34, 3) := by decide +kernel
theorem dX6_copyFrom_72 : decode cX6_copyFrom 72 = .ok (.aload_n 0, 1) := by decide +kernel
theorem dX6_copyFrom_73 : decode cX6_copyFrom 73 = .ok (.aload_n 1, 1) := by decide +kernel
theorem dX6_copyFrom_74 : decode cX6_copyFrom 74 = .ok (.getfield 37, 3) := by decide +kernel
theorem dX6_copyFrom_77 : decode cX6_copyFrom 77 = .ok (.putfield 37, 3) := by decide +kernel
theorem dX6_copyFrom_80 : decode cX6_copyFrom 80 = .ok (.aload_n 0, 1) := by decide +kernel
theorem dX6_copyFrom_81 : decode cX6_copyFrom 81 = .ok (.aload_n 1, 1) := by decide +kernel
theorem dX6_copyFrom_82 : decode cX6_copyFrom 82 = .ok (.getfield 40, 3) := by decide +kernel
theorem dX6_copyFrom_85 : decode cX6_copyFrom 85 = .ok (.putfield 40, 3) := by decide +kernel
theorem dX6_copyFrom_88 : decode cX6_copyFrom 88 = .ok (.return_, 1) := by decide +kernel
theorem dX6_startAt_0 : decode cX6_startAt 0 = .ok (.aload_n 0, 1) := by decide +kernel
theorem dX6_startAt_1 : decode cX6_startAt 1 = .ok (.iload_n 1, 1) := by decide +kernel
theorem dX6_startAt_2 : decode cX6_startAt 2 = .ok (.putfield 7, 3) := by decide +kernel
theorem dX6_startAt_5 : decode cX6_startAt 5 = .ok (.aload_n 0, 1) := by decide +kernel
theorem dX6_startAt_6 : decode cX6_startAt 6 = .ok (.iload_n 2, 1) := by decide +kernel
theorem dX6_startAt_7 : decode cX6_startAt 7 = .ok (.putfield 13, 3) := by decide +kernel
theorem dX6_startAt_10 : decode cX6_startAt 10 = .ok (.aload_n 0, 1) := by decide +kernel
theorem dX6_startAt_11 : decode cX6_startAt 11 = .ok (.iconst 0, 1) := by decide +kernel
theorem dX6_startAt_12 : decode cX6_startAt 12 = .ok (.putfield 16, 3) := by decide +kernel
theorem dX6_startAt_15 : decode cX6_startAt 15 = .ok (.aload_n 0, 1) := by decide +kernel
theorem dX6_startAt_16 : decode cX6_startAt 16 = .ok (.iconst 0, 1) := by decide +kernel
theorem dX6_startAt_17 : decode cX6_startAt 17 = .ok (.putfield 19, 3) := by decide +kernel
theorem dX6_startAt_20 : decode cX6_startAt 20 = .ok (.aload_n 0, 1) := by decide +kernel
theorem dX6_startAt_21 : decode cX6_startAt 21 = .ok (.iconst 0, 1) := by decide +kernel
theorem dX6_startAt_22 : decode cX6_startAt 22 = .ok (.putfield 22, 3) := by decide +kernel
theorem dX6_startAt_25 : decode cX6_startAt 25 = .ok (.aload_n 0, 1) := by decide +kernel
theorem dX6_startAt_26 : decode cX6_startAt 26 = .ok (.iconst 0, 1) := by decide +kernel
theorem dX6_startAt_27 : decode cX6_startAt 27 = .ok (.putfield 25, 3) := by decide +kernel
theorem dX6_startAt_30 : decode cX6_startAt 30 = .ok (.aload_n 0, 1) := by decide +kernel
theorem dX6_startAt_31 : decode cX6_startAt 31 = .ok (.iconst 0, 1) := by decide +kernel
theorem dX6_startAt_32 : decode cX6_startAt 32 = .ok (.putfield 28, 3) := by decide +kernel
theorem dX6_startAt_35 : decode cX6_startAt 35 = .ok (.aload_n 0, 1) := by decide +kernel
theorem dX6_startAt_36 : decode cX6_startAt 36 = .ok (.iconst 0, 1) := by decide +kernel
theorem dX6_startAt_37 : decode cX6_startAt 37 = .ok (.putfield 31, 3) := by decide +kernel
theorem dX6_startAt_40 : decode cX6_startAt 40 = .ok (.aload_n 0, 1) := by decide +kernel
theorem dX6_startAt_41 : decode cX6_startAt 41 = .ok (.iconst 0, 1) := by decide +kernel
theorem dX6_startAt_42 : decode cX6_startAt 42 = .ok (.putfield 34, 3) := by decide +kernel
theorem dX6_startAt_45 : decode cX6_startAt 45 = .ok (.aload_n 0, 1) := by decide +kernel
theorem dX6_startAt_46 : decode cX6_startAt 46 = .ok (.iconst 0, 1) := by decide +kernel
theorem dX6_startAt_47 : decode cX6_startAt 47 = .ok (.putfield 37, 3) := by decide +kernel
theorem dX6_startAt_50 : decode cX6_startAt 50 = .ok (.aload_n 0, 1) := by decide +kernel
theorem dX6_startAt_51 : decode cX6_startAt 51 = .ok (.iconst 0, 1) := by decide +kernel
theorem dX6_startAt_52 : decode cX6_startAt 52 = .ok (.putfield 40, 3) := by decide +kernel
theorem dX6_startAt_55 : decode cX6_startAt 55 = .ok (.return_, 1) := by decide +kernel
theorem dX7_init_0 : decode cX7_init 0 = .ok (.aload_n 0, 1) := by decide +kernel
theorem dX7_init_1 : decode cX7_init 1 = .ok (.invokespecial 3, 3) := by decide +kernel
theorem dX7_init_4 : decode cX7_init 4 = .ok (.aload_n 0, 1) := by decide +kernel
theorem dX7_init_5 : decode cX7_init 5 = .ok (.new 9, 3) := by decide +kernel
theorem dX7_init_8 : decode cX7_init 8 = .ok (.dup, 1) := by decide +kernel
theorem dX7_init_9 : decode cX7_init 9 = .ok (.invokespecial 11, 3) := by decide +kernel
theorem dX7_init_12 : decode cX7_init 12 = .ok (.putfield 12, 3) := by decide +kernel
theorem dX7_init_15 : decode cX7_init 15 = .ok (.aload_n 0, 1) := by decide +kernel
theorem dX7_init_16 : decode cX7_init 16 = .ok (.new 9, 3) := by decide +kernel
theorem dX7_init_19 : decode cX7_init 19 = .ok (.dup, 1) := by decide +kernel
theorem dX7_init_20 : decode cX7_init 20 = .ok (.invokespecial 11, 3) := by decide +kernel
theorem dX7_init_23 : decode cX7_init 23 = .ok (.putfield 18, 3) := by decide +kernel
theorem dX7_init_26 : decode cX7_init 26 = .ok (.return_, 1) := by decide +kernel
theorem dX7_store_0 : decode cX7_store 0 = .ok (.iload_n 1, 1) := by decide +kernel
theorem dX7_store_1 : decode cX7_store 1 = .ok (.ifCond .ne 19, 3) := by decide +kernel
theorem dX7_store_4 : decode cX7_store 4 = .ok (.aload_n 0, 1) := by decide +kernel
theorem dX7_store_5 : decode cX7_store 5 = .ok (.getfield 12, 3) := by decide +kernel
theorem dX7_store_8 : decode cX7_store 8 = .ok (.aload_n 2, 1) := by decide +kernel
theorem dX7_store_9 : decode cX7_store 9 = .ok (.invokevirtual 21, 3) := by decide +kernel
theorem dX7_store_12 : decode cX7_store 12 = .ok (.aload_n 0, 1) := by decide +kernel
theorem dX7_store_13 : decode cX7_store 13 = .ok (.iconst 1, 1) := by decide +kernel
theorem dX7_store_14 : decode cX7_store 14 = .ok (.putfield 25, 3) := by decide +kernel
theorem dX7_store_17 : decode cX7_store 17 = .ok (.goto 16, 3) := by decide +kernel
theorem dX7_store_20 : decode cX7_store 20 = .ok (.aload_n 0, 1) := by decide +kernel
theorem dX7_store_21 : decode cX7_store 21 = .ok (.getfield 18, 3) := by decide +kernel
theorem dX7_store_24 : decode cX7_store 24 = .ok (.aload_n 2, 1) := by decide +kernel
theorem dX7_store_25 : decode cX7_store 25 = .ok (.invokevirtual 21, 3) := by decide +kernel
theorem dX7_store_28 : decode cX7_store 28 = .ok (.aload_n 0, 1) := by decide +kernel
theorem dX7_store_29 : decode cX7_store 29 = .ok (.iconst 1, 1) := by decide +kernel
theorem dX7_store_30 : decode cX7_store 30 = .ok (.putfield 29, 3) := by decide +kernel
theorem dX7_store_33 : decode cX7_store 33 = .ok (.return_, 1) := by decide +kernel
theorem dX7_fetch_0 : decode cX7_fetch 0 = .ok (.iload_n 1, 1) := by decide +kernel
theorem dX7_fetch_1 : decode cX7_fetch 1 = .ok (.ifCond .ne 13, 3) := by decide +kernel
theorem dX7_fetch_4 : decode cX7_fetch 4 = .ok (.aload_n 0, 1) := by decide +kernel
theorem dX7_fetch_5 : decode cX7_fetch 5 = .ok (.getfield 25, 3) := by decide +kernel
theorem dX7_fetch_8 : decode cX7_fetch 8 = .ok (.ifCond .ne 16, 3) := by decide +kernel
theorem dX7_fetch_11 : decode cX7_fetch 11 = .ok (.goto 10, 3) := by decide +kernel
theorem dX7_fetch_14 : decode cX7_fetch 14 = .ok (.aload_n 0, 1) := by decide +kernel
theorem dX7_fetch_15 : decode cX7_fetch 15 = .ok (.getfield 29, 3) := by decide +kernel
theorem dX7_fetch_18 : decode cX7_fetch 18 = .ok (.ifCond .ne 6, 3) := by decide +kernel
theorem dX7_fetch_21 : decode cX7_fetch 21 = .ok (.bipush (-5), 2) := by decide +kernel
theorem dX7_fetch_23 : decode cX7_fetch 23 = .ok (.ireturn, 1) := by decide +kernel
theorem dX7_fetch_24 : decode cX7_fetch 24 = .ok (.aload_n 2, 1) := by decide +kernel
theorem dX7_fetch_25 : decode cX7_fetch 25 = .ok (.iload_n 1, 1) := by decide +kernel
theorem dX7_fetch_26 : decode cX7_fetch 26 = .ok (.ifCond .ne 10, 3) := by decide +kernel
theorem dX7_fetch_29 : decode cX7_fetch 29 = .ok (.aload_n 0, 1) := by decide +kernel
theorem dX7_fetch_30 : decode cX7_fetch 30 = .ok (.getfield 12, 3) := by decide +kernel
theorem dX7_fetch_33 : decode cX7_fetch 33 = .ok (.goto 7, 3) := by decide +kernel
theorem dX7_fetch_36 : decode cX7_fetch 36 = .ok (.aload_n 0, 1) := by decide +kernel
theorem dX7_fetch_37 : decode cX7_fetch 37 = .ok (.getfield 18, 3) := by decide +kernel
theorem dX7_fetch_40 : decode cX7_fetch 40 = .ok (.invokevirtual 21, 3) := by decide +kernel
theorem dX7_fetch_43 : decode cX7_fetch 43 = .ok (.aload_n 2, 1) := by decide +kernel
theorem dX7_fetch_44 : decode cX7_fetch 44 = .ok (.getfield 32, 3) := by decide +kernel
theorem dX7_fetch_47 : decode cX7_fetch 47 = .ok (.ireturn, 1) := by decide +kernel
theorem dX8_init_0 : decode cX8_init 0 = .ok (.aload_n 0, 1) := by decide +kernel
theorem dX8_init_1 : decode cX8_init 1 = .ok (.invokespecial 3, 3) := by decide +kernel
theorem dX8_init_4 : decode cX8_init 4 = .ok (.aload_n 0, 1) := by decide +kernel
theorem dX8_init_5 : decode cX8_init 5 = .ok (.bipush 12, 2) := by decide +kernel
theorem dX8_init_7 : decode cX8_init 7 = .ok (.newarray .int, 2) := by decide +kernel
theorem dX8_init_9 : decode cX8_init 9 = .ok (.dup, 1) := by decide +kernel
theorem dX8_init_10 : decode cX8_init 10 = .ok (.iconst 0, 1) := by decide +kernel
theorem dX8_init_11 : decode cX8_init 11 = .ok (.bipush 30, 2) := by decide +kernel
theorem dX8_init_13 : decode cX8_init 13 = .ok (.iastore, 1) := by decide +kernel
theorem dX8_init_14 : decode cX8_init 14 = .ok (.dup, 1) := by decide +kernel
theorem dX8_init_15 : decode cX8_init 15 = .ok (.iconst 1, 1) := by decide +kernel
theorem dX8_init_16 : decode cX8_init 16 = .ok (.iconst 2, 1) := by decide +kernel
theorem dX8_init_17 : decode cX8_init 17 = .ok (.iastore, 1) := by decide +kernel
theorem dX8_init_18 : decode cX8_init 18 = .ok (.dup, 1) := by decide +kernel
theorem dX8_init_19 : decode cX8_init 19 = .ok (.iconst 2, 1) := by decide +kernel
theorem dX8_init_20 : decode cX8_init 20 = .ok (.bipush 100, 2) := by decide +kernel
theorem dX8_init_22 : decode cX8_init 22 = .ok (.iastore, 1) := by decide +kernel
theorem dX8_init_23 : decode cX8_init 23 = .ok (.dup, 1) := by decide +kernel
theorem dX8_init_24 : decode cX8_init 24 = .ok (.iconst 3, 1) := by decide +kernel
theorem dX8_init_25 : decode cX8_init 25 = .ok (.bipush 20, 2) := by decide +kernel
theorem dX8_init_27 : decode cX8_init 27 = .ok (.iastore, 1) := by decide +kernel
theorem dX8_init_28 : decode cX8_init 28 = .ok (.dup, 1) := by decide +kernel
theorem dX8_init_29 : decode cX8_init 29 = .ok (.iconst 4, 1) := by decide +kernel
theorem dX8_init_30 : decode cX8_init 30 = .ok (.bipush 30, 2) := by decide +kernel
theorem dX8_init_32 : decode cX8_init 32 = .ok (.iastore, 1) := by decide +kernel
theorem dX8_init_33 : decode cX8_init 33 = .ok (.dup, 1) := by decide +kernel
theorem dX8_init_34 : decode cX8_init 34 = .ok (.iconst 5, 1) := by decide +kernel
theorem dX8_init_35 : decode cX8_init 35 = .ok (.iconst 2, 1) := by decide +kernel
theorem dX8_init_36 : decode cX8_init 36 = .ok (.iastore, 1) := by decide +kernel
theorem dX8_init_37 : decode cX8_init 37 = .ok (.dup, 1) := by decide +kernel
theorem dX8_init_38 : decode cX8_init 38 = .ok (.bipush 6, 2) := by decide +kernel
theorem dX8_init_40 : decode cX8_init 40 = .ok (.bipush 90, 2) := by decide +kernel
theorem dX8_init_42 : decode cX8_init 42 = .ok (.iastore, 1) := by decide +kernel
theorem dX8_init_43 : decode cX8_init 43 = .ok (.dup, 1) := by decide +kernel
theorem dX8_init_44 : decode cX8_init 44 = .ok (.bipush 7, 2) := by decide +kernel
theorem dX8_init_46 : decode cX8_init 46 = .ok (.bipush 20, 2) := by decide +kernel
theorem dX8_init_48 : decode cX8_init 48 = .ok (.iastore, 1) := by decide +kernel
theorem dX8_init_49 : decode cX8_init 49 = .ok (.dup, 1) := by decide +kernel
theorem dX8_init_50 : decode cX8_init 50 = .ok (.bipush 8, 2) := by decide +kernel
theorem dX8_init_52 : decode cX8_init 52 = .ok (.bipush 30, 2) := by decide +kernel
theorem dX8_init_54 : decode cX8_init 54 = .ok (.iastore, 1) := by decide +kernel
theorem dX8_init_55 : decode cX8_init 55 = .ok (.dup, 1) := by decide +kernel
theorem dX8_init_56 : decode cX8_init 56 = .ok (.bipush 9, 2) := by decide +kernel
theorem dX8_init_58 : decode cX8_init 58 = .ok (.iconst 2, 1) := by decide +kernel
theorem dX8_init_59 : decode cX8_init 59 = .ok (.iastore, 1) := by decide +kernel
theorem dX8_init_60 : decode cX8_init 60 = .ok (.dup, 1) := by decide +kernel
theorem dX8_init_61 : decode cX8_init 61 = .ok (.bipush 10, 2) := by decide +kernel
theorem dX8_init_63 : decode cX8_init 63 = .ok (.bipush 80, 2) := by decide +kernel
theorem dX8_init_65 : decode cX8_init 65 = .ok (.iastore, 1) := by decide +kernel
theorem dX8_init_66 : decode cX8_init 66 = .ok (.dup, 1) := by decide +kernel
theorem dX8_init_67 : decode cX8_init 67 = .ok (.bipush 11, 2) := by decide +kernel
theorem dX8_init_69 : decode cX8_init 69 = .ok (.bipush 20, 2) := by decide +kernel
theorem dX8_init_71 : decode cX8_init 71 = .ok (.iastore, 1) := by decide +kernel
theorem dX8_init_72 : decode cX8_init 72 = .ok (.putfield 9, 3) := by decide +kernel
theorem dX8_init_75 : decode cX8_init 75 = .ok (.aload_n 0, 1) := by decide +kernel
theorem dX8_init_76 : decode cX8_init 76 = .ok (.bipush 24, 2) := by decide +kernel
theorem dX8_init_78 : decode cX8_init 78 = .ok (.newarray .int, 2) := by decide +kernel
theorem dX8_init_80 : decode cX8_init 80 = .ok (.putfield 15, 3) := by decide +kernel
theorem dX8_init_83 : decode cX8_init 83 = .ok (.return_, 1) := by decide +kernel
theorem dX8_copyFrom_0 : decode cX8_copyFrom 0 = .ok (.aload_n 1, 1) := by decide +kernel
theorem dX8_copyFrom_1 : decode cX8_copyFrom 1 = .ok (.getfield 9, 3) := by decide +kernel
theorem dX8_copyFrom_4 : decode cX8_copyFrom 4 = .ok (.aload_n 0, 1) := by decide +kernel
theorem dX8_copyFrom_5 : decode cX8_copyFrom 5 = .ok (.getfield 9, 3) := by decide +kernel
theorem dX8_copyFrom_8 : decode cX8_copyFrom 8 = .ok (.invokestatic 18, 3) := by decide +kernel
theorem dX8_copyFrom_11 : decode cX8_copyFrom 11 = .ok (.aload_n 1, 1) := by decide +kernel
theorem dX8_copyFrom_12 : decode cX8_copyFrom 12 = .ok (.getfield 15, 3) := by decide +kernel
theorem dX8_copyFrom_15 : decode cX8_copyFrom 15 = .ok (.aload_n 0, 1) := by decide +kernel
theorem dX8_copyFrom_16 : decode cX8_copyFrom 16 = .ok (.getfield 15, 3) := by decide +kernel
theorem dX8_copyFrom_19 : decode cX8_copyFrom 19 = .ok (.invokestatic 18, 3) := by decide +kernel
theorem dX8_copyFrom_22 : decode cX8_copyFrom 22 = .ok (.return_, 1) := by decide +kernel
theorem dX8_about_0 : decode cX8_about 0 = .ok (.aload_n 0, 1) := by decide +kernel
theorem dX8_about_1 : decode cX8_about 1 = .ok (.getfield 9, 3) := by decide +kernel
theorem dX8_about_4 : decode cX8_about 4 = .ok (.iload_n 1, 1) := by decide +kernel
theorem dX8_about_5 : decode cX8_about 5 = .ok (.iconst 4, 1) := by decide +kernel
theorem dX8_about_6 : decode cX8_about 6 = .ok (.imul, 1) := by decide +kernel
theorem dX8_about_7 : decode cX8_about 7 = .ok (.iload_n 2, 1) := by decide +kernel
theorem dX8_about_8 : decode cX8_about 8 = .ok (.iadd, 1) := by decide +kernel
theorem dX8_about_9 : decode cX8_about 9 = .ok (.invokestatic 22, 3) := by decide +kernel
theorem dX8_about_12 : decode cX8_about 12 = .ok (.ireturn, 1) := by decide +kernel
theorem dX8_change_0 : decode cX8_change 0 = .ok (.aload_n 0, 1) := by decide +kernel
theorem dX8_change_1 : decode cX8_change 1 = .ok (.getfield 9, 3) := by decide +kernel
theorem dX8_change_4 : decode cX8_change 4 = .ok (.iload_n 1, 1) := by decide +kernel
theorem dX8_change_5 : decode cX8_change 5 = .ok (.iconst 4, 1) := by decide +kernel
theorem dX8_change_6 : decode cX8_change 6 = .ok (.imul, 1) := by decide +kernel
theorem dX8_change_7 : decode cX8_change 7 = .ok (.iload_n 2, 1) := by decide +kernel
theorem dX8_change_8 : decode cX8_change 8 = .ok (.iadd, 1) := by decide +kernel
theorem dX8_change_9 : decode cX8_change 9 = .ok (.iload_n 3, 1) := by decide +kernel
theorem dX8_change_10 : decode cX8_change 10 = .ok (.invokestatic 26, 3) := by decide +kernel
theorem dX8_change_13 : decode cX8_change 13 = .ok (.return_, 1) := by decide +kernel
theorem dX8_ofHour_0 : decode cX8_ofHour 0 = .ok (.aload_n 0, 1) := by decide +kernel
theorem dX8_ofHour_1 : decode cX8_ofHour 1 = .ok (.getfield 15, 3) := by decide +kernel
theorem dX8_ofHour_4 : decode cX8_ofHour 4 = .ok (.iload_n 1, 1) := by decide +kernel
theorem dX8_ofHour_5 : decode cX8_ofHour 5 = .ok (.invokestatic 22, 3) := by decide +kernel
theorem dX8_ofHour_8 : decode cX8_ofHour 8 = .ok (.ireturn, 1) := by decide +kernel
theorem dX8_ofSecond_0 : decode cX8_ofSecond 0 = .ok (.aload_n 0, 1) := by decide +kernel
theorem dX8_ofSecond_1 : decode cX8_ofSecond 1 = .ok (.getfield 15, 3) := by decide +kernel
theorem dX8_ofSecond_4 : decode cX8_ofSecond 4 = .ok (.iload_n 1, 1) := by decide +kernel
theorem dX8_ofSecond_5 : decode cX8_ofSecond 5 = .ok (.sipush 3600, 3) := by decide +kernel
theorem dX8_ofSecond_8 : decode cX8_ofSecond 8 = .ok (.idiv, 1) := by decide +kernel
theorem dX8_ofSecond_9 : decode cX8_ofSecond 9 = .ok (.invokestatic 22, 3) := by decide +kernel
theorem dX8_ofSecond_12 : decode cX8_ofSecond 12 = .ok (.ireturn, 1) := by decide +kernel
theorem dX8_giveHour_0 : decode cX8_giveHour 0 = .ok (.aload_n 0, 1) := by decide +kernel
theorem dX8_giveHour_1 : decode cX8_giveHour 1 = .ok (.getfield 15, 3) := by decide +kernel
theorem dX8_giveHour_4 : decode cX8_giveHour 4 = .ok (.iload_n 1, 1) := by decide +kernel
theorem dX8_giveHour_5 : decode cX8_giveHour 5 = .ok (.iload_n 2, 1) := by decide +kernel
theorem dX8_giveHour_6 : decode cX8_giveHour 6 = .ok (.invokestatic 26, 3) := by decide +kernel
theorem dX8_giveHour_9 : decode cX8_giveHour 9 = .ok (.return_, 1) := by decide +kernel
theorem dX8_hoursOf_0 : decode cX8_hoursOf 0 = .ok (.iconst 0, 1) := by decide +kernel
theorem dX8_hoursOf_1 : decode cX8_hoursOf 1 = .ok (.istore_n 2, 1) := by decide +kernel
theorem dX8_hoursOf_2 : decode cX8_hoursOf 2 = .ok (.iconst 0, 1) := by decide +kernel
theorem dX8_hoursOf_3 : decode cX8_hoursOf 3 = .ok (.istore_n 3, 1) := by decide +kernel
theorem dX8_hoursOf_4 : decode cX8_hoursOf 4 = .ok (.iload_n 3, 1) := by decide +kernel
theorem dX8_hoursOf_5 : decode cX8_hoursOf 5 = .ok (.bipush 24, 2) := by decide +kernel
theorem dX8_hoursOf_7 : decode cX8_hoursOf 7 = .ok (.if_icmp .ge 21, 3) := by decide +kernel
theorem dX8_hoursOf_10 : decode cX8_hoursOf 10 = .ok (.aload_n 0, 1) := by decide +kernel
theorem dX8_hoursOf_11 : decode cX8_hoursOf 11 = .ok (.iload_n 3, 1) := by decide +kernel
theorem dX8_hoursOf_12 : decode cX8_hoursOf 12 = .ok (.invokevirtual 30, 3) := by decide +kernel
theorem dX8_hoursOf_15 : decode cX8_hoursOf 15 = .ok (.iload_n 1, 1) := by decide +kernel
theorem dX8_hoursOf_16 : decode cX8_hoursOf 16 = .ok (.if_icmp .ne 6, 3) := by decide +kernel
theorem dX8_hoursOf_19 : decode cX8_hoursOf 19 = .ok (.iinc 2 1, 3) := by decide +kernel
theorem dX8_hoursOf_22 : decode cX8_hoursOf 22 = .ok (.iinc 3 1, 3) := by decide +kernel
theorem dX8_hoursOf_25 : decode cX8_hoursOf 25 = .ok (.goto (-21), 3) := by decide +kernel
theorem dX8_hoursOf_28 : decode cX8_hoursOf 28 = .ok (.iload_n 2, 1) := by decide +kernel
theorem dX8_hoursOf_29 : decode cX8_hoursOf 29 = .ok (.ireturn, 1) := by decide +kernel
theorem dX9_init_0 : decode cX9_init 0 = .ok (.aload_n 0, 1) := by decide +kernel
theorem dX9_init_1 : decode cX9_init 1 = .ok (.invokespecial 3, 3) := by decide +kernel
theorem dX9_init_4 : decode cX9_init 4 = .ok (.aload_n 0, 1) := by decide +kernel
theorem dX9_init_5 : decode cX9_init 5 = .ok (.new 9, 3) := by decide +kernel
theorem dX9_init_8 : decode cX9_init 8 = .ok (.dup, 1) := by decide +kernel
theorem dX9_init_9 : decode cX9_init 9 = .ok (.invokespecial 11, 3) := by decide +kernel
theorem dX9_init_12 : decode cX9_init 12 = .ok (.putfield 12, 3) := by decide +kernel
theorem dX9_init_15 : decode cX9_init 15 = .ok (.aload_n 0, 1) := by decide +kernel
theorem dX9_init_16 : decode cX9_init 16 = .ok (.new 16, 3) := by decide +kernel
theorem dX9_init_19 : decode cX9_init 19 = .ok (.dup, 1) := by decide +kernel
theorem dX9_init_20 : decode cX9_init 20 = .ok (.invokespecial 18, 3) := by decide +kernel
theorem dX9_init_23 : decode cX9_init 23 = .ok (.putfield 19, 3) := by decide +kernel
theorem dX9_init_26 : decode cX9_init 26 = .ok (.aload_n 0, 1) := by decide +kernel
theorem dX9_init_27 : decode cX9_init 27 = .ok (.new 23, 3) := by decide +kernel
theorem dX9_init_30 : decode cX9_init 30 = .ok (.dup, 1) := by decide +kernel
theorem dX9_init_31 : decode cX9_init 31 = .ok (.invokespecial 25, 3) := by decide +kernel
theorem dX9_init_34 : decode cX9_init 34 = .ok (.putfield 26, 3) := by decide +kernel
theorem dX9_init_37 : decode cX9_init 37 = .ok (.aload_n 0, 1) := by decide +kernel
theorem dX9_init_38 : decode cX9_init 38 = .ok (.new 30, 3) := by decide +kernel
theorem dX9_init_41 : decode cX9_init 41 = .ok (.dup, 1) := by decide +kernel
theorem dX9_init_42 : decode cX9_init 42 = .ok (.invokespecial 32, 3) := by decide +kernel
theorem dX9_init_45 : decode cX9_init 45 = .ok (.putfield 33, 3) := by decide +kernel
theorem dX9_init_48 : decode cX9_init 48 = .ok (.aload_n 0, 1) := by decide +kernel
theorem dX9_init_49 : decode cX9_init 49 = .ok (.new 37, 3) := by decide +kernel
theorem dX9_init_52 : decode cX9_init 52 = .ok (.dup, 1) := by decide +kernel
theorem dX9_init_53 : decode cX9_init 53 = .ok (.invokespecial 39, 3) := by decide +kernel
theorem dX9_init_56 : decode cX9_init 56 = .ok (.putfield 40, 3) := by decide +kernel
theorem dX9_init_59 : decode cX9_init 59 = .ok (.aload_n 0, 1) := by decide +kernel
theorem dX9_init_60 : decode cX9_init 60 = .ok (.new 44, 3) := by decide +kernel
theorem dX9_init_63 : decode cX9_init 63 = .ok (.dup, 1) := by decide +kernel
theorem dX9_init_64 : decode cX9_init 64 = .ok (.invokespecial 46, 3) := by decide +kernel
theorem dX9_init_67 : decode cX9_init 67 = .ok (.putfield 47, 3) := by decide +kernel
theorem dX9_init_70 : decode cX9_init 70 = .ok (.return_, 1) := by decide +kernel
theorem dX9_tariff_0 : decode cX9_tariff 0 = .ok (.iload_n 1, 1) := by decide +kernel
theorem dX9_tariff_1 : decode cX9_tariff 1 = .ok (.iconst 0, 1) := by decide +kernel
theorem dX9_tariff_2 : decode cX9_tariff 2 = .ok (.iconst 2, 1) := by decide +kernel
theorem dX9_tariff_3 : decode cX9_tariff 3 = .ok (.invokestatic 51, 3) := by decide +kernel
theorem dX9_tariff_6 : decode cX9_tariff 6 = .ok (.ifCond .ne 5, 3) := by decide +kernel
theorem dX9_tariff_9 : decode cX9_tariff 9 = .ok (.iconst (-1), 1) := by decide +kernel
theorem dX9_tariff_10 : decode cX9_tariff 10 = .ok (.ireturn, 1) := by decide +kernel
theorem dX9_tariff_11 : decode cX9_tariff 11 = .ok (.iload_n 2, 1) := by decide +kernel
theorem dX9_tariff_12 : decode cX9_tariff 12 = .ok (.iconst 0, 1) := by decide +kernel
theorem dX9_tariff_13 : decode cX9_tariff 13 = .ok (.sipush 999, 3) := by decide +kernel
theorem dX9_tariff_16 : decode cX9_tariff 16 = .ok (.invokestatic 51, 3) := by decide +kernel
theorem dX9_tariff_19 : decode cX9_tariff 19 = .ok (.ifCond .eq 37, 3) := by decide +kernel
theorem dX9_tariff_22 : decode cX9_tariff 22 = .ok (.iload_n 3, 1) := by decide +kernel
theorem dX9_tariff_23 : decode cX9_tariff 23 = .ok (.iconst 1, 1) := by decide +kernel
theorem dX9_tariff_24 : decode cX9_tariff 24 = .ok (.bipush 99, 2) := by decide +kernel
theorem dX9_tariff_26 : decode cX9_tariff 26 = .ok (.invokestatic 51, 3) := by decide +kernel
theorem dX9_tariff_29 : decode cX9_tariff 29 = .ok (.ifCond .eq 27, 3) := by decide +kernel
theorem dX9_tariff_32 : decode cX9_tariff 32 = .ok (.iload 4, 2) := by decide +kernel
theorem dX9_tariff_34 : decode cX9_tariff 34 = .ok (.iconst 1, 1) := by decide +kernel
theorem dX9_tariff_35 : decode cX9_tariff 35 = .ok (.sipush 999, 3) := by decide +kernel
theorem dX9_tariff_38 : decode cX9_tariff 38 = .ok (.invokestatic 51, 3) := by decide +kernel
theorem dX9_tariff_41 : decode cX9_tariff 41 = .ok (.ifCond .eq 15, 3) := by decide +kernel
theorem dX9_tariff_44 : decode cX9_tariff 44 = .ok (.iload 5, 2) := by decide +kernel
theorem dX9_tariff_46 : decode cX9_tariff 46 = .ok (.iconst 1, 1) := by decide +kernel
theorem dX9_tariff_47 : decode cX9_tariff 47 = .ok (.sipush 999, 3) := by decide +kernel
theorem dX9_tariff_50 : decode cX9_tariff 50 = .ok (.invokestatic 51, 3) := by decide +kernel
theorem dX9_tariff_53 : decode cX9_tariff 53 = .ok (.ifCond .ne 6, 3) := by decide +kernel
theorem dX9_tariff_56 : decode cX9_tariff 56 = .ok (.bipush (-2), 2) := by decide +kernel
theorem dX9_tariff_58 : decode cX9_tariff 58 = .ok (.ireturn, 1) := by decide +kernel
theorem dX9_tariff_59 : decode cX9_tariff 59 = .ok (.aload_n 0, 1) := by decide +kernel
theorem dX9_tariff_60 : decode cX9_tariff 60 = .ok (.getfield 19, 3) := by decide +kernel
theorem dX9_tariff_63 : decode cX9_tariff 63 = .ok (.aload_n 0, 1) := by decide +kernel
theorem dX9_tariff_64 : decode cX9_tariff 64 = .ok (.getfield 12, 3) := by decide +kernel
theorem dX9_tariff_67 : decode cX9_tariff 67 = .ok (.invokevirtual 55, 3) := by decide +kernel
theorem dX9_tariff_70 : decode cX9_tariff 70 = .ok (.aload_n 0, 1) := by decide +kernel
theorem dX9_tariff_71 : decode cX9_tariff 71 = .ok (.getfield 12, 3) := by decide +kernel
theorem dX9_tariff_74 : decode cX9_tariff 74 = .ok (.getfield 59, 3) := by decide +kernel
theorem dX9_tariff_77 : decode cX9_tariff 77 = .ok (.iload_n 1, 1) := by decide +kernel
theorem dX9_tariff_78 : decode cX9_tariff 78 = .ok (.iconst 1, 1) := by decide +kernel
theorem dX9_tariff_79 : decode cX9_tariff 79 = .ok (.invokevirtual 65, 3) := by decide +kernel
theorem dX9_tariff_82 : decode cX9_tariff 82 = .ok (.istore 6, 2) := by decide +kernel
theorem dX9_tariff_84 : decode cX9_tariff 84 = .ok (.aload_n 0, 1) := by decide +kernel
theorem dX9_tariff_85 : decode cX9_tariff 85 = .ok (.getfield 12, 3) := by decide +kernel
theorem dX9_tariff_88 : decode cX9_tariff 88 = .ok (.getfield 59, 3) := by decide +kernel
theorem dX9_tariff_91 : decode cX9_tariff 91 = .ok (.iload_n 1, 1) := by decide +kernel
theorem dX9_tariff_92 : decode cX9_tariff 92 = .ok (.iconst 0, 1) := by decide +kernel
theorem dX9_tariff_93 : decode cX9_tariff 93 = .ok (.iload_n 2, 1) := by decide +kernel
theorem dX9_tariff_94 : decode cX9_tariff 94 = .ok (.invokevirtual 69, 3) := by decide +kernel
theorem dX9_tariff_97 : decode cX9_tariff 97 = .ok (.aload_n 0, 1) := by decide +kernel
theorem dX9_tariff_98 : decode cX9_tariff 98 = .ok (.getfield 12, 3) := by decide +kernel
theorem dX9_tariff_101 : decode cX9_tariff 101 = .ok (.getfield 59, 3) := by decide +kernel
theorem dX9_tariff_104 : decode cX9_tariff 104 = .ok (.iload_n 1, 1) := by decide +kernel
theorem dX9_tariff_105 : decode cX9_tariff 105 = .ok (.iconst 1, 1) := by decide +kernel
theorem dX9_tariff_106 : decode cX9_tariff 106 = .ok (.iload_n 3, 1) := by decide +kernel
theorem dX9_tariff_107 : decode cX9_tariff 107 = .ok (.invokevirtual 69, 3) := by decide +kernel
theorem dX9_tariff_110 : decode cX9_tariff 110 = .ok (.aload_n 0, 1) := by decide +kernel
theorem dX9_tariff_111 : decode cX9_tariff 111 = .ok (.getfield 12, 3) := by decide +kernel
theorem dX9_tariff_114 : decode cX9_tariff 114 = .ok (.getfield 59, 3) := by decide +kernel
theorem dX9_tariff_117 : decode cX9_tariff 117 = .ok (.iload_n 1, 1) := by decide +kernel
theorem dX9_tariff_118 : decode cX9_tariff 118 = .ok (.iconst 2, 1) := by decide +kernel
theorem dX9_tariff_119 : decode cX9_tariff 119 = .ok (.iload 4, 2) := by decide +kernel
theorem dX9_tariff_121 : decode cX9_tariff 121 = .ok (.invokevirtual 69, 3) := by decide +kernel
theorem dX9_tariff_124 : decode cX9_tariff 124 = .ok (.aload_n 0, 1) := by decide +kernel
theorem dX9_tariff_125 : decode cX9_tariff 125 = .ok (.getfield 12, 3) := by decide +kernel
theorem dX9_tariff_128 : decode cX9_tariff 128 = .ok (.getfield 59, 3) := by decide +kernel
theorem dX9_tariff_131 : decode cX9_tariff 131 = .ok (.iload_n 1, 1) := by decide +kernel
theorem dX9_tariff_132 : decode cX9_tariff 132 = .ok (.iconst 3, 1) := by decide +kernel
theorem dX9_tariff_133 : decode cX9_tariff 133 = .ok (.iload 5, 2) := by decide +kernel
theorem dX9_tariff_135 : decode cX9_tariff 135 = .ok (.invokevirtual 69, 3) := by decide +kernel
theorem dX9_tariff_138 : decode cX9_tariff 138 = .ok (.aload_n 0, 1) := by decide +kernel
theorem dX9_tariff_139 : decode cX9_tariff 139 = .ok (.getfield 19, 3) := by decide +kernel
theorem dX9_tariff_142 : decode cX9_tariff 142 = .ok (.iload 6, 2) := by decide +kernel
theorem dX9_tariff_144 : decode cX9_tariff 144 = .ok (.invokevirtual 73, 3) := by decide +kernel
theorem dX9_tariff_147 : decode cX9_tariff 147 = .ok (.ireturn, 1) := by decide +kernel
theorem dX9_hour_0 : decode cX9_hour 0 = .ok (.iload_n 1, 1) := by decide +kernel
theorem dX9_hour_1 : decode cX9_hour 1 = .ok (.iconst 0, 1) := by decide +kernel
theorem dX9_hour_2 : decode cX9_hour 2 = .ok (.bipush 23, 2) := by decide +kernel
theorem dX9_hour_4 : decode cX9_hour 4 = .ok (.invokestatic 51, 3) := by decide +kernel
theorem dX9_hour_7 : decode cX9_hour 7 = .ok (.ifCond .eq 12, 3) := by decide +kernel
theorem dX9_hour_10 : decode cX9_hour 10 = .ok (.iload_n 2, 1) := by decide +kernel
theorem dX9_hour_11 : decode cX9_hour 11 = .ok (.iconst 0, 1) := by decide +kernel
theorem dX9_hour_12 : decode cX9_hour 12 = .ok (.iconst 2, 1) := by decide +kernel
theorem dX9_hour_13 : decode cX9_hour 13 = .ok (.invokestatic 51, 3) := by decide +kernel
theorem dX9_hour_16 : decode cX9_hour 16 = .ok (.ifCond .ne 5, 3) := by decide +kernel
theorem dX9_hour_19 : decode cX9_hour 19 = .ok (.iconst (-1), 1) := by decide +kernel
theorem dX9_hour_20 : decode cX9_hour 20 = .ok (.ireturn, 1) := by decide +kernel
theorem dX9_hour_21 : decode cX9_hour 21 = .ok (.aload_n 0, 1) := by decide +kernel
theorem dX9_hour_22 : decode cX9_hour 22 = .ok (.getfield 19, 3) := by decide +kernel
theorem dX9_hour_25 : decode cX9_hour 25 = .ok (.aload_n 0, 1) := by decide +kernel
theorem dX9_hour_26 : decode cX9_hour 26 = .ok (.getfield 12, 3) := by decide +kernel
theorem dX9_hour_29 : decode cX9_hour 29 = .ok (.invokevirtual 55, 3) := by decide +kernel
theorem dX9_hour_32 : decode cX9_hour 32 = .ok (.aload_n 0, 1) := by decide +kernel
theorem dX9_hour_33 : decode cX9_hour 33 = .ok (.getfield 12, 3) := by decide +kernel
theorem dX9_hour_36 : decode cX9_hour 36 = .ok (.getfield 59, 3) := by decide +kernel
theorem dX9_hour_39 : decode cX9_hour 39 = .ok (.iload_n 1, 1) := by decide +kernel
theorem dX9_hour_40 : decode cX9_hour 40 = .ok (.invokevirtual 77, 3) := by decide +kernel
theorem dX9_hour_43 : decode cX9_hour 43 = .ok (.istore_n 3, 1) := by decide +kernel
theorem dX9_hour_44 : decode cX9_hour 44 = .ok (.aload_n 0, 1) := by decide +kernel
theorem dX9_hour_45 : decode cX9_hour 45 = .ok (.getfield 12, 3) := by decide +kernel
theorem dX9_hour_48 : decode cX9_hour 48 = .ok (.getfield 59, 3) := by decide +kernel
theorem dX9_hour_51 : decode cX9_hour 51 = .ok (.iload_n 1, 1) := by decide +kernel
theorem dX9_hour_52 : decode cX9_hour 52 = .ok (.iload_n 2, 1) := by decide +kernel
theorem dX9_hour_53 : decode cX9_hour 53 = .ok (.invokevirtual 80, 3) := by decide +kernel
theorem dX9_hour_56 : decode cX9_hour 56 = .ok (.aload_n 0, 1) := by decide +kernel
theorem dX9_hour_57 : decode cX9_hour 57 = .ok (.getfield 19, 3) := by decide +kernel
theorem dX9_hour_60 : decode cX9_hour 60 = .ok (.iload_n 3, 1) := by decide +kernel
theorem dX9_hour_61 : decode cX9_hour 61 = .ok (.invokevirtual 73, 3) := by decide +kernel
theorem dX9_hour_64 : decode cX9_hour 64 = .ok (.ireturn, 1) := by decide +kernel
theorem dX9_priceOfExtra_0 : decode cX9_priceOfExtra 0 = .ok (.iload_n 1, 1) := by decide +kernel
theorem dX9_priceOfExtra_1 : decode cX9_priceOfExtra 1 = .ok (.iconst 0, 1) := by decide +kernel
theorem dX9_priceOfExtra_2 : decode cX9_priceOfExtra 2 = .ok (.bipush 99, 2) := by decide +kernel
theorem dX9_priceOfExtra_4 : decode cX9_priceOfExtra 4 = .ok (.invokestatic 51, 3) := by decide +kernel
theorem dX9_priceOfExtra_7 : decode cX9_priceOfExtra 7 = .ok (.ifCond .ne 6, 3) := by decide +kernel
theorem dX9_priceOfExtra_10 : decode cX9_priceOfExtra 10 = .ok (.bipush (-2), 2) := by decide +kernel
theorem dX9_priceOfExtra_12 : decode cX9_priceOfExtra 12 = .ok (.ireturn, 1) := by decide +kernel
theorem dX9_priceOfExtra_13 : decode cX9_priceOfExtra 13 = .ok (.aload_n 0, 1) := by decide +kernel
theorem dX9_priceOfExtra_14 : decode cX9_priceOfExtra 14 = .ok (.getfield 19, 3) := by decide +kernel
theorem dX9_priceOfExtra_17 : decode cX9_priceOfExtra 17 = .ok (.aload_n 0, 1) := by decide +kernel
theorem dX9_priceOfExtra_18 : decode cX9_priceOfExtra 18 = .ok (.getfield 12, 3) := by decide +kernel
theorem dX9_priceOfExtra_21 : decode cX9_priceOfExtra 21 = .ok (.invokevirtual 55, 3) := by decide +kernel
theorem dX9_priceOfExtra_24 : decode cX9_priceOfExtra 24 = .ok (.aload_n 0, 1) := by decide +kernel
theorem dX9_priceOfExtra_25 : decode cX9_priceOfExtra 25 = .ok (.getfield 12, 3) := by decide +kernel
theorem dX9_priceOfExtra_28 : decode cX9_priceOfExtra 28 = .ok (.getfield 84, 3) := by decide +kernel
theorem dX9_priceOfExtra_31 : decode cX9_priceOfExtra 31 = .ok (.istore_n 2, 1) := by decide +kernel
theorem dX9_priceOfExtra_32 : decode cX9_priceOfExtra 32 = .ok (.aload_n 0, 1) := by decide +kernel
theorem dX9_priceOfExtra_33 : decode cX9_priceOfExtra 33 = .ok (.getfield 12, 3) := by decide +kernel
theorem dX9_priceOfExtra_36 : decode cX9_priceOfExtra 36 = .ok (.iload_n 1, 1) := by decide +kernel
theorem dX9_priceOfExtra_37 : decode cX9_priceOfExtra 37 = .ok (.putfield 84, 3) := by decide +kernel
theorem dX9_priceOfExtra_40 : decode cX9_priceOfExtra 40 = .ok (.aload_n 0, 1) := by decide +kernel
theorem dX9_priceOfExtra_41 : decode cX9_priceOfExtra 41 = .ok (.getfield 19, 3) := by decide +kernel
theorem dX9_priceOfExtra_44 : decode cX9_priceOfExtra 44 = .ok (.iload_n 2, 1) := by decide +kernel
theorem dX9_priceOfExtra_45 : decode cX9_priceOfExtra 45 = .ok (.invokevirtual 73, 3) := by decide +kernel
theorem dX9_priceOfExtra_48 : decode cX9_priceOfExtra 48 = .ok (.ireturn, 1) := by decide +kernel
theorem dX9_hire_0 : decode cX9_hire 0 = .ok (.aload_n 0, 1) := by decide +kernel
theorem dX9_hire_1 : decode cX9_hire 1 = .ok (.getfield 19, 3) := by decide +kernel
theorem dX9_hire_4 : decode cX9_hire 4 = .ok (.aload_n 0, 1) := by decide +kernel
theorem dX9_hire_5 : decode cX9_hire 5 = .ok (.getfield 12, 3) := by decide +kernel
theorem dX9_hire_8 : decode cX9_hire 8 = .ok (.invokevirtual 55, 3) := by decide +kernel
theorem dX9_hire_11 : decode cX9_hire 11 = .ok (.aload_n 0, 1) := by decide +kernel
theorem dX9_hire_12 : decode cX9_hire 12 = .ok (.getfield 19, 3) := by decide +kernel
theorem dX9_hire_15 : decode cX9_hire 15 = .ok (.aload_n 0, 1) := by decide +kernel
theorem dX9_hire_16 : decode cX9_hire 16 = .ok (.getfield 12, 3) := by decide +kernel
theorem dX9_hire_19 : decode cX9_hire 19 = .ok (.invokevirtual 88, 3) := by decide +kernel
theorem dX9_hire_22 : decode cX9_hire 22 = .ok (.invokevirtual 73, 3) := by decide +kernel
theorem dX9_hire_25 : decode cX9_hire 25 = .ok (.ireturn, 1) := by decide +kernel
theorem dX9_drive_0 : decode cX9_drive 0 = .ok (.aload_n 0, 1) := by decide +kernel
theorem dX9_drive_1 : decode cX9_drive 1 = .ok (.getfield 19, 3) := by decide +kernel
theorem dX9_drive_4 : decode cX9_drive 4 = .ok (.aload_n 0, 1) := by decide +kernel
theorem dX9_drive_5 : decode cX9_drive 5 = .ok (.getfield 12, 3) := by decide +kernel
theorem dX9_drive_8 : decode cX9_drive 8 = .ok (.invokevirtual 55, 3) := by decide +kernel
theorem dX9_drive_11 : decode cX9_drive 11 = .ok (.aload_n 0, 1) := by decide +kernel
theorem dX9_drive_12 : decode cX9_drive 12 = .ok (.getfield 19, 3) := by decide +kernel
theorem dX9_drive_15 : decode cX9_drive 15 = .ok (.aload_n 0, 1) := by decide +kernel
theorem dX9_drive_16 : decode cX9_drive 16 = .ok (.getfield 12, 3) := by decide +kernel
theorem dX9_drive_19 : decode cX9_drive 19 = .ok (.aload_n 0, 1) := by decide +kernel
theorem dX9_drive_20 : decode cX9_drive 20 = .ok (.getfield 47, 3) := by decide +kernel
theorem dX9_drive_23 : decode cX9_drive 23 = .ok (.iload_n 1, 1) := by decide +kernel
theorem dX9_drive_24 : decode cX9_drive 24 = .ok (.iload_n 2, 1) := by decide +kernel
theorem dX9_drive_25 : decode cX9_drive 25 = .ok (.invokevirtual 92, 3) := by decide +kernel
theorem dX9_drive_28 : decode cX9_drive 28 = .ok (.invokevirtual 73, 3) := by decide +kernel
theorem dX9_drive_31 : decode cX9_drive 31 = .ok (.ireturn, 1) := by decide +kernel
theorem dX9_rest_0 : decode cX9_rest 0 = .ok (.aload_n 0, 1) := by decide +kernel
theorem dX9_rest_1 : decode cX9_rest 1 = .ok (.getfield 19, 3) := by decide +kernel
theorem dX9_rest_4 : decode cX9_rest 4 = .ok (.aload_n 0, 1) := by decide +kernel
theorem dX9_rest_5 : decode cX9_rest 5 = .ok (.getfield 12, 3) := by decide +kernel
theorem dX9_rest_8 : decode cX9_rest 8 = .ok (.invokevirtual 55, 3) := by decide +kernel
theorem dX9_rest_11 : decode cX9_rest 11 = .ok (.aload_n 0, 1) := by decide +kernel
theorem dX9_rest_12 : decode cX9_rest 12 = .ok (.getfield 19, 3) := by decide +kernel
theorem dX9_rest_15 : decode cX9_rest 15 = .ok (.aload_n 0, 1) := by decide +kernel
theorem dX9_rest_16 : decode cX9_rest 16 = .ok (.getfield 12, 3) := by decide +kernel
theorem dX9_rest_19 : decode cX9_rest 19 = .ok (.iload_n 1, 1) := by decide +kernel
theorem dX9_rest_20 : decode cX9_rest 20 = .ok (.invokevirtual 96, 3) := by decide +kernel
theorem dX9_rest_23 : decode cX9_rest 23 = .ok (.invokevirtual 73, 3) := by decide +kernel
theorem dX9_rest_26 : decode cX9_rest 26 = .ok (.ireturn, 1) := by decide +kernel
theorem dX9_halt_0 : decode cX9_halt 0 = .ok (.aload_n 0, 1) := by decide +kernel
theorem dX9_halt_1 : decode cX9_halt 1 = .ok (.getfield 19, 3) := by decide +kernel
theorem dX9_halt_4 : decode cX9_halt 4 = .ok (.aload_n 0, 1) := by decide +kernel
theorem dX9_halt_5 : decode cX9_halt 5 = .ok (.getfield 12, 3) := by decide +kernel
theorem dX9_halt_8 : decode cX9_halt 8 = .ok (.invokevirtual 55, 3) := by decide +kernel
theorem dX9_halt_11 : decode cX9_halt 11 = .ok (.aload_n 0, 1) := by decide +kernel
theorem dX9_halt_12 : decode cX9_halt 12 = .ok (.getfield 19, 3) := by decide +kernel
theorem dX9_halt_15 : decode cX9_halt 15 = .ok (.aload_n 0, 1) := by decide +kernel
theorem dX9_halt_16 : decode cX9_halt 16 = .ok (.getfield 12, 3) := by decide +kernel
theorem dX9_halt_19 : decode cX9_halt 19 = .ok (.invokevirtual 99, 3) := by decide +kernel
theorem dX9_halt_22 : decode cX9_halt 22 = .ok (.invokevirtual 73, 3) := by decide +kernel
theorem dX9_halt_25 : decode cX9_halt 25 = .ok (.ireturn, 1) := by decide +kernel
theorem dX9_extra_0 : decode cX9_extra 0 = .ok (.aload_n 0, 1) := by decide +kernel
theorem dX9_extra_1 : decode cX9_extra 1 = .ok (.getfield 19, 3) := by decide +kernel
theorem dX9_extra_4 : decode cX9_extra 4 = .ok (.aload_n 0, 1) := by decide +kernel
theorem dX9_extra_5 : decode cX9_extra 5 = .ok (.getfield 12, 3) := by decide +kernel
theorem dX9_extra_8 : decode cX9_extra 8 = .ok (.invokevirtual 55, 3) := by decide +kernel
theorem dX9_extra_11 : decode cX9_extra 11 = .ok (.aload_n 0, 1) := by decide +kernel
theorem dX9_extra_12 : decode cX9_extra 12 = .ok (.getfield 19, 3) := by decide +kernel
theorem dX9_extra_15 : decode cX9_extra 15 = .ok (.aload_n 0, 1) := by decide +kernel
theorem dX9_extra_16 : decode cX9_extra 16 = .ok (.getfield 12, 3) := by decide +kernel
theorem dX9_extra_19 : decode cX9_extra 19 = .ok (.invokevirtual 102, 3) := by decide +kernel
theorem dX9_extra_22 : decode cX9_extra 22 = .ok (.invokevirtual 73, 3) := by decide +kernel
theorem dX9_extra_25 : decode cX9_extra 25 = .ok (.ireturn, 1) := by decide +kernel
theorem dX9_end_0 : decode cX9_end 0 = .ok (.aload_n 0, 1) := by decide +kernel
theorem dX9_end_1 : decode cX9_end 1 = .ok (.getfield 19, 3) := by decide +kernel
theorem dX9_end_4 : decode cX9_end 4 = .ok (.aload_n 0, 1) := by decide +kernel
theorem dX9_end_5 : decode cX9_end 5 = .ok (.getfield 12, 3) := by decide +kernel
theorem dX9_end_8 : decode cX9_end 8 = .ok (.invokevirtual 55, 3) := by decide +kernel
theorem dX9_end_11 : decode cX9_end 11 = .ok (.aload_n 0, 1) := by decide +kernel
theorem dX9_end_12 : decode cX9_end 12 = .ok (.getfield 19, 3) := by decide +kernel
theorem dX9_end_15 : decode cX9_end 15 = .ok (.aload_n 0, 1) := by decide +kernel
theorem dX9_end_16 : decode cX9_end 16 = .ok (.getfield 12, 3) := by decide +kernel
theorem dX9_end_19 : decode cX9_end 19 = .ok (.invokevirtual 105, 3) := by decide +kernel
theorem dX9_end_22 : decode cX9_end 22 = .ok (.invokevirtual 73, 3) := by decide +kernel
theorem dX9_end_25 : decode cX9_end 25 = .ok (.ireturn, 1) := by decide +kernel
theorem dX9_ofTariff_0 : decode cX9_ofTariff 0 = .ok (.iload_n 1, 1) := by decide +kernel
theorem dX9_ofTariff_1 : decode cX9_ofTariff 1 = .ok (.iconst 0, 1) := by decide +kernel
theorem dX9_ofTariff_2 : decode cX9_ofTariff 2 = .ok (.iconst 2, 1) := by decide +kernel
theorem dX9_ofTariff_3 : decode cX9_ofTariff 3 = .ok (.invokestatic 51, 3) := by decide +kernel
theorem dX9_ofTariff_6 : decode cX9_ofTariff 6 = .ok (.ifCond .ne 5, 3) := by decide +kernel
theorem dX9_ofTariff_9 : decode cX9_ofTariff 9 = .ok (.iconst (-1), 1) := by decide +kernel
theorem dX9_ofTariff_10 : decode cX9_ofTariff 10 = .ok (.ireturn, 1) := by decide +kernel
theorem dX9_ofTariff_11 : decode cX9_ofTariff 11 = .ok (.iload_n 2, 1) := by decide +kernel
theorem dX9_ofTariff_12 : decode cX9_ofTariff 12 = .ok (.iconst 0, 1) := by decide +kernel
theorem dX9_ofTariff_13 : decode cX9_ofTariff 13 = .ok (.iconst 4, 1) := by decide +kernel
theorem dX9_ofTariff_14 : decode cX9_ofTariff 14 = .ok (.invokestatic 51, 3) := by decide +kernel
theorem dX9_ofTariff_17 : decode cX9_ofTariff 17 = .ok (.ifCond .ne 6, 3) := by decide +kernel
theorem dX9_ofTariff_20 : decode cX9_ofTariff 20 = .ok (.bipush (-2), 2) := by decide +kernel
theorem dX9_ofTariff_22 : decode cX9_ofTariff 22 = .ok (.ireturn, 1) := by decide +kernel
theorem dX9_ofTariff_23 : decode cX9_ofTariff 23 = .ok (.iload_n 2, 1) := by decide +kernel
theorem dX9_ofTariff_24 : decode cX9_ofTariff 24 = .ok (.iconst 4, 1) := by decide +kernel
theorem dX9_ofTariff_25 : decode cX9_ofTariff 25 = .ok (.if_icmp .ne 17, 3) := by decide +kernel
theorem dX9_ofTariff_28 : decode cX9_ofTariff 28 = .ok (.aload_n 0, 1) := by decide +kernel
theorem dX9_ofTariff_29 : decode cX9_ofTariff 29 = .ok (.getfield 12, 3) := by decide +kernel
theorem dX9_ofTariff_32 : decode cX9_ofTariff 32 = .ok (.getfield 59, 3) := by decide +kernel
theorem dX9_ofTariff_35 : decode cX9_ofTariff 35 = .ok (.iload_n 1, 1) := by decide +kernel
theorem dX9_ofTariff_36 : decode cX9_ofTariff 36 = .ok (.invokevirtual 108, 3) := by decide +kernel
theorem dX9_ofTariff_39 : decode cX9_ofTariff 39 = .ok (.goto 15, 3) := by decide +kernel
theorem dX9_ofTariff_42 : decode cX9_ofTariff 42 = .ok (.aload_n 0, 1) := by decide +kernel
theorem dX9_ofTariff_43 : decode cX9_ofTariff 43 = .ok (.getfield 12, 3) := by decide +kernel
theorem dX9_ofTariff_46 : decode cX9_ofTariff 46 = .ok (.getfield 59, 3) := by decide +kernel
theorem dX9_ofTariff_49 : decode cX9_ofTariff 49 = .ok (.iload_n 1, 1) := by decide +kernel
theorem dX9_ofTariff_50 : decode cX9_ofTariff 50 = .ok (.iload_n 2, 1) := by decide +kernel
theorem dX9_ofTariff_51 : decode cX9_ofTariff 51 = .ok (.invokevirtual 65, 3) := by decide +kernel
theorem dX9_ofTariff_54 : decode cX9_ofTariff 54 = .ok (.ireturn, 1) := by decide +kernel
theorem dX9_ride_0 : decode cX9_ride 0 = .ok (.aload_n 0, 1) := by decide +kernel
theorem dX9_ride_1 : decode cX9_ride 1 = .ok (.getfield 12, 3) := by decide +kernel
theorem dX9_ride_4 : decode cX9_ride 4 = .ok (.getfield 111, 3) := by decide +kernel
theorem dX9_ride_7 : decode cX9_ride 7 = .ok (.astore_n 2, 1) := by decide +kernel
theorem dX9_ride_8 : decode cX9_ride 8 = .ok (.iload_n 1, 1) := by decide +kernel
theorem dX9_ride_9 : decode cX9_ride 9 = .ok (.tableswitch 96 0 8 #[51, 56, 61, 66, 71, 76, 81, 86, 91], 51) := by decide +kernel
theorem dX9_ride_60 : decode cX9_ride 60 = .ok (.aload_n 2, 1) := by decide +kernel
theorem dX9_ride_61 : decode cX9_ride 61 = .ok (.getfield 115, 3) := by decide +kernel
theorem dX9_ride_64 : decode cX9_ride 64 = .ok (.ireturn, 1) := by decide +kernel
theorem dX9_ride_65 : decode cX9_ride 65 = .ok (.aload_n 2, 1) := by decide +kernel
theorem dX9_ride_66 : decode cX9_ride 66 = .ok (.getfield 120, 3) := by decide +kernel
theorem dX9_ride_69 : decode cX9_ride 69 = .ok (.ireturn, 1) := by decide +kernel
theorem dX9_ride_70 : decode cX9_ride 70 = .ok (.aload_n 2, 1) := by decide +kernel
theorem dX9_ride_71 : decode cX9_ride 71 = .ok (.getfield 123, 3) := by decide +kernel
theorem dX9_ride_74 : decode cX9_ride 74 = .ok (.ireturn, 1) := by decide +kernel
theorem dX9_ride_75 : decode cX9_ride 75 = .ok (.aload_n 2, 1) := by decide +kernel
theorem dX9_ride_76 : decode cX9_ride 76 = .ok (.getfield 126, 3) := by decide +kernel
theorem dX9_ride_79 : decode cX9_ride 79 = .ok (.ireturn, 1) := by decide +kernel
theorem dX9_ride_80 : decode cX9_ride 80 = .ok (.aload_n 2, 1) := by decide +kernel
theorem dX9_ride_81 : decode cX9_ride 81 = .ok (.getfield 129, 3) := by decide +kernel
theorem dX9_ride_84 : decode cX9_ride 84 = .ok (.ireturn, 1) := by decide +kernel
theorem dX9_ride_85 : decode cX9_ride 85 = .ok (.aload_n 2, 1) := by decide +kernel
theorem dX9_ride_86 : decode cX9_ride 86 = .ok (.getfield 132, 3) := by decide +kernel
theorem dX9_ride_89 : decode cX9_ride 89 = .ok (.ireturn, 1) := by decide +kernel
theorem dX9_ride_90 : decode cX9_ride 90 = .ok (.aload_n 2, 1) := by decide +kernel
theorem dX9_ride_91 : decode cX9_ride 91 = .ok (.getfield 135, 3) := by decide +kernel
theorem dX9_ride_94 : decode cX9_ride 94 = .ok (.ireturn, 1) := by decide +kernel
theorem dX9_ride_95 : decode cX9_ride 95 = .ok (.aload_n 2, 1) := by decide +kernel
theorem dX9_ride_96 : decode cX9_ride 96 = .ok (.getfield 138, 3) := by decide +kernel
theorem dX9_ride_99 : decode cX9_ride 99 = .ok (.ireturn, 1) := by decide +kernel
theorem dX9_ride_100 : decode cX9_ride 100 = .ok (.aload_n 2, 1) := by decide +kernel
theorem dX9_ride_101 : decode cX9_ride 101 = .ok (.getfield 141, 3) := by decide +kernel
theorem dX9_ride_104 : decode cX9_ride 104 = .ok (.ireturn, 1) := by decide +kernel
theorem dX9_ride_105 : decode cX9_ride 105 = .ok (.bipush (-2), 2) := by decide +kernel
theorem dX9_ride_107 : decode cX9_ride 107 = .ok (.ireturn, 1) := by decide +kernel
theorem dX9_log_0 : decode cX9_log 0 = .ok (.iload_n 1, 1) := by decide +kernel
theorem dX9_log_1 : decode cX9_log 1 = .ok (.iconst 0, 1) := by decide +kernel
theorem dX9_log_2 : decode cX9_log 2 = .ok (.aload_n 0, 1) := by decide +kernel
theorem dX9_log_3 : decode cX9_log 3 = .ok (.getfield 12, 3) := by decide +kernel
theorem dX9_log_6 : decode cX9_log 6 = .ok (.getfield 144, 3) := by decide +kernel
theorem dX9_log_9 : decode cX9_log 9 = .ok (.getfield 148, 3) := by decide +kernel
theorem dX9_log_12 : decode cX9_log 12 = .ok (.iconst 1, 1) := by decide +kernel
theorem dX9_log_13 : decode cX9_log 13 = .ok (.isub, 1) := by decide +kernel
theorem dX9_log_14 : decode cX9_log 14 = .ok (.invokestatic 51, 3) := by decide +kernel
theorem dX9_log_17 : decode cX9_log 17 = .ok (.ifCond .ne 5, 3) := by decide +kernel
theorem dX9_log_20 : decode cX9_log 20 = .ok (.iconst (-1), 1) := by decide +kernel
theorem dX9_log_21 : decode cX9_log 21 = .ok (.ireturn, 1) := by decide +kernel
theorem dX9_log_22 : decode cX9_log 22 = .ok (.iload_n 2, 1) := by decide +kernel
theorem dX9_log_23 : decode cX9_log 23 = .ok (.iconst 0, 1) := by decide +kernel
theorem dX9_log_24 : decode cX9_log 24 = .ok (.iconst 4, 1) := by decide +kernel
theorem dX9_log_25 : decode cX9_log 25 = .ok (.invokestatic 51, 3) := by decide +kernel
theorem dX9_log_28 : decode cX9_log 28 = .ok (.ifCond .ne 6, 3) := by decide +kernel
theorem dX9_log_31 : decode cX9_log 31 = .ok (.bipush (-2), 2) := by decide +kernel
theorem dX9_log_33 : decode cX9_log 33 = .ok (.ireturn, 1) := by decide +kernel
theorem dX9_log_34 : decode cX9_log 34 = .ok (.aload_n 0, 1) := by decide +kernel
theorem dX9_log_35 : decode cX9_log 35 = .ok (.getfield 12, 3) := by decide +kernel
theorem dX9_log_38 : decode cX9_log 38 = .ok (.getfield 144, 3) := by decide +kernel
theorem dX9_log_41 : decode cX9_log 41 = .ok (.iload_n 1, 1) := by decide +kernel
theorem dX9_log_42 : decode cX9_log 42 = .ok (.iload_n 2, 1) := by decide +kernel
theorem dX9_log_43 : decode cX9_log 43 = .ok (.invokevirtual 153, 3) := by decide +kernel
theorem dX9_log_46 : decode cX9_log 46 = .ok (.ireturn, 1) := by decide +kernel
theorem dX9_count_0 : decode cX9_count 0 = .ok (.iload_n 1, 1) := by decide +kernel
theorem dX9_count_1 : decode cX9_count 1 = .ok (.tableswitch 136 0 8 #[51, 59, 67, 85, 93, 101, 109, 120, 128], 51) := by decide +kernel
theorem dX9_count_52 : decode cX9_count 52 = .ok (.aload_n 0, 1) := by decide +kernel
theorem dX9_count_53 : decode cX9_count 53 = .ok (.getfield 12, 3) := by decide +kernel
theorem dX9_count_56 : decode cX9_count 56 = .ok (.getfield 154, 3) := by decide +kernel
theorem dX9_count_59 : decode cX9_count 59 = .ok (.ireturn, 1) := by decide +kernel
theorem dX9_count_60 : decode cX9_count 60 = .ok (.aload_n 0, 1) := by decide +kernel
theorem dX9_count_61 : decode cX9_count 61 = .ok (.getfield 12, 3) := by decide +kernel
theorem dX9_count_64 : decode cX9_count 64 = .ok (.getfield 157, 3) := by decide +kernel
theorem dX9_count_67 : decode cX9_count 67 = .ok (.ireturn, 1) := by decide +kernel
theorem dX9_count_68 : decode cX9_count 68 = .ok (.aload_n 0, 1) := by decide +kernel
theorem dX9_count_69 : decode cX9_count 69 = .ok (.getfield 12, 3) := by decide +kernel
theorem dX9_count_72 : decode cX9_count 72 = .ok (.getfield 59, 3) := by decide +kernel
theorem dX9_count_75 : decode cX9_count 75 = .ok (.aload_n 0, 1) := by decide +kernel
theorem dX9_count_76 : decode cX9_count 76 = .ok (.getfield 12, 3) := by decide +kernel
theorem dX9_count_79 : decode cX9_count 79 = .ok (.getfield 154, 3) := by decide +kernel
theorem dX9_count_82 : decode cX9_count 82 = .ok (.invokevirtual 160, 3) := by decide +kernel
theorem dX9_count_85 : decode cX9_count 85 = .ok (.ireturn, 1) := by decide +kernel
theorem dX9_count_86 : decode cX9_count 86 = .ok (.aload_n 0, 1) := by decide +kernel
theorem dX9_count_87 : decode cX9_count 87 = .ok (.getfield 12, 3) := by decide +kernel
theorem dX9_count_90 : decode cX9_count 90 = .ok (.getfield 84, 3) := by decide +kernel
theorem dX9_count_93 : decode cX9_count 93 = .ok (.ireturn, 1) := by decide +kernel
theorem dX9_count_94 : decode cX9_count 94 = .ok (.aload_n 0, 1) := by decide +kernel
theorem dX9_count_95 : decode cX9_count 95 = .ok (.getfield 12, 3) := by decide +kernel
theorem dX9_count_98 : decode cX9_count 98 = .ok (.getfield 163, 3) := by decide +kernel
theorem dX9_count_101 : decode cX9_count 101 = .ok (.ireturn, 1) := by decide +kernel
theorem dX9_count_102 : decode cX9_count 102 = .ok (.aload_n 0, 1) := by decide +kernel
theorem dX9_count_103 : decode cX9_count 103 = .ok (.getfield 12, 3) := by decide +kernel
theorem dX9_count_106 : decode cX9_count 106 = .ok (.getfield 166, 3) := by decide +kernel
theorem dX9_count_109 : decode cX9_count 109 = .ok (.ireturn, 1) := by decide +kernel
theorem dX9_count_110 : decode cX9_count 110 = .ok (.aload_n 0, 1) := by decide +kernel
theorem dX9_count_111 : decode cX9_count 111 = .ok (.getfield 12, 3) := by decide +kernel
theorem dX9_count_114 : decode cX9_count 114 = .ok (.getfield 144, 3) := by decide +kernel
theorem dX9_count_117 : decode cX9_count 117 = .ok (.getfield 148, 3) := by decide +kernel
theorem dX9_count_120 : decode cX9_count 120 = .ok (.ireturn, 1) := by decide +kernel
theorem dX9_count_121 : decode cX9_count 121 = .ok (.aload_n 0, 1) := by decide +kernel
theorem dX9_count_122 : decode cX9_count 122 = .ok (.getfield 33, 3) := by decide +kernel
theorem dX9_count_125 : decode cX9_count 125 = .ok (.getfield 169, 3) := by decide +kernel
theorem dX9_count_128 : decode cX9_count 128 = .ok (.ireturn, 1) := by decide +kernel
theorem dX9_count_129 : decode cX9_count 129 = .ok (.aload_n 0, 1) := by decide +kernel
theorem dX9_count_130 : decode cX9_count 130 = .ok (.getfield 19, 3) := by decide +kernel
theorem dX9_count_133 : decode cX9_count 133 = .ok (.getfield 172, 3) := by decide +kernel
theorem dX9_count_136 : decode cX9_count 136 = .ok (.ireturn, 1) := by decide +kernel
theorem dX9_count_137 : decode cX9_count 137 = .ok (.bipush (-2), 2) := by decide +kernel
theorem dX9_count_139 : decode cX9_count 139 = .ok (.ireturn, 1) := by decide +kernel
theorem dX9_would_0 : decode cX9_would 0 = .ok (.iload_n 1, 1) := by decide +kernel
theorem dX9_would_1 : decode cX9_would 1 = .ok (.iload_n 2, 1) := by decide +kernel
theorem dX9_would_2 : decode cX9_would 2 = .ok (.invokestatic 173, 3) := by decide +kernel
theorem dX9_would_5 : decode cX9_would 5 = .ok (.ifCond .ne 6, 3) := by decide +kernel
theorem dX9_would_8 : decode cX9_would 8 = .ok (.bipush (-2), 2) := by decide +kernel
theorem dX9_would_10 : decode cX9_would 10 = .ok (.ireturn, 1) := by decide +kernel
theorem dX9_would_11 : decode cX9_would 11 = .ok (.aload_n 0, 1) := by decide +kernel
theorem dX9_would_12 : decode cX9_would 12 = .ok (.getfield 12, 3) := by decide +kernel
theorem dX9_would_15 : decode cX9_would 15 = .ok (.getfield 157, 3) := by decide +kernel
theorem dX9_would_18 : decode cX9_would 18 = .ok (.iconst 1, 1) := by decide +kernel
theorem dX9_would_19 : decode cX9_would 19 = .ok (.if_icmp .eq 6, 3) := by decide +kernel
theorem dX9_would_22 : decode cX9_would 22 = .ok (.bipush (-5), 2) := by decide +kernel
theorem dX9_would_24 : decode cX9_would 24 = .ok (.ireturn, 1) := by decide +kernel
theorem dX9_would_25 : decode cX9_would 25 = .ok (.aload_n 0, 1) := by decide +kernel
theorem dX9_would_26 : decode cX9_would 26 = .ok (.getfield 47, 3) := by decide +kernel
theorem dX9_would_29 : decode cX9_would 29 = .ok (.aload_n 0, 1) := by decide +kernel
theorem dX9_would_30 : decode cX9_would 30 = .ok (.getfield 12, 3) := by decide +kernel
theorem dX9_would_33 : decode cX9_would 33 = .ok (.getfield 111, 3) := by decide +kernel
theorem dX9_would_36 : decode cX9_would 36 = .ok (.invokevirtual 177, 3) := by decide +kernel
theorem dX9_would_39 : decode cX9_would 39 = .ok (.aload_n 0, 1) := by decide +kernel
theorem dX9_would_40 : decode cX9_would 40 = .ok (.getfield 47, 3) := by decide +kernel
theorem dX9_would_43 : decode cX9_would 43 = .ok (.aload_n 0, 1) := by decide +kernel
theorem dX9_would_44 : decode cX9_would 44 = .ok (.getfield 12, 3) := by decide +kernel
theorem dX9_would_47 : decode cX9_would 47 = .ok (.getfield 59, 3) := by decide +kernel
theorem dX9_would_50 : decode cX9_would 50 = .ok (.aload_n 0, 1) := by decide +kernel
theorem dX9_would_51 : decode cX9_would 51 = .ok (.getfield 12, 3) := by decide +kernel
theorem dX9_would_54 : decode cX9_would 54 = .ok (.getfield 154, 3) := by decide +kernel
theorem dX9_would_57 : decode cX9_would 57 = .ok (.iload_n 1, 1) := by decide +kernel
theorem dX9_would_58 : decode cX9_would 58 = .ok (.iload_n 2, 1) := by decide +kernel
theorem dX9_would_59 : decode cX9_would 59 = .ok (.invokevirtual 181, 3) := by decide +kernel
theorem dX9_would_62 : decode cX9_would 62 = .ok (.aload_n 0, 1) := by decide +kernel
theorem dX9_would_63 : decode cX9_would 63 = .ok (.getfield 47, 3) := by decide +kernel
theorem dX9_would_66 : decode cX9_would 66 = .ok (.getfield 185, 3) := by decide +kernel
theorem dX9_would_69 : decode cX9_would 69 = .ok (.aload_n 0, 1) := by decide +kernel
theorem dX9_would_70 : decode cX9_would 70 = .ok (.getfield 12, 3) := by decide +kernel
theorem dX9_would_73 : decode cX9_would 73 = .ok (.getfield 111, 3) := by decide +kernel
theorem dX9_would_76 : decode cX9_would 76 = .ok (.getfield 115, 3) := by decide +kernel
theorem dX9_would_79 : decode cX9_would 79 = .ok (.isub, 1) := by decide +kernel
theorem dX9_would_80 : decode cX9_would 80 = .ok (.ireturn, 1) := by decide +kernel
theorem dX9_price_0 : decode cX9_price 0 = .ok (.iload_n 1, 1) := by decide +kernel
theorem dX9_price_1 : decode cX9_price 1 = .ok (.iload_n 2, 1) := by decide +kernel
theorem dX9_price_2 : decode cX9_price 2 = .ok (.invokestatic 173, 3) := by decide +kernel
theorem dX9_price_5 : decode cX9_price 5 = .ok (.ifCond .eq 19, 3) := by decide +kernel
theorem dX9_price_8 : decode cX9_price 8 = .ok (.aload_n 0, 1) := by decide +kernel
theorem dX9_price_9 : decode cX9_price 9 = .ok (.aload_n 0, 1) := by decide +kernel
theorem dX9_price_10 : decode cX9_price 10 = .ok (.getfield 12, 3) := by decide +kernel
theorem dX9_price_13 : decode cX9_price 13 = .ok (.getfield 154, 3) := by decide +kernel
theorem dX9_price_16 : decode cX9_price 16 = .ok (.iload_n 1, 1) := by decide +kernel
theorem dX9_price_17 : decode cX9_price 17 = .ok (.iload_n 2, 1) := by decide +kernel
theorem dX9_price_18 : decode cX9_price 18 = .ok (.invokevirtual 186, 3) := by decide +kernel
theorem dX9_price_21 : decode cX9_price 21 = .ok (.goto 5, 3) := by decide +kernel
theorem dX9_price_24 : decode cX9_price 24 = .ok (.bipush (-2), 2) := by decide +kernel
theorem dX9_price_26 : decode cX9_price 26 = .ok (.ireturn, 1) := by decide +kernel
theorem dX9_farthest_0 : decode cX9_farthest 0 = .ok (.iload_n 1, 1) := by decide +kernel
theorem dX9_farthest_1 : decode cX9_farthest 1 = .ok (.iconst 1, 1) := by decide +kernel
theorem dX9_farthest_2 : decode cX9_farthest 2 = .ok (.sipush 999, 3) := by decide +kernel
theorem dX9_farthest_5 : decode cX9_farthest 5 = .ok (.invokestatic 51, 3) := by decide +kernel
theorem dX9_farthest_8 : decode cX9_farthest 8 = .ok (.ifCond .eq 7, 3) := by decide +kernel
theorem dX9_farthest_11 : decode cX9_farthest 11 = .ok (.iload_n 2, 1) := by decide +kernel
theorem dX9_farthest_12 : decode cX9_farthest 12 = .ok (.ifCond .ge 6, 3) := by decide +kernel
theorem dX9_farthest_15 : decode cX9_farthest 15 = .ok (.bipush (-2), 2) := by decide +kernel
theorem dX9_farthest_17 : decode cX9_farthest 17 = .ok (.ireturn, 1) := by decide +kernel
theorem dX9_farthest_18 : decode cX9_farthest 18 = .ok (.aload_n 0, 1) := by decide +kernel
theorem dX9_farthest_19 : decode cX9_farthest 19 = .ok (.aload_n 0, 1) := by decide +kernel
theorem dX9_farthest_20 : decode cX9_farthest 20 = .ok (.getfield 12, 3) := by decide +kernel
theorem dX9_farthest_23 : decode cX9_farthest 23 = .ok (.getfield 154, 3) := by decide +kernel
theorem dX9_farthest_26 : decode cX9_farthest 26 = .ok (.iconst 0, 1) := by decide +kernel
theorem dX9_farthest_27 : decode cX9_farthest 27 = .ok (.iload_n 1, 1) := by decide +kernel
theorem dX9_farthest_28 : decode cX9_farthest 28 = .ok (.invokevirtual 186, 3) := by decide +kernel
theorem dX9_farthest_31 : decode cX9_farthest 31 = .ok (.iload_n 2, 1) := by decide +kernel
theorem dX9_farthest_32 : decode cX9_farthest 32 = .ok (.if_icmp .le 6, 3) := by decide +kernel
theorem dX9_farthest_35 : decode cX9_farthest 35 = .ok (.bipush (-6), 2) := by decide +kernel
theorem dX9_farthest_37 : decode cX9_farthest 37 = .ok (.ireturn, 1) := by decide +kernel
theorem dX9_farthest_38 : decode cX9_farthest 38 = .ok (.sipush 999, 3) := by decide +kernel
theorem dX9_farthest_41 : decode cX9_farthest 41 = .ok (.istore_n 3, 1) := by decide +kernel
theorem dX9_farthest_42 : decode cX9_farthest 42 = .ok (.iload_n 3, 1) := by decide +kernel
theorem dX9_farthest_43 : decode cX9_farthest 43 = .ok (.ifCond .le 26, 3) := by decide +kernel
theorem dX9_farthest_46 : decode cX9_farthest 46 = .ok (.aload_n 0, 1) := by decide +kernel
theorem dX9_farthest_47 : decode cX9_farthest 47 = .ok (.aload_n 0, 1) := by decide +kernel
theorem dX9_farthest_48 : decode cX9_farthest 48 = .ok (.getfield 12, 3) := by decide +kernel
theorem dX9_farthest_51 : decode cX9_farthest 51 = .ok (.getfield 154, 3) := by decide +kernel
theorem dX9_farthest_54 : decode cX9_farthest 54 = .ok (.iload_n 3, 1) := by decide +kernel
theorem dX9_farthest_55 : decode cX9_farthest 55 = .ok (.iload_n 1, 1) := by decide +kernel
theorem dX9_farthest_56 : decode cX9_farthest 56 = .ok (.invokevirtual 186, 3) := by decide +kernel
theorem dX9_farthest_59 : decode cX9_farthest 59 = .ok (.iload_n 2, 1) := by decide +kernel
theorem dX9_farthest_60 : decode cX9_farthest 60 = .ok (.if_icmp .le 9, 3) := by decide +kernel
theorem dX9_farthest_63 : decode cX9_farthest 63 = .ok (.iinc 3 (-1), 3) := by decide +kernel
theorem dX9_farthest_66 : decode cX9_farthest 66 = .ok (.goto (-24), 3) := by decide +kernel
theorem dX9_farthest_69 : decode cX9_farthest 69 = .ok (.iload_n 3, 1) := by decide +kernel
theorem dX9_farthest_70 : decode cX9_farthest 70 = .ok (.ireturn, 1) := by decide +kernel
theorem dX9_cheapest_0 : decode cX9_cheapest 0 = .ok (.iload_n 1, 1) := by decide +kernel
theorem dX9_cheapest_1 : decode cX9_cheapest 1 = .ok (.iload_n 2, 1) := by decide +kernel
theorem dX9_cheapest_2 : decode cX9_cheapest 2 = .ok (.invokestatic 173, 3) := by decide +kernel
theorem dX9_cheapest_5 : decode cX9_cheapest 5 = .ok (.ifCond .eq 12, 3) := by decide +kernel
theorem dX9_cheapest_8 : decode cX9_cheapest 8 = .ok (.iload_n 3, 1) := by decide +kernel
theorem dX9_cheapest_9 : decode cX9_cheapest 9 = .ok (.iconst 0, 1) := by decide +kernel
theorem dX9_cheapest_10 : decode cX9_cheapest 10 = .ok (.iconst 1, 1) := by decide +kernel
theorem dX9_cheapest_11 : decode cX9_cheapest 11 = .ok (.invokestatic 51, 3) := by decide +kernel
theorem dX9_cheapest_14 : decode cX9_cheapest 14 = .ok (.ifCond .ne 6, 3) := by decide +kernel
theorem dX9_cheapest_17 : decode cX9_cheapest 17 = .ok (.bipush (-2), 2) := by decide +kernel
theorem dX9_cheapest_19 : decode cX9_cheapest 19 = .ok (.ireturn, 1) := by decide +kernel
theorem dX9_cheapest_20 : decode cX9_cheapest 20 = .ok (.iconst 0, 1) := by decide +kernel
theorem dX9_cheapest_21 : decode cX9_cheapest 21 = .ok (.istore 4, 2) := by decide +kernel
theorem dX9_cheapest_23 : decode cX9_cheapest 23 = .ok (.aload_n 0, 1) := by decide +kernel
theorem dX9_cheapest_24 : decode cX9_cheapest 24 = .ok (.iconst 0, 1) := by decide +kernel
theorem dX9_cheapest_25 : decode cX9_cheapest 25 = .ok (.iload_n 1, 1) := by decide +kernel
theorem dX9_cheapest_26 : decode cX9_cheapest 26 = .ok (.iload_n 2, 1) := by decide +kernel
theorem dX9_cheapest_27 : decode cX9_cheapest 27 = .ok (.invokevirtual 186, 3) := by decide +kernel
theorem dX9_cheapest_30 : decode cX9_cheapest 30 = .ok (.istore 5, 2) := by decide +kernel
theorem dX9_cheapest_32 : decode cX9_cheapest 32 = .ok (.iconst 1, 1) := by decide +kernel
theorem dX9_cheapest_33 : decode cX9_cheapest 33 = .ok (.istore 6, 2) := by decide +kernel
theorem dX9_cheapest_35 : decode cX9_cheapest 35 = .ok (.iload 6, 2) := by decide +kernel
theorem dX9_cheapest_37 : decode cX9_cheapest 37 = .ok (.bipush 24, 2) := by decide +kernel
theorem dX9_cheapest_39 : decode cX9_cheapest 39 = .ok (.if_icmp .ge 38, 3) := by decide +kernel
theorem dX9_cheapest_42 : decode cX9_cheapest 42 = .ok (.aload_n 0, 1) := by decide +kernel
theorem dX9_cheapest_43 : decode cX9_cheapest 43 = .ok (.iload 6, 2) := by decide +kernel
theorem dX9_cheapest_45 : decode cX9_cheapest 45 = .ok (.sipush 3600, 3) := by decide +kernel
theorem dX9_cheapest_48 : decode cX9_cheapest 48 = .ok (.imul, 1) := by decide +kernel
theorem dX9_cheapest_49 : decode cX9_cheapest 49 = .ok (.iload_n 1, 1) := by decide +kernel
theorem dX9_cheapest_50 : decode cX9_cheapest 50 = .ok (.iload_n 2, 1) := by decide +kernel
theorem dX9_cheapest_51 : decode cX9_cheapest 51 = .ok (.invokevirtual 186, 3) := by decide +kernel
theorem dX9_cheapest_54 : decode cX9_cheapest 54 = .ok (.istore 7, 2) := by decide +kernel
theorem dX9_cheapest_56 : decode cX9_cheapest 56 = .ok (.iload 7, 2) := by decide +kernel
theorem dX9_cheapest_58 : decode cX9_cheapest 58 = .ok (.iload 5, 2) := by decide +kernel
theorem dX9_cheapest_60 : decode cX9_cheapest 60 = .ok (.if_icmp .ge 11, 3) := by decide +kernel
theorem dX9_cheapest_63 : decode cX9_cheapest 63 = .ok (.iload 6, 2) := by decide +kernel
theorem dX9_cheapest_65 : decode cX9_cheapest 65 = .ok (.istore 4, 2) := by decide +kernel
theorem dX9_cheapest_67 : decode cX9_cheapest 67 = .ok (.iload 7, 2) := by decide +kernel
theorem dX9_cheapest_69 : decode cX9_cheapest 69 = .ok (.istore 5, 2) := by decide +kernel
theorem dX9_cheapest_71 : decode cX9_cheapest 71 = .ok (.iinc 6 1, 3) := by decide +kernel
theorem dX9_cheapest_74 : decode cX9_cheapest 74 = .ok (.goto (-39), 3) := by decide +kernel
theorem dX9_cheapest_77 : decode cX9_cheapest 77 = .ok (.iload_n 3, 1) := by decide +kernel
theorem dX9_cheapest_78 : decode cX9_cheapest 78 = .ok (.ifCond .ne 8, 3) := by decide +kernel
theorem dX9_cheapest_81 : decode cX9_cheapest 81 = .ok (.iload 4, 2) := by decide +kernel
theorem dX9_cheapest_83 : decode cX9_cheapest 83 = .ok (.goto 5, 3) := by decide +kernel
theorem dX9_cheapest_86 : decode cX9_cheapest 86 = .ok (.iload 5, 2) := by decide +kernel
theorem dX9_cheapest_88 : decode cX9_cheapest 88 = .ok (.ireturn, 1) := by decide +kernel
theorem dX9_put_0 : decode cX9_put 0 = .ok (.lload_n 1, 1) := by decide +kernel
theorem dX9_put_1 : decode cX9_put 1 = .ok (.invokestatic 190, 3) := by decide +kernel
theorem dX9_put_4 : decode cX9_put 4 = .ok (.istore_n 3, 1) := by decide +kernel
theorem dX9_put_5 : decode cX9_put 5 = .ok (.iload_n 3, 1) := by decide +kernel
theorem dX9_put_6 : decode cX9_put 6 = .ok (.ifCond .ne 6, 3) := by decide +kernel
theorem dX9_put_9 : decode cX9_put 9 = .ok (.bipush (-2), 2) := by decide +kernel
theorem dX9_put_11 : decode cX9_put 11 = .ok (.ireturn, 1) := by decide +kernel
theorem dX9_put_12 : decode cX9_put 12 = .ok (.iload_n 3, 1) := by decide +kernel
theorem dX9_put_13 : decode cX9_put 13 = .ok (.bipush 80, 2) := by decide +kernel
theorem dX9_put_15 : decode cX9_put 15 = .ok (.aload_n 0, 1) := by decide +kernel
theorem dX9_put_16 : decode cX9_put 16 = .ok (.getfield 33, 3) := by decide +kernel
theorem dX9_put_19 : decode cX9_put 19 = .ok (.getfield 169, 3) := by decide +kernel
theorem dX9_put_22 : decode cX9_put 22 = .ok (.isub, 1) := by decide +kernel
theorem dX9_put_23 : decode cX9_put 23 = .ok (.if_icmp .le 6, 3) := by decide +kernel
theorem dX9_put_26 : decode cX9_put 26 = .ok (.bipush (-4), 2) := by decide +kernel
theorem dX9_put_28 : decode cX9_put 28 = .ok (.ireturn, 1) := by decide +kernel
theorem dX9_put_29 : decode cX9_put 29 = .ok (.aload_n 0, 1) := by decide +kernel
theorem dX9_put_30 : decode cX9_put 30 = .ok (.getfield 33, 3) := by decide +kernel
theorem dX9_put_33 : decode cX9_put 33 = .ok (.lload_n 1, 1) := by decide +kernel
theorem dX9_put_34 : decode cX9_put 34 = .ok (.iload_n 3, 1) := by decide +kernel
theorem dX9_put_35 : decode cX9_put 35 = .ok (.invokevirtual 194, 3) := by decide +kernel
theorem dX9_put_38 : decode cX9_put 38 = .ok (.aload_n 0, 1) := by decide +kernel
theorem dX9_put_39 : decode cX9_put 39 = .ok (.getfield 33, 3) := by decide +kernel
theorem dX9_put_42 : decode cX9_put 42 = .ok (.getfield 169, 3) := by decide +kernel
theorem dX9_put_45 : decode cX9_put 45 = .ok (.ireturn, 1) := by decide +kernel
theorem dX9_wipe_0 : decode cX9_wipe 0 = .ok (.aload_n 0, 1) := by decide +kernel
theorem dX9_wipe_1 : decode cX9_wipe 1 = .ok (.getfield 33, 3) := by decide +kernel
theorem dX9_wipe_4 : decode cX9_wipe 4 = .ok (.getfield 169, 3) := by decide +kernel
theorem dX9_wipe_7 : decode cX9_wipe 7 = .ok (.istore_n 1, 1) := by decide +kernel
theorem dX9_wipe_8 : decode cX9_wipe 8 = .ok (.aload_n 0, 1) := by decide +kernel
theorem dX9_wipe_9 : decode cX9_wipe 9 = .ok (.getfield 33, 3) := by decide +kernel
theorem dX9_wipe_12 : decode cX9_wipe 12 = .ok (.iconst 0, 1) := by decide +kernel
theorem dX9_wipe_13 : decode cX9_wipe 13 = .ok (.putfield 169, 3) := by decide +kernel
theorem dX9_wipe_16 : decode cX9_wipe 16 = .ok (.iload_n 1, 1) := by decide +kernel
theorem dX9_wipe_17 : decode cX9_wipe 17 = .ok (.ireturn, 1) := by decide +kernel
theorem dX9_fault_0 : decode cX9_fault 0 = .ok (.aload_n 0, 1) := by decide +kernel
theorem dX9_fault_1 : decode cX9_fault 1 = .ok (.getfield 40, 3) := by decide +kernel
theorem dX9_fault_4 : decode cX9_fault 4 = .ok (.aload_n 0, 1) := by decide +kernel
theorem dX9_fault_5 : decode cX9_fault 5 = .ok (.getfield 33, 3) := by decide +kernel
theorem dX9_fault_8 : decode cX9_fault 8 = .ok (.invokevirtual 198, 3) := by decide +kernel
theorem dX9_fault_11 : decode cX9_fault 11 = .ok (.ireturn, 1) := by decide +kernel
theorem dX9_carryOut_0 : decode cX9_carryOut 0 = .ok (.aload_n 0, 1) := by decide +kernel
theorem dX9_carryOut_1 : decode cX9_carryOut 1 = .ok (.getfield 40, 3) := by decide +kernel
theorem dX9_carryOut_4 : decode cX9_carryOut 4 = .ok (.aload_n 0, 1) := by decide +kernel
theorem dX9_carryOut_5 : decode cX9_carryOut 5 = .ok (.getfield 33, 3) := by decide +kernel
theorem dX9_carryOut_8 : decode cX9_carryOut 8 = .ok (.invokevirtual 198, 3) := by decide +kernel
theorem dX9_carryOut_11 : decode cX9_carryOut 11 = .ok (.bipush (-6), 2) := by decide +kernel
theorem dX9_carryOut_13 : decode cX9_carryOut 13 = .ok (.if_icmp .eq 6, 3) := by decide +kernel
theorem dX9_carryOut_16 : decode cX9_carryOut 16 = .ok (.bipush (-3), 2) := by decide +kernel
theorem dX9_carryOut_18 : decode cX9_carryOut 18 = .ok (.ireturn, 1) := by decide +kernel
theorem dX9_carryOut_19 : decode cX9_carryOut 19 = .ok (.aload_n 0, 1) := by decide +kernel
theorem dX9_carryOut_20 : decode cX9_carryOut 20 = .ok (.getfield 19, 3) := by decide +kernel
theorem dX9_carryOut_23 : decode cX9_carryOut 23 = .ok (.aload_n 0, 1) := by decide +kernel
theorem dX9_carryOut_24 : decode cX9_carryOut 24 = .ok (.getfield 12, 3) := by decide +kernel
theorem dX9_carryOut_27 : decode cX9_carryOut 27 = .ok (.invokevirtual 55, 3) := by decide +kernel
theorem dX9_carryOut_30 : decode cX9_carryOut 30 = .ok (.iconst 0, 1) := by decide +kernel
theorem dX9_carryOut_31 : decode cX9_carryOut 31 = .ok (.istore_n 1, 1) := by decide +kernel
theorem dX9_carryOut_32 : decode cX9_carryOut 32 = .ok (.iconst 0, 1) := by decide +kernel
theorem dX9_carryOut_33 : decode cX9_carryOut 33 = .ok (.istore_n 2, 1) := by decide +kernel
theorem dX9_carryOut_34 : decode cX9_carryOut 34 = .ok (.aload_n 0, 1) := by decide +kernel
theorem dX9_carryOut_35 : decode cX9_carryOut 35 = .ok (.getfield 40, 3) := by decide +kernel
theorem dX9_carryOut_38 : decode cX9_carryOut 38 = .ok (.invokevirtual 202, 3) := by decide +kernel
theorem dX9_carryOut_41 : decode cX9_carryOut 41 = .ok (.iconst 0, 1) := by decide +kernel
theorem dX9_carryOut_42 : decode cX9_carryOut 42 = .ok (.istore_n 3, 1) := by decide +kernel
theorem dX9_carryOut_43 : decode cX9_carryOut 43 = .ok (.iload_n 3, 1) := by decide +kernel
theorem dX9_carryOut_44 : decode cX9_carryOut 44 = .ok (.aload_n 0, 1) := by decide +kernel
theorem dX9_carryOut_45 : decode cX9_carryOut 45 = .ok (.getfield 33, 3) := by decide +kernel
theorem dX9_carryOut_48 : decode cX9_carryOut 48 = .ok (.getfield 169, 3) := by decide +kernel
theorem dX9_carryOut_51 : decode cX9_carryOut 51 = .ok (.if_icmp .gt 81, 3) := by decide +kernel
theorem dX9_carryOut_54 : decode cX9_carryOut 54 = .ok (.iload_n 2, 1) := by decide +kernel
theorem dX9_carryOut_55 : decode cX9_carryOut 55 = .ok (.ifCond .ne 77, 3) := by decide +kernel
theorem dX9_carryOut_58 : decode cX9_carryOut 58 = .ok (.iload_n 3, 1) := by decide +kernel
theorem dX9_carryOut_59 : decode cX9_carryOut 59 = .ok (.aload_n 0, 1) := by decide +kernel
theorem dX9_carryOut_60 : decode cX9_carryOut 60 = .ok (.getfield 33, 3) := by decide +kernel
theorem dX9_carryOut_63 : decode cX9_carryOut 63 = .ok (.getfield 169, 3) := by decide +kernel
theorem dX9_carryOut_66 : decode cX9_carryOut 66 = .ok (.if_icmp .ge 14, 3) := by decide +kernel
theorem dX9_carryOut_69 : decode cX9_carryOut 69 = .ok (.aload_n 0, 1) := by decide +kernel
theorem dX9_carryOut_70 : decode cX9_carryOut 70 = .ok (.getfield 33, 3) := by decide +kernel
theorem dX9_carryOut_73 : decode cX9_carryOut 73 = .ok (.iload_n 3, 1) := by decide +kernel
theorem dX9_carryOut_74 : decode cX9_carryOut 74 = .ok (.invokevirtual 205, 3) := by decide +kernel
theorem dX9_carryOut_77 : decode cX9_carryOut 77 = .ok (.goto 5, 3) := by decide +kernel
theorem dX9_carryOut_80 : decode cX9_carryOut 80 = .ok (.bipush 59, 2) := by decide +kernel
theorem dX9_carryOut_82 : decode cX9_carryOut 82 = .ok (.istore 4, 2) := by decide +kernel
theorem dX9_carryOut_84 : decode cX9_carryOut 84 = .ok (.iload 4, 2) := by decide +kernel
theorem dX9_carryOut_86 : decode cX9_carryOut 86 = .ok (.bipush 59, 2) := by decide +kernel
theorem dX9_carryOut_88 : decode cX9_carryOut 88 = .ok (.if_icmp .ne 28, 3) := by decide +kernel
theorem dX9_carryOut_91 : decode cX9_carryOut 91 = .ok (.aload_n 0, 1) := by decide +kernel
theorem dX9_carryOut_92 : decode cX9_carryOut 92 = .ok (.invokevirtual 209, 3) := by decide +kernel
theorem dX9_carryOut_95 : decode cX9_carryOut 95 = .ok (.ifCond .ge 7, 3) := by decide +kernel
theorem dX9_carryOut_98 : decode cX9_carryOut 98 = .ok (.iconst 1, 1) := by decide +kernel
theorem dX9_carryOut_99 : decode cX9_carryOut 99 = .ok (.goto 4, 3) := by decide +kernel
theorem dX9_carryOut_102 : decode cX9_carryOut 102 = .ok (.iconst 0, 1) := by decide +kernel
theorem dX9_carryOut_103 : decode cX9_carryOut 103 = .ok (.istore_n 2, 1) := by decide +kernel
theorem dX9_carryOut_104 : decode cX9_carryOut 104 = .ok (.iload_n 1, 1) := by decide +kernel
theorem dX9_carryOut_105 : decode cX9_carryOut 105 = .ok (.iload_n 2, 1) := by decide +kernel
theorem dX9_carryOut_106 : decode cX9_carryOut 106 = .ok (.ifCond .eq 7, 3) := by decide +kernel
theorem dX9_carryOut_109 : decode cX9_carryOut 109 = .ok (.iconst 0, 1) := by decide +kernel
theorem dX9_carryOut_110 : decode cX9_carryOut 110 = .ok (.goto 4, 3) := by decide +kernel
theorem dX9_carryOut_113 : decode cX9_carryOut 113 = .ok (.iconst 1, 1) := by decide +kernel
theorem dX9_carryOut_114 : decode cX9_carryOut 114 = .ok (.iadd, 1) := by decide +kernel
theorem dX9_carryOut_115 : decode cX9_carryOut 115 = .ok (.istore_n 1, 1) := by decide +kernel
theorem dX9_carryOut_116 : decode cX9_carryOut 116 = .ok (.aload_n 0, 1) := by decide +kernel
theorem dX9_carryOut_117 : decode cX9_carryOut 117 = .ok (.getfield 40, 3) := by decide +kernel
theorem dX9_carryOut_120 : decode cX9_carryOut 120 = .ok (.iload 4, 2) := by decide +kernel
theorem dX9_carryOut_122 : decode cX9_carryOut 122 = .ok (.invokevirtual 212, 3) := by decide +kernel
theorem dX9_carryOut_125 : decode cX9_carryOut 125 = .ok (.pop, 1) := by decide +kernel
theorem dX9_carryOut_126 : decode cX9_carryOut 126 = .ok (.iinc 3 1, 3) := by decide +kernel
theorem dX9_carryOut_129 : decode cX9_carryOut 129 = .ok (.goto (-86), 3) := by decide +kernel
theorem dX9_carryOut_132 : decode cX9_carryOut 132 = .ok (.aload_n 0, 1) := by decide +kernel
theorem dX9_carryOut_133 : decode cX9_carryOut 133 = .ok (.getfield 33, 3) := by decide +kernel
theorem dX9_carryOut_136 : decode cX9_carryOut 136 = .ok (.iconst 0, 1) := by decide +kernel
theorem dX9_carryOut_137 : decode cX9_carryOut 137 = .ok (.putfield 169, 3) := by decide +kernel
theorem dX9_carryOut_140 : decode cX9_carryOut 140 = .ok (.aload_n 0, 1) := by decide +kernel
theorem dX9_carryOut_141 : decode cX9_carryOut 141 = .ok (.getfield 19, 3) := by decide +kernel
theorem dX9_carryOut_144 : decode cX9_carryOut 144 = .ok (.iload_n 1, 1) := by decide +kernel
theorem dX9_carryOut_145 : decode cX9_carryOut 145 = .ok (.invokevirtual 73, 3) := by decide +kernel
theorem dX9_carryOut_148 : decode cX9_carryOut 148 = .ok (.ireturn, 1) := by decide +kernel
theorem dX9_undo_0 : decode cX9_undo 0 = .ok (.aload_n 0, 1) := by decide +kernel
theorem dX9_undo_1 : decode cX9_undo 1 = .ok (.getfield 19, 3) := by decide +kernel
theorem dX9_undo_4 : decode cX9_undo 4 = .ok (.getfield 172, 3) := by decide +kernel
theorem dX9_undo_7 : decode cX9_undo 7 = .ok (.ifCond .ne 6, 3) := by decide +kernel
theorem dX9_undo_10 : decode cX9_undo 10 = .ok (.bipush (-5), 2) := by decide +kernel
theorem dX9_undo_12 : decode cX9_undo 12 = .ok (.ireturn, 1) := by decide +kernel
theorem dX9_undo_13 : decode cX9_undo 13 = .ok (.aload_n 0, 1) := by decide +kernel
theorem dX9_undo_14 : decode cX9_undo 14 = .ok (.getfield 19, 3) := by decide +kernel
theorem dX9_undo_17 : decode cX9_undo 17 = .ok (.aload_n 0, 1) := by decide +kernel
theorem dX9_undo_18 : decode cX9_undo 18 = .ok (.getfield 12, 3) := by decide +kernel
theorem dX9_undo_21 : decode cX9_undo 21 = .ok (.invokevirtual 216, 3) := by decide +kernel
theorem dX9_undo_24 : decode cX9_undo 24 = .ok (.aload_n 0, 1) := by decide +kernel
theorem dX9_undo_25 : decode cX9_undo 25 = .ok (.getfield 19, 3) := by decide +kernel
theorem dX9_undo_28 : decode cX9_undo 28 = .ok (.getfield 172, 3) := by decide +kernel
theorem dX9_undo_31 : decode cX9_undo 31 = .ok (.ireturn, 1) := by decide +kernel
theorem dX9_save_0 : decode cX9_save 0 = .ok (.iload_n 1, 1) := by decide +kernel
theorem dX9_save_1 : decode cX9_save 1 = .ok (.iconst 0, 1) := by decide +kernel
theorem dX9_save_2 : decode cX9_save 2 = .ok (.iconst 1, 1) := by decide +kernel
theorem dX9_save_3 : decode cX9_save 3 = .ok (.invokestatic 51, 3) := by decide +kernel
theorem dX9_save_6 : decode cX9_save 6 = .ok (.ifCond .ne 6, 3) := by decide +kernel
theorem dX9_save_9 : decode cX9_save 9 = .ok (.bipush (-2), 2) := by decide +kernel
theorem dX9_save_11 : decode cX9_save 11 = .ok (.ireturn, 1) := by decide +kernel
theorem dX9_save_12 : decode cX9_save 12 = .ok (.aload_n 0, 1) := by decide +kernel
theorem dX9_save_13 : decode cX9_save 13 = .ok (.getfield 26, 3) := by decide +kernel
theorem dX9_save_16 : decode cX9_save 16 = .ok (.iload_n 1, 1) := by decide +kernel
theorem dX9_save_17 : decode cX9_save 17 = .ok (.aload_n 0, 1) := by decide +kernel
theorem dX9_save_18 : decode cX9_save 18 = .ok (.getfield 12, 3) := by decide +kernel
theorem dX9_save_21 : decode cX9_save 21 = .ok (.invokevirtual 219, 3) := by decide +kernel
theorem dX9_save_24 : decode cX9_save 24 = .ok (.aload_n 0, 1) := by decide +kernel
theorem dX9_save_25 : decode cX9_save 25 = .ok (.getfield 12, 3) := by decide +kernel
theorem dX9_save_28 : decode cX9_save 28 = .ok (.getfield 163, 3) := by decide +kernel
theorem dX9_save_31 : decode cX9_save 31 = .ok (.ireturn, 1) := by decide +kernel
theorem dX9_restore_0 : decode cX9_restore 0 = .ok (.iload_n 1, 1) := by decide +kernel
theorem dX9_restore_1 : decode cX9_restore 1 = .ok (.iconst 0, 1) := by decide +kernel
theorem dX9_restore_2 : decode cX9_restore 2 = .ok (.iconst 1, 1) := by decide +kernel
theorem dX9_restore_3 : decode cX9_restore 3 = .ok (.invokestatic 51, 3) := by decide +kernel
theorem dX9_restore_6 : decode cX9_restore 6 = .ok (.ifCond .ne 6, 3) := by decide +kernel
theorem dX9_restore_9 : decode cX9_restore 9 = .ok (.bipush (-2), 2) := by decide +kernel
theorem dX9_restore_11 : decode cX9_restore 11 = .ok (.ireturn, 1) := by decide +kernel
theorem dX9_restore_12 : decode cX9_restore 12 = .ok (.aload_n 0, 1) := by decide +kernel
theorem dX9_restore_13 : decode cX9_restore 13 = .ok (.getfield 19, 3) := by decide +kernel
theorem dX9_restore_16 : decode cX9_restore 16 = .ok (.aload_n 0, 1) := by decide +kernel
theorem dX9_restore_17 : decode cX9_restore 17 = .ok (.getfield 12, 3) := by decide +kernel
theorem dX9_restore_20 : decode cX9_restore 20 = .ok (.invokevirtual 55, 3) := by decide +kernel
theorem dX9_restore_23 : decode cX9_restore 23 = .ok (.aload_n 0, 1) := by decide +kernel
theorem dX9_restore_24 : decode cX9_restore 24 = .ok (.getfield 19, 3) := by decide +kernel
theorem dX9_restore_27 : decode cX9_restore 27 = .ok (.aload_n 0, 1) := by decide +kernel
theorem dX9_restore_28 : decode cX9_restore 28 = .ok (.getfield 26, 3) := by decide +kernel
theorem dX9_restore_31 : decode cX9_restore 31 = .ok (.iload_n 1, 1) := by decide +kernel
theorem dX9_restore_32 : decode cX9_restore 32 = .ok (.aload_n 0, 1) := by decide +kernel
theorem dX9_restore_33 : decode cX9_restore 33 = .ok (.getfield 12, 3) := by decide +kernel
theorem dX9_restore_36 : decode cX9_restore 36 = .ok (.invokevirtual 223, 3) := by decide +kernel
theorem dX9_restore_39 : decode cX9_restore 39 = .ok (.invokevirtual 73, 3) := by decide +kernel
theorem dX9_restore_42 : decode cX9_restore 42 = .ok (.ireturn, 1) := by decide +kernel
theorem dX9_priceAt_0 : decode cX9_priceAt 0 = .ok (.aload_n 0, 1) := by decide +kernel
theorem dX9_priceAt_1 : decode cX9_priceAt 1 = .ok (.getfield 47, 3) := by decide +kernel
theorem dX9_priceAt_4 : decode cX9_priceAt 4 = .ok (.aload_n 0, 1) := by decide +kernel
theorem dX9_priceAt_5 : decode cX9_priceAt 5 = .ok (.getfield 12, 3) := by decide +kernel
theorem dX9_priceAt_8 : decode cX9_priceAt 8 = .ok (.getfield 59, 3) := by decide +kernel
theorem dX9_priceAt_11 : decode cX9_priceAt 11 = .ok (.iload_n 1, 1) := by decide +kernel
theorem dX9_priceAt_12 : decode cX9_priceAt 12 = .ok (.invokevirtual 227, 3) := by decide +kernel
theorem dX9_priceAt_15 : decode cX9_priceAt 15 = .ok (.aload_n 0, 1) := by decide +kernel
theorem dX9_priceAt_16 : decode cX9_priceAt 16 = .ok (.getfield 47, 3) := by decide +kernel
theorem dX9_priceAt_19 : decode cX9_priceAt 19 = .ok (.aload_n 0, 1) := by decide +kernel
theorem dX9_priceAt_20 : decode cX9_priceAt 20 = .ok (.getfield 12, 3) := by decide +kernel
theorem dX9_priceAt_23 : decode cX9_priceAt 23 = .ok (.getfield 59, 3) := by decide +kernel
theorem dX9_priceAt_26 : decode cX9_priceAt 26 = .ok (.iload_n 1, 1) := by decide +kernel
theorem dX9_priceAt_27 : decode cX9_priceAt 27 = .ok (.iload_n 2, 1) := by decide +kernel
theorem dX9_priceAt_28 : decode cX9_priceAt 28 = .ok (.iload_n 3, 1) := by decide +kernel
theorem dX9_priceAt_29 : decode cX9_priceAt 29 = .ok (.invokevirtual 181, 3) := by decide +kernel
theorem dX9_priceAt_32 : decode cX9_priceAt 32 = .ok (.aload_n 0, 1) := by decide +kernel
theorem dX9_priceAt_33 : decode cX9_priceAt 33 = .ok (.getfield 47, 3) := by decide +kernel
theorem dX9_priceAt_36 : decode cX9_priceAt 36 = .ok (.getfield 185, 3) := by decide +kernel
theorem dX9_priceAt_39 : decode cX9_priceAt 39 = .ok (.ireturn, 1) := by decide +kernel
theorem dX9_carryOrder_0 : decode cX9_carryOrder 0 = .ok (.aload_n 0, 1) := by decide +kernel
theorem dX9_carryOrder_1 : decode cX9_carryOrder 1 = .ok (.getfield 40, 3) := by decide +kernel
theorem dX9_carryOrder_4 : decode cX9_carryOrder 4 = .ok (.getfield 231, 3) := by decide +kernel
theorem dX9_carryOrder_7 : decode cX9_carryOrder 7 = .ok (.lookupswitch 130 #[(100, 65), (101, 122), (104, 57), (115, 106), (119, 91), (120, 114)], 57) := by decide +kernel
theorem dX9_carryOrder_64 : decode cX9_carryOrder 64 = .ok (.aload_n 0, 1) := by decide +kernel
theorem dX9_carryOrder_65 : decode cX9_carryOrder 65 = .ok (.getfield 12, 3) := by decide +kernel
theorem dX9_carryOrder_68 : decode cX9_carryOrder 68 = .ok (.invokevirtual 88, 3) := by decide +kernel
theorem dX9_carryOrder_71 : decode cX9_carryOrder 71 = .ok (.ireturn, 1) := by decide +kernel
theorem dX9_carryOrder_72 : decode cX9_carryOrder 72 = .ok (.aload_n 0, 1) := by decide +kernel
theorem dX9_carryOrder_73 : decode cX9_carryOrder 73 = .ok (.getfield 12, 3) := by decide +kernel
theorem dX9_carryOrder_76 : decode cX9_carryOrder 76 = .ok (.aload_n 0, 1) := by decide +kernel
theorem dX9_carryOrder_77 : decode cX9_carryOrder 77 = .ok (.getfield 47, 3) := by decide +kernel
theorem dX9_carryOrder_80 : decode cX9_carryOrder 80 = .ok (.aload_n 0, 1) := by decide +kernel
theorem dX9_carryOrder_81 : decode cX9_carryOrder 81 = .ok (.getfield 40, 3) := by decide +kernel
theorem dX9_carryOrder_84 : decode cX9_carryOrder 84 = .ok (.getfield 235, 3) := by decide +kernel
theorem dX9_carryOrder_87 : decode cX9_carryOrder 87 = .ok (.aload_n 0, 1) := by decide +kernel
theorem dX9_carryOrder_88 : decode cX9_carryOrder 88 = .ok (.getfield 40, 3) := by decide +kernel
theorem dX9_carryOrder_91 : decode cX9_carryOrder 91 = .ok (.getfield 238, 3) := by decide +kernel
theorem dX9_carryOrder_94 : decode cX9_carryOrder 94 = .ok (.invokevirtual 92, 3) := by decide +kernel
theorem dX9_carryOrder_97 : decode cX9_carryOrder 97 = .ok (.ireturn, 1) := by decide +kernel
theorem dX9_carryOrder_98 : decode cX9_carryOrder 98 = .ok (.aload_n 0, 1) := by decide +kernel
theorem dX9_carryOrder_99 : decode cX9_carryOrder 99 = .ok (.getfield 12, 3) := by decide +kernel
theorem dX9_carryOrder_102 : decode cX9_carryOrder 102 = .ok (.aload_n 0, 1) := by decide +kernel
theorem dX9_carryOrder_103 : decode cX9_carryOrder 103 = .ok (.getfield 40, 3) := by decide +kernel
theorem dX9_carryOrder_106 : decode cX9_carryOrder 106 = .ok (.getfield 238, 3) := by decide +kernel
theorem dX9_carryOrder_109 : decode cX9_carryOrder 109 = .ok (.invokevirtual 96, 3) := by decide +kernel
theorem dX9_carryOrder_112 : decode cX9_carryOrder 112 = .ok (.ireturn, 1) := by decide +kernel
theorem dX9_carryOrder_113 : decode cX9_carryOrder 113 = .ok (.aload_n 0, 1) := by decide +kernel
theorem dX9_carryOrder_114 : decode cX9_carryOrder 114 = .ok (.getfield 12, 3) := by decide +kernel
theorem dX9_carryOrder_117 : decode cX9_carryOrder 117 = .ok (.invokevirtual 99, 3) := by decide +kernel
theorem dX9_carryOrder_120 : decode cX9_carryOrder 120 = .ok (.ireturn, 1) := by decide +kernel
theorem dX9_carryOrder_121 : decode cX9_carryOrder 121 = .ok (.aload_n 0, 1) := by decide +kernel
theorem dX9_carryOrder_122 : decode cX9_carryOrder 122 = .ok (.getfield 12, 3) := by decide +kernel
theorem dX9_carryOrder_125 : decode cX9_carryOrder 125 = .ok (.invokevirtual 102, 3) := by decide +kernel
theorem dX9_carryOrder_128 : decode cX9_carryOrder 128 = .ok (.ireturn, 1) := by decide +kernel
theorem dX9_carryOrder_129 : decode cX9_carryOrder 129 = .ok (.aload_n 0, 1) := by decide +kernel
theorem dX9_carryOrder_130 : decode cX9_carryOrder 130 = .ok (.getfield 12, 3) := by decide +kernel
theorem dX9_carryOrder_133 : decode cX9_carryOrder 133 = .ok (.invokevirtual 105, 3) := by decide +kernel
theorem dX9_carryOrder_136 : decode cX9_carryOrder 136 = .ok (.ireturn, 1) := by decide +kernel
theorem dX9_carryOrder_137 : decode cX9_carryOrder 137 = .ok (.bipush (-2), 2) := by decide +kernel
theorem dX9_carryOrder_139 : decode cX9_carryOrder 139 = .ok (.ireturn, 1) := by decide +kernel
theorem dX9_isIn_0 : decode cX9_isIn 0 = .ok (.iload_n 0, 1) := by decide +kernel
theorem dX9_isIn_1 : decode cX9_isIn 1 = .ok (.iload_n 1, 1) := by decide +kernel
theorem dX9_isIn_2 : decode cX9_isIn 2 = .ok (.if_icmp .lt 12, 3) := by decide +kernel
theorem dX9_isIn_5 : decode cX9_isIn 5 = .ok (.iload_n 0, 1) := by decide +kernel
theorem dX9_isIn_6 : decode cX9_isIn 6 = .ok (.iload_n 2, 1) := by decide +kernel
theorem dX9_isIn_7 : decode cX9_isIn 7 = .ok (.if_icmp .gt 7, 3) := by decide +kernel
theorem dX9_isIn_10 : decode cX9_isIn 10 = .ok (.iconst 1, 1) := by decide +kernel
theorem dX9_isIn_11 : decode cX9_isIn 11 = .ok (.goto 4, 3) := by decide +kernel
theorem dX9_isIn_14 : decode cX9_isIn 14 = .ok (.iconst 0, 1) := by decide +kernel
theorem dX9_isIn_15 : decode cX9_isIn 15 = .ok (.ireturn, 1) := by decide +kernel
theorem dX9_isDrive_0 : decode cX9_isDrive 0 = .ok (.iload_n 0, 1) := by decide +kernel
theorem dX9_isDrive_1 : decode cX9_isDrive 1 = .ok (.iconst 0, 1) := by decide +kernel
theorem dX9_isDrive_2 : decode cX9_isDrive 2 = .ok (.sipush 9999, 3) := by decide +kernel
theorem dX9_isDrive_5 : decode cX9_isDrive 5 = .ok (.invokestatic 51, 3) := by decide +kernel
theorem dX9_isDrive_8 : decode cX9_isDrive 8 = .ok (.ifCond .eq 18, 3) := by decide +kernel
theorem dX9_isDrive_11 : decode cX9_isDrive 11 = .ok (.iload_n 1, 1) := by decide +kernel
theorem dX9_isDrive_12 : decode cX9_isDrive 12 = .ok (.iconst 1, 1) := by decide +kernel
theorem dX9_isDrive_13 : decode cX9_isDrive 13 = .ok (.sipush 9999, 3) := by decide +kernel
theorem dX9_isDrive_16 : decode cX9_isDrive 16 = .ok (.invokestatic 51, 3) := by decide +kernel
theorem dX9_isDrive_19 : decode cX9_isDrive 19 = .ok (.ifCond .eq 7, 3) := by decide +kernel
theorem dX9_isDrive_22 : decode cX9_isDrive 22 = .ok (.iconst 1, 1) := by decide +kernel
theorem dX9_isDrive_23 : decode cX9_isDrive 23 = .ok (.goto 4, 3) := by decide +kernel
theorem dX9_isDrive_26 : decode cX9_isDrive 26 = .ok (.iconst 0, 1) := by decide +kernel
theorem dX9_isDrive_27 : decode cX9_isDrive 27 = .ok (.ireturn, 1) := by decide +kernel
theorem dX9_at_0 : decode cX9_at 0 = .ok (.iload_n 1, 1) := by decide +kernel
theorem dX9_at_1 : decode cX9_at 1 = .ok (.ifCond .lt 15, 3) := by decide +kernel
theorem dX9_at_4 : decode cX9_at 4 = .ok (.iload_n 1, 1) := by decide +kernel
theorem dX9_at_5 : decode cX9_at 5 = .ok (.aload_n 0, 1) := by decide +kernel
theorem dX9_at_6 : decode cX9_at 6 = .ok (.arraylength, 1) := by decide +kernel
theorem dX9_at_7 : decode cX9_at 7 = .ok (.if_icmp .ge 9, 3) := by decide +kernel
theorem dX9_at_10 : decode cX9_at 10 = .ok (.aload_n 0, 1) := by decide +kernel
theorem dX9_at_11 : decode cX9_at 11 = .ok (.iload_n 1, 1) := by decide +kernel
theorem dX9_at_12 : decode cX9_at 12 = .ok (.iaload, 1) := by decide +kernel
theorem dX9_at_13 : decode cX9_at 13 = .ok (.goto 4, 3) := by decide +kernel
theorem dX9_at_16 : decode cX9_at 16 = .ok (.iconst 0, 1) := by decide +kernel
theorem dX9_at_17 : decode cX9_at 17 = .ok (.ireturn, 1) := by decide +kernel
theorem dX9_setAt_0 : decode cX9_setAt 0 = .ok (.iload_n 1, 1) := by decide +kernel
theorem dX9_setAt_1 : decode cX9_setAt 1 = .ok (.ifCond .lt 13, 3) := by decide +kernel
theorem dX9_setAt_4 : decode cX9_setAt 4 = .ok (.iload_n 1, 1) := by decide +kernel
theorem dX9_setAt_5 : decode cX9_setAt 5 = .ok (.aload_n 0, 1) := by decide +kernel
theorem dX9_setAt_6 : decode cX9_setAt 6 = .ok (.arraylength, 1) := by decide +kernel
theorem dX9_setAt_7 : decode cX9_setAt 7 = .ok (.if_icmp .ge 7, 3) := by decide +kernel
theorem dX9_setAt_10 : decode cX9_setAt 10 = .ok (.aload_n 0, 1) := by decide +kernel
theorem dX9_setAt_11 : decode cX9_setAt 11 = .ok (.iload_n 1, 1) := by decide +kernel
theorem dX9_setAt_12 : decode cX9_setAt 12 = .ok (.iload_n 2, 1) := by decide +kernel
theorem dX9_setAt_13 : decode cX9_setAt 13 = .ok (.iastore, 1) := by decide +kernel
theorem dX9_setAt_14 : decode cX9_setAt 14 = .ok (.return_, 1) := by decide +kernel
theorem dX9_copyRow_0 : decode cX9_copyRow 0 = .ok (.aload_n 0, 1) := by decide +kernel
theorem dX9_copyRow_1 : decode cX9_copyRow 1 = .ok (.iconst 0, 1) := by decide +kernel
theorem dX9_copyRow_2 : decode cX9_copyRow 2 = .ok (.aload_n 1, 1) := by decide +kernel
theorem dX9_copyRow_3 : decode cX9_copyRow 3 = .ok (.iconst 0, 1) := by decide +kernel
theorem dX9_copyRow_4 : decode cX9_copyRow 4 = .ok (.aload_n 0, 1) := by decide +kernel
theorem dX9_copyRow_5 : decode cX9_copyRow 5 = .ok (.arraylength, 1) := by decide +kernel
theorem dX9_copyRow_6 : decode cX9_copyRow 6 = .ok (.aload_n 1, 1) := by decide +kernel
theorem dX9_copyRow_7 : decode cX9_copyRow 7 = .ok (.arraylength, 1) := by decide +kernel
theorem dX9_copyRow_8 : decode cX9_copyRow 8 = .ok (.invokestatic 241, 3) := by decide +kernel
theorem dX9_copyRow_11 : decode cX9_copyRow 11 = .ok (.invokestatic 246, 3) := by decide +kernel
theorem dX9_copyRow_14 : decode cX9_copyRow 14 = .ok (.return_, 1) := by decide +kernel
