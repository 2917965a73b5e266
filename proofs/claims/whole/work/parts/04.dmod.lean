theorem dX10_init_0 : decode cX10_init 0 = .ok (.aload_n 0, 1) := by decide +kernel
theorem dX10_init_1 : decode cX10_init 1 = .ok (.invokespecial 1, 3) := by decide +kernel
theorem dX10_init_4 : decode cX10_init 4 = .ok (.aload_n 0, 1) := by decide +kernel
theorem dX10_init_5 : decode cX10_init 5 = .ok (.bipush 113, 2) := by decide +kernel
theorem dX10_init_7 : decode cX10_init 7 = .ok (.newarray .int, 2) := by decide +kernel
theorem dX10_init_9 : decode cX10_init 9 = .ok (.putfield 7, 3) := by decide +kernel
theorem dX10_init_12 : decode cX10_init 12 = .ok (.aload_n 0, 1) := by decide +kernel
theorem dX10_init_13 : decode cX10_init 13 = .ok (.sipush 678, 3) := by decide +kernel
theorem dX10_init_16 : decode cX10_init 16 = .ok (.newarray .int, 2) := by decide +kernel
theorem dX10_init_18 : decode cX10_init 18 = .ok (.putfield 13, 3) := by decide +kernel
theorem dX10_init_21 : decode cX10_init 21 = .ok (.aload_n 0, 1) := by decide +kernel
theorem dX10_init_22 : decode cX10_init 22 = .ok (.sipush 226, 3) := by decide +kernel
theorem dX10_init_25 : decode cX10_init 25 = .ok (.newarray .int, 2) := by decide +kernel
theorem dX10_init_27 : decode cX10_init 27 = .ok (.putfield 16, 3) := by decide +kernel
theorem dX10_init_30 : decode cX10_init 30 = .ok (.aload_n 0, 1) := by decide +kernel
theorem dX10_init_31 : decode cX10_init 31 = .ok (.iconst 2, 1) := by decide +kernel
theorem dX10_init_32 : decode cX10_init 32 = .ok (.newarray .boolean, 2) := by decide +kernel
theorem dX10_init_34 : decode cX10_init 34 = .ok (.putfield 19, 3) := by decide +kernel
theorem dX10_init_37 : decode cX10_init 37 = .ok (.aload_n 0, 1) := by decide +kernel
theorem dX10_init_38 : decode cX10_init 38 = .ok (.bipush 113, 2) := by decide +kernel
theorem dX10_init_40 : decode cX10_init 40 = .ok (.newarray .int, 2) := by decide +kernel
theorem dX10_init_42 : decode cX10_init 42 = .ok (.putfield 23, 3) := by decide +kernel
theorem dX10_init_45 : decode cX10_init 45 = .ok (.aload_n 0, 1) := by decide +kernel
theorem dX10_init_46 : decode cX10_init 46 = .ok (.bipush 80, 2) := by decide +kernel
theorem dX10_init_48 : decode cX10_init 48 = .ok (.newarray .char, 2) := by decide +kernel
theorem dX10_init_50 : decode cX10_init 50 = .ok (.putfield 26, 3) := by decide +kernel
theorem dX10_init_53 : decode cX10_init 53 = .ok (.aload_n 0, 1) := by decide +kernel
theorem dX10_init_54 : decode cX10_init 54 = .ok (.bipush 123, 2) := by decide +kernel
theorem dX10_init_56 : decode cX10_init 56 = .ok (.newarray .int, 2) := by decide +kernel
theorem dX10_init_58 : decode cX10_init 58 = .ok (.putfield 30, 3) := by decide +kernel
theorem dX10_init_61 : decode cX10_init 61 = .ok (.iconst 0, 1) := by decide +kernel
theorem dX10_init_62 : decode cX10_init 62 = .ok (.istore_n 1, 1) := by decide +kernel
theorem dX10_init_63 : decode cX10_init 63 = .ok (.iload_n 1, 1) := by decide +kernel
theorem dX10_init_64 : decode cX10_init 64 = .ok (.iconst 3, 1) := by decide +kernel
theorem dX10_init_65 : decode cX10_init 65 = .ok (.if_icmp .ge 67, 3) := by decide +kernel
theorem dX10_init_68 : decode cX10_init 68 = .ok (.aload_n 0, 1) := by decide +kernel
theorem dX10_init_69 : decode cX10_init 69 = .ok (.getfield 7, 3) := by decide +kernel
theorem dX10_init_72 : decode cX10_init 72 = .ok (.iconst 0, 1) := by decide +kernel
theorem dX10_init_73 : decode cX10_init 73 = .ok (.iconst 4, 1) := by decide +kernel
theorem dX10_init_74 : decode cX10_init 74 = .ok (.iload_n 1, 1) := by decide +kernel
theorem dX10_init_75 : decode cX10_init 75 = .ok (.imul, 1) := by decide +kernel
theorem dX10_init_76 : decode cX10_init 76 = .ok (.iadd, 1) := by decide +kernel
theorem dX10_init_77 : decode cX10_init 77 = .ok (.bipush 30, 2) := by decide +kernel
theorem dX10_init_79 : decode cX10_init 79 = .ok (.iastore, 1) := by decide +kernel
theorem dX10_init_80 : decode cX10_init 80 = .ok (.aload_n 0, 1) := by decide +kernel
theorem dX10_init_81 : decode cX10_init 81 = .ok (.getfield 7, 3) := by decide +kernel
theorem dX10_init_84 : decode cX10_init 84 = .ok (.iconst 0, 1) := by decide +kernel
theorem dX10_init_85 : decode cX10_init 85 = .ok (.iconst 4, 1) := by decide +kernel
theorem dX10_init_86 : decode cX10_init 86 = .ok (.iload_n 1, 1) := by decide +kernel
theorem dX10_init_87 : decode cX10_init 87 = .ok (.imul, 1) := by decide +kernel
theorem dX10_init_88 : decode cX10_init 88 = .ok (.iadd, 1) := by decide +kernel
theorem dX10_init_89 : decode cX10_init 89 = .ok (.iconst 1, 1) := by decide +kernel
theorem dX10_init_90 : decode cX10_init 90 = .ok (.iadd, 1) := by decide +kernel
theorem dX10_init_91 : decode cX10_init 91 = .ok (.iconst 2, 1) := by decide +kernel
theorem dX10_init_92 : decode cX10_init 92 = .ok (.iastore, 1) := by decide +kernel
theorem dX10_init_93 : decode cX10_init 93 = .ok (.aload_n 0, 1) := by decide +kernel
theorem dX10_init_94 : decode cX10_init 94 = .ok (.getfield 7, 3) := by decide +kernel
theorem dX10_init_97 : decode cX10_init 97 = .ok (.iconst 0, 1) := by decide +kernel
theorem dX10_init_98 : decode cX10_init 98 = .ok (.iconst 4, 1) := by decide +kernel
theorem dX10_init_99 : decode cX10_init 99 = .ok (.iload_n 1, 1) := by decide +kernel
theorem dX10_init_100 : decode cX10_init 100 = .ok (.imul, 1) := by decide +kernel
theorem dX10_init_101 : decode cX10_init 101 = .ok (.iadd, 1) := by decide +kernel
theorem dX10_init_102 : decode cX10_init 102 = .ok (.iconst 2, 1) := by decide +kernel
theorem dX10_init_103 : decode cX10_init 103 = .ok (.iadd, 1) := by decide +kernel
theorem dX10_init_104 : decode cX10_init 104 = .ok (.bipush 100, 2) := by decide +kernel
theorem dX10_init_106 : decode cX10_init 106 = .ok (.bipush 10, 2) := by decide +kernel
theorem dX10_init_108 : decode cX10_init 108 = .ok (.iload_n 1, 1) := by decide +kernel
theorem dX10_init_109 : decode cX10_init 109 = .ok (.imul, 1) := by decide +kernel
theorem dX10_init_110 : decode cX10_init 110 = .ok (.isub, 1) := by decide +kernel
theorem dX10_init_111 : decode cX10_init 111 = .ok (.iastore, 1) := by decide +kernel
theorem dX10_init_112 : decode cX10_init 112 = .ok (.aload_n 0, 1) := by decide +kernel
theorem dX10_init_113 : decode cX10_init 113 = .ok (.getfield 7, 3) := by decide +kernel
theorem dX10_init_116 : decode cX10_init 116 = .ok (.iconst 0, 1) := by decide +kernel
theorem dX10_init_117 : decode cX10_init 117 = .ok (.iconst 4, 1) := by decide +kernel
theorem dX10_init_118 : decode cX10_init 118 = .ok (.iload_n 1, 1) := by decide +kernel
theorem dX10_init_119 : decode cX10_init 119 = .ok (.imul, 1) := by decide +kernel
theorem dX10_init_120 : decode cX10_init 120 = .ok (.iadd, 1) := by decide +kernel
theorem dX10_init_121 : decode cX10_init 121 = .ok (.iconst 3, 1) := by decide +kernel
theorem dX10_init_122 : decode cX10_init 122 = .ok (.iadd, 1) := by decide +kernel
theorem dX10_init_123 : decode cX10_init 123 = .ok (.bipush 20, 2) := by decide +kernel
theorem dX10_init_125 : decode cX10_init 125 = .ok (.iastore, 1) := by decide +kernel
theorem dX10_init_126 : decode cX10_init 126 = .ok (.iinc 1 1, 3) := by decide +kernel
theorem dX10_init_129 : decode cX10_init 129 = .ok (.goto (-66), 3) := by decide +kernel
theorem dX10_init_132 : decode cX10_init 132 = .ok (.aload_n 0, 1) := by decide +kernel
theorem dX10_init_133 : decode cX10_init 133 = .ok (.getfield 7, 3) := by decide +kernel
theorem dX10_init_136 : decode cX10_init 136 = .ok (.bipush 36, 2) := by decide +kernel
theorem dX10_init_138 : decode cX10_init 138 = .ok (.iconst 5, 1) := by decide +kernel
theorem dX10_init_139 : decode cX10_init 139 = .ok (.iastore, 1) := by decide +kernel
theorem dX10_init_140 : decode cX10_init 140 = .ok (.return_, 1) := by decide +kernel
theorem dX10_in_0 : decode cX10_in 0 = .ok (.iload_n 0, 1) := by decide +kernel
theorem dX10_in_1 : decode cX10_in 1 = .ok (.iload_n 1, 1) := by decide +kernel
theorem dX10_in_2 : decode cX10_in 2 = .ok (.if_icmp .lt 12, 3) := by decide +kernel
theorem dX10_in_5 : decode cX10_in 5 = .ok (.iload_n 0, 1) := by decide +kernel
theorem dX10_in_6 : decode cX10_in 6 = .ok (.iload_n 2, 1) := by decide +kernel
theorem dX10_in_7 : decode cX10_in 7 = .ok (.if_icmp .gt 7, 3) := by decide +kernel
theorem dX10_in_10 : decode cX10_in 10 = .ok (.iconst 1, 1) := by decide +kernel
theorem dX10_in_11 : decode cX10_in 11 = .ok (.goto 4, 3) := by decide +kernel
theorem dX10_in_14 : decode cX10_in 14 = .ok (.iconst 0, 1) := by decide +kernel
theorem dX10_in_15 : decode cX10_in 15 = .ok (.ireturn, 1) := by decide +kernel
theorem dX10_isTariff_0 : decode cX10_isTariff 0 = .ok (.iload_n 0, 1) := by decide +kernel
theorem dX10_isTariff_1 : decode cX10_isTariff 1 = .ok (.iconst 0, 1) := by decide +kernel
theorem dX10_isTariff_2 : decode cX10_isTariff 2 = .ok (.iconst 2, 1) := by decide +kernel
theorem dX10_isTariff_3 : decode cX10_isTariff 3 = .ok (.invokestatic 33, 3) := by decide +kernel
theorem dX10_isTariff_6 : decode cX10_isTariff 6 = .ok (.ireturn, 1) := by decide +kernel
theorem dX10_its_0 : decode cX10_its 0 = .ok (.aload_n 0, 1) := by decide +kernel
theorem dX10_its_1 : decode cX10_its 1 = .ok (.getfield 7, 3) := by decide +kernel
theorem dX10_its_4 : decode cX10_its 4 = .ok (.iconst 0, 1) := by decide +kernel
theorem dX10_its_5 : decode cX10_its 5 = .ok (.iconst 4, 1) := by decide +kernel
theorem dX10_its_6 : decode cX10_its 6 = .ok (.iload_n 1, 1) := by decide +kernel
theorem dX10_its_7 : decode cX10_its 7 = .ok (.imul, 1) := by decide +kernel
theorem dX10_its_8 : decode cX10_its 8 = .ok (.iadd, 1) := by decide +kernel
theorem dX10_its_9 : decode cX10_its 9 = .ok (.iload_n 2, 1) := by decide +kernel
theorem dX10_its_10 : decode cX10_its 10 = .ok (.iadd, 1) := by decide +kernel
theorem dX10_its_11 : decode cX10_its 11 = .ok (.iaload, 1) := by decide +kernel
theorem dX10_its_12 : decode cX10_its 12 = .ok (.ireturn, 1) := by decide +kernel
theorem dX10_tariffAt_0 : decode cX10_tariffAt 0 = .ok (.aload_n 0, 1) := by decide +kernel
theorem dX10_tariffAt_1 : decode cX10_tariffAt 1 = .ok (.getfield 7, 3) := by decide +kernel
theorem dX10_tariffAt_4 : decode cX10_tariffAt 4 = .ok (.bipush 12, 2) := by decide +kernel
theorem dX10_tariffAt_6 : decode cX10_tariffAt 6 = .ok (.iload_n 1, 1) := by decide +kernel
theorem dX10_tariffAt_7 : decode cX10_tariffAt 7 = .ok (.sipush 3600, 3) := by decide +kernel
theorem dX10_tariffAt_10 : decode cX10_tariffAt 10 = .ok (.idiv, 1) := by decide +kernel
theorem dX10_tariffAt_11 : decode cX10_tariffAt 11 = .ok (.iadd, 1) := by decide +kernel
theorem dX10_tariffAt_12 : decode cX10_tariffAt 12 = .ok (.iaload, 1) := by decide +kernel
theorem dX10_tariffAt_13 : decode cX10_tariffAt 13 = .ok (.ireturn, 1) := by decide +kernel
theorem dX10_productOf_0 : decode cX10_productOf 0 = .ok (.aload_n 0, 1) := by decide +kernel
theorem dX10_productOf_1 : decode cX10_productOf 1 = .ok (.iload_n 1, 1) := by decide +kernel
theorem dX10_productOf_2 : decode cX10_productOf 2 = .ok (.iconst 2, 1) := by decide +kernel
theorem dX10_productOf_3 : decode cX10_productOf 3 = .ok (.invokevirtual 37, 3) := by decide +kernel
theorem dX10_productOf_6 : decode cX10_productOf 6 = .ok (.aload_n 0, 1) := by decide +kernel
theorem dX10_productOf_7 : decode cX10_productOf 7 = .ok (.iload_n 1, 1) := by decide +kernel
theorem dX10_productOf_8 : decode cX10_productOf 8 = .ok (.iconst 3, 1) := by decide +kernel
theorem dX10_productOf_9 : decode cX10_productOf 9 = .ok (.invokevirtual 37, 3) := by decide +kernel
theorem dX10_productOf_12 : decode cX10_productOf 12 = .ok (.imul, 1) := by decide +kernel
theorem dX10_productOf_13 : decode cX10_productOf 13 = .ok (.ireturn, 1) := by decide +kernel
theorem dX10_record_0 : decode cX10_record 0 = .ok (.aload_n 0, 1) := by decide +kernel
theorem dX10_record_1 : decode cX10_record 1 = .ok (.getfield 41, 3) := by decide +kernel
theorem dX10_record_4 : decode cX10_record 4 = .ok (.bipush 6, 2) := by decide +kernel
theorem dX10_record_6 : decode cX10_record 6 = .ok (.if_icmp .ne 43, 3) := by decide +kernel
theorem dX10_record_9 : decode cX10_record 9 = .ok (.iconst 0, 1) := by decide +kernel
theorem dX10_record_10 : decode cX10_record 10 = .ok (.istore_n 1, 1) := by decide +kernel
theorem dX10_record_11 : decode cX10_record 11 = .ok (.iload_n 1, 1) := by decide +kernel
theorem dX10_record_12 : decode cX10_record 12 = .ok (.sipush 565, 3) := by decide +kernel
theorem dX10_record_15 : decode cX10_record 15 = .ok (.if_icmp .ge 24, 3) := by decide +kernel
theorem dX10_record_18 : decode cX10_record 18 = .ok (.aload_n 0, 1) := by decide +kernel
theorem dX10_record_19 : decode cX10_record 19 = .ok (.getfield 13, 3) := by decide +kernel
theorem dX10_record_22 : decode cX10_record 22 = .ok (.iload_n 1, 1) := by decide +kernel
theorem dX10_record_23 : decode cX10_record 23 = .ok (.aload_n 0, 1) := by decide +kernel
theorem dX10_record_24 : decode cX10_record 24 = .ok (.getfield 13, 3) := by decide +kernel
theorem dX10_record_27 : decode cX10_record 27 = .ok (.iload_n 1, 1) := by decide +kernel
theorem dX10_record_28 : decode cX10_record 28 = .ok (.bipush 113, 2) := by decide +kernel
theorem dX10_record_30 : decode cX10_record 30 = .ok (.iadd, 1) := by decide +kernel
theorem dX10_record_31 : decode cX10_record 31 = .ok (.iaload, 1) := by decide +kernel
theorem dX10_record_32 : decode cX10_record 32 = .ok (.iastore, 1) := by decide +kernel
theorem dX10_record_33 : decode cX10_record 33 = .ok (.iinc 1 1, 3) := by decide +kernel
theorem dX10_record_36 : decode cX10_record 36 = .ok (.goto (-25), 3) := by decide +kernel
theorem dX10_record_39 : decode cX10_record 39 = .ok (.aload_n 0, 1) := by decide +kernel
theorem dX10_record_40 : decode cX10_record 40 = .ok (.dup, 1) := by decide +kernel
theorem dX10_record_41 : decode cX10_record 41 = .ok (.getfield 41, 3) := by decide +kernel
theorem dX10_record_44 : decode cX10_record 44 = .ok (.iconst 1, 1) := by decide +kernel
theorem dX10_record_45 : decode cX10_record 45 = .ok (.isub, 1) := by decide +kernel
theorem dX10_record_46 : decode cX10_record 46 = .ok (.putfield 41, 3) := by decide +kernel
theorem dX10_record_49 : decode cX10_record 49 = .ok (.iconst 0, 1) := by decide +kernel
theorem dX10_record_50 : decode cX10_record 50 = .ok (.istore_n 1, 1) := by decide +kernel
theorem dX10_record_51 : decode cX10_record 51 = .ok (.iload_n 1, 1) := by decide +kernel
theorem dX10_record_52 : decode cX10_record 52 = .ok (.bipush 113, 2) := by decide +kernel
theorem dX10_record_54 : decode cX10_record 54 = .ok (.if_icmp .ge 29, 3) := by decide +kernel
theorem dX10_record_57 : decode cX10_record 57 = .ok (.aload_n 0, 1) := by decide +kernel
theorem dX10_record_58 : decode cX10_record 58 = .ok (.getfield 13, 3) := by decide +kernel
theorem dX10_record_61 : decode cX10_record 61 = .ok (.aload_n 0, 1) := by decide +kernel
theorem dX10_record_62 : decode cX10_record 62 = .ok (.getfield 41, 3) := by decide +kernel
theorem dX10_record_65 : decode cX10_record 65 = .ok (.bipush 113, 2) := by decide +kernel
theorem dX10_record_67 : decode cX10_record 67 = .ok (.imul, 1) := by decide +kernel
theorem dX10_record_68 : decode cX10_record 68 = .ok (.iload_n 1, 1) := by decide +kernel
theorem dX10_record_69 : decode cX10_record 69 = .ok (.iadd, 1) := by decide +kernel
theorem dX10_record_70 : decode cX10_record 70 = .ok (.aload_n 0, 1) := by decide +kernel
theorem dX10_record_71 : decode cX10_record 71 = .ok (.getfield 7, 3) := by decide +kernel
theorem dX10_record_74 : decode cX10_record 74 = .ok (.iload_n 1, 1) := by decide +kernel
theorem dX10_record_75 : decode cX10_record 75 = .ok (.iaload, 1) := by decide +kernel
theorem dX10_record_76 : decode cX10_record 76 = .ok (.iastore, 1) := by decide +kernel
theorem dX10_record_77 : decode cX10_record 77 = .ok (.iinc 1 1, 3) := by decide +kernel
theorem dX10_record_80 : decode cX10_record 80 = .ok (.goto (-29), 3) := by decide +kernel
theorem dX10_record_83 : decode cX10_record 83 = .ok (.aload_n 0, 1) := by decide +kernel
theorem dX10_record_84 : decode cX10_record 84 = .ok (.dup, 1) := by decide +kernel
theorem dX10_record_85 : decode cX10_record 85 = .ok (.getfield 41, 3) := by decide +kernel
theorem dX10_record_88 : decode cX10_record 88 = .ok (.iconst 1, 1) := by decide +kernel
theorem dX10_record_89 : decode cX10_record 89 = .ok (.iadd, 1) := by decide +kernel
theorem dX10_record_90 : decode cX10_record 90 = .ok (.putfield 41, 3) := by decide +kernel
theorem dX10_record_93 : decode cX10_record 93 = .ok (.return_, 1) := by decide +kernel
theorem dX10_undo_0 : decode cX10_undo 0 = .ok (.aload_n 0, 1) := by decide +kernel
theorem dX10_undo_1 : decode cX10_undo 1 = .ok (.getfield 41, 3) := by decide +kernel
theorem dX10_undo_4 : decode cX10_undo 4 = .ok (.ifCond .ne 6, 3) := by decide +kernel
theorem dX10_undo_7 : decode cX10_undo 7 = .ok (.bipush (-5), 2) := by decide +kernel
theorem dX10_undo_9 : decode cX10_undo 9 = .ok (.ireturn, 1) := by decide +kernel
theorem dX10_undo_10 : decode cX10_undo 10 = .ok (.aload_n 0, 1) := by decide +kernel
theorem dX10_undo_11 : decode cX10_undo 11 = .ok (.dup, 1) := by decide +kernel
theorem dX10_undo_12 : decode cX10_undo 12 = .ok (.getfield 41, 3) := by decide +kernel
theorem dX10_undo_15 : decode cX10_undo 15 = .ok (.iconst 1, 1) := by decide +kernel
theorem dX10_undo_16 : decode cX10_undo 16 = .ok (.isub, 1) := by decide +kernel
theorem dX10_undo_17 : decode cX10_undo 17 = .ok (.putfield 41, 3) := by decide +kernel
theorem dX10_undo_20 : decode cX10_undo 20 = .ok (.iconst 0, 1) := by decide +kernel
theorem dX10_undo_21 : decode cX10_undo 21 = .ok (.istore_n 1, 1) := by decide +kernel
theorem dX10_undo_22 : decode cX10_undo 22 = .ok (.iload_n 1, 1) := by decide +kernel
theorem dX10_undo_23 : decode cX10_undo 23 = .ok (.bipush 113, 2) := by decide +kernel
theorem dX10_undo_25 : decode cX10_undo 25 = .ok (.if_icmp .ge 29, 3) := by decide +kernel
theorem dX10_undo_28 : decode cX10_undo 28 = .ok (.aload_n 0, 1) := by decide +kernel
theorem dX10_undo_29 : decode cX10_undo 29 = .ok (.getfield 7, 3) := by decide +kernel
theorem dX10_undo_32 : decode cX10_undo 32 = .ok (.iload_n 1, 1) := by decide +kernel
theorem dX10_undo_33 : decode cX10_undo 33 = .ok (.aload_n 0, 1) := by decide +kernel
theorem dX10_undo_34 : decode cX10_undo 34 = .ok (.getfield 13, 3) := by decide +kernel
theorem dX10_undo_37 : decode cX10_undo 37 = .ok (.aload_n 0, 1) := by decide +kernel
theorem dX10_undo_38 : decode cX10_undo 38 = .ok (.getfield 41, 3) := by decide +kernel
theorem dX10_undo_41 : decode cX10_undo 41 = .ok (.bipush 113, 2) := by decide +kernel
theorem dX10_undo_43 : decode cX10_undo 43 = .ok (.imul, 1) := by decide +kernel
theorem dX10_undo_44 : decode cX10_undo 44 = .ok (.iload_n 1, 1) := by decide +kernel
theorem dX10_undo_45 : decode cX10_undo 45 = .ok (.iadd, 1) := by decide +kernel
theorem dX10_undo_46 : decode cX10_undo 46 = .ok (.iaload, 1) := by decide +kernel
theorem dX10_undo_47 : decode cX10_undo 47 = .ok (.iastore, 1) := by decide +kernel
theorem dX10_undo_48 : decode cX10_undo 48 = .ok (.iinc 1 1, 3) := by decide +kernel
theorem dX10_undo_51 : decode cX10_undo 51 = .ok (.goto (-29), 3) := by decide +kernel
theorem dX10_undo_54 : decode cX10_undo 54 = .ok (.aload_n 0, 1) := by decide +kernel
theorem dX10_undo_55 : decode cX10_undo 55 = .ok (.getfield 41, 3) := by decide +kernel
theorem dX10_undo_58 : decode cX10_undo 58 = .ok (.ireturn, 1) := by decide +kernel
theorem dX10_save_0 : decode cX10_save 0 = .ok (.iload_n 1, 1) := by decide +kernel
theorem dX10_save_1 : decode cX10_save 1 = .ok (.iconst 0, 1) := by decide +kernel
theorem dX10_save_2 : decode cX10_save 2 = .ok (.iconst 1, 1) := by decide +kernel
theorem dX10_save_3 : decode cX10_save 3 = .ok (.invokestatic 33, 3) := by decide +kernel
theorem dX10_save_6 : decode cX10_save 6 = .ok (.ifCond .ne 6, 3) := by decide +kernel
theorem dX10_save_9 : decode cX10_save 9 = .ok (.bipush (-2), 2) := by decide +kernel
theorem dX10_save_11 : decode cX10_save 11 = .ok (.ireturn, 1) := by decide +kernel
theorem dX10_save_12 : decode cX10_save 12 = .ok (.aload_n 0, 1) := by decide +kernel
theorem dX10_save_13 : decode cX10_save 13 = .ok (.getfield 19, 3) := by decide +kernel
theorem dX10_save_16 : decode cX10_save 16 = .ok (.iload_n 1, 1) := by decide +kernel
theorem dX10_save_17 : decode cX10_save 17 = .ok (.iconst 1, 1) := by decide +kernel
theorem dX10_save_18 : decode cX10_save 18 = .ok (.bastore, 1) := by decide +kernel
theorem dX10_save_19 : decode cX10_save 19 = .ok (.iconst 0, 1) := by decide +kernel
theorem dX10_save_20 : decode cX10_save 20 = .ok (.istore_n 2, 1) := by decide +kernel
theorem dX10_save_21 : decode cX10_save 21 = .ok (.iload_n 2, 1) := by decide +kernel
theorem dX10_save_22 : decode cX10_save 22 = .ok (.bipush 113, 2) := by decide +kernel
theorem dX10_save_24 : decode cX10_save 24 = .ok (.if_icmp .ge 26, 3) := by decide +kernel
theorem dX10_save_27 : decode cX10_save 27 = .ok (.aload_n 0, 1) := by decide +kernel
theorem dX10_save_28 : decode cX10_save 28 = .ok (.getfield 16, 3) := by decide +kernel
theorem dX10_save_31 : decode cX10_save 31 = .ok (.iload_n 1, 1) := by decide +kernel
theorem dX10_save_32 : decode cX10_save 32 = .ok (.bipush 113, 2) := by decide +kernel
theorem dX10_save_34 : decode cX10_save 34 = .ok (.imul, 1) := by decide +kernel
theorem dX10_save_35 : decode cX10_save 35 = .ok (.iload_n 2, 1) := by decide +kernel
theorem dX10_save_36 : decode cX10_save 36 = .ok (.iadd, 1) := by decide +kernel
theorem dX10_save_37 : decode cX10_save 37 = .ok (.aload_n 0, 1) := by decide +kernel
theorem dX10_save_38 : decode cX10_save 38 = .ok (.getfield 7, 3) := by decide +kernel
theorem dX10_save_41 : decode cX10_save 41 = .ok (.iload_n 2, 1) := by decide +kernel
theorem dX10_save_42 : decode cX10_save 42 = .ok (.iaload, 1) := by decide +kernel
theorem dX10_save_43 : decode cX10_save 43 = .ok (.iastore, 1) := by decide +kernel
theorem dX10_save_44 : decode cX10_save 44 = .ok (.iinc 2 1, 3) := by decide +kernel
theorem dX10_save_47 : decode cX10_save 47 = .ok (.goto (-26), 3) := by decide +kernel
theorem dX10_save_50 : decode cX10_save 50 = .ok (.aload_n 0, 1) := by decide +kernel
theorem dX10_save_51 : decode cX10_save 51 = .ok (.getfield 7, 3) := by decide +kernel
theorem dX10_save_54 : decode cX10_save 54 = .ok (.bipush 50, 2) := by decide +kernel
theorem dX10_save_56 : decode cX10_save 56 = .ok (.iaload, 1) := by decide +kernel
theorem dX10_save_57 : decode cX10_save 57 = .ok (.ireturn, 1) := by decide +kernel
theorem dX10_restore_0 : decode cX10_restore 0 = .ok (.iload_n 1, 1) := by decide +kernel
theorem dX10_restore_1 : decode cX10_restore 1 = .ok (.iconst 0, 1) := by decide +kernel
theorem dX10_restore_2 : decode cX10_restore 2 = .ok (.iconst 1, 1) := by decide +kernel
theorem dX10_restore_3 : decode cX10_restore 3 = .ok (.invokestatic 33, 3) := by decide +kernel
theorem dX10_restore_6 : decode cX10_restore 6 = .ok (.ifCond .ne 6, 3) := by decide +kernel
theorem dX10_restore_9 : decode cX10_restore 9 = .ok (.bipush (-2), 2) := by decide +kernel
theorem dX10_restore_11 : decode cX10_restore 11 = .ok (.ireturn, 1) := by decide +kernel
theorem dX10_restore_12 : decode cX10_restore 12 = .ok (.aload_n 0, 1) := by decide +kernel
theorem dX10_restore_13 : decode cX10_restore 13 = .ok (.getfield 19, 3) := by decide +kernel
theorem dX10_restore_16 : decode cX10_restore 16 = .ok (.iload_n 1, 1) := by decide +kernel
theorem dX10_restore_17 : decode cX10_restore 17 = .ok (.baload, 1) := by decide +kernel
theorem dX10_restore_18 : decode cX10_restore 18 = .ok (.ifCond .ne 6, 3) := by decide +kernel
theorem dX10_restore_21 : decode cX10_restore 21 = .ok (.bipush (-5), 2) := by decide +kernel
theorem dX10_restore_23 : decode cX10_restore 23 = .ok (.ireturn, 1) := by decide +kernel
theorem dX10_restore_24 : decode cX10_restore 24 = .ok (.aload_n 0, 1) := by decide +kernel
theorem dX10_restore_25 : decode cX10_restore 25 = .ok (.invokevirtual 45, 3) := by decide +kernel
theorem dX10_restore_28 : decode cX10_restore 28 = .ok (.iconst 0, 1) := by decide +kernel
theorem dX10_restore_29 : decode cX10_restore 29 = .ok (.istore_n 2, 1) := by decide +kernel
theorem dX10_restore_30 : decode cX10_restore 30 = .ok (.iload_n 2, 1) := by decide +kernel
theorem dX10_restore_31 : decode cX10_restore 31 = .ok (.bipush 113, 2) := by decide +kernel
theorem dX10_restore_33 : decode cX10_restore 33 = .ok (.if_icmp .ge 26, 3) := by decide +kernel
theorem dX10_restore_36 : decode cX10_restore 36 = .ok (.aload_n 0, 1) := by decide +kernel
theorem dX10_restore_37 : decode cX10_restore 37 = .ok (.getfield 7, 3) := by decide +kernel
theorem dX10_restore_40 : decode cX10_restore 40 = .ok (.iload_n 2, 1) := by decide +kernel
theorem dX10_restore_41 : decode cX10_restore 41 = .ok (.aload_n 0, 1) := by decide +kernel
theorem dX10_restore_42 : decode cX10_restore 42 = .ok (.getfield 16, 3) := by decide +kernel
theorem dX10_restore_45 : decode cX10_restore 45 = .ok (.iload_n 1, 1) := by decide +kernel
theorem dX10_restore_46 : decode cX10_restore 46 = .ok (.bipush 113, 2) := by decide +kernel
theorem dX10_restore_48 : decode cX10_restore 48 = .ok (.imul, 1) := by decide +kernel
theorem dX10_restore_49 : decode cX10_restore 49 = .ok (.iload_n 2, 1) := by decide +kernel
theorem dX10_restore_50 : decode cX10_restore 50 = .ok (.iadd, 1) := by decide +kernel
theorem dX10_restore_51 : decode cX10_restore 51 = .ok (.iaload, 1) := by decide +kernel
theorem dX10_restore_52 : decode cX10_restore 52 = .ok (.iastore, 1) := by decide +kernel
theorem dX10_restore_53 : decode cX10_restore 53 = .ok (.iinc 2 1, 3) := by decide +kernel
theorem dX10_restore_56 : decode cX10_restore 56 = .ok (.goto (-26), 3) := by decide +kernel
theorem dX10_restore_59 : decode cX10_restore 59 = .ok (.aload_n 0, 1) := by decide +kernel
theorem dX10_restore_60 : decode cX10_restore 60 = .ok (.getfield 7, 3) := by decide +kernel
theorem dX10_restore_63 : decode cX10_restore 63 = .ok (.bipush 50, 2) := by decide +kernel
theorem dX10_restore_65 : decode cX10_restore 65 = .ok (.iaload, 1) := by decide +kernel
theorem dX10_restore_66 : decode cX10_restore 66 = .ok (.ireturn, 1) := by decide +kernel
theorem dX10_putAside_0 : decode cX10_putAside 0 = .ok (.iconst 0, 1) := by decide +kernel
theorem dX10_putAside_1 : decode cX10_putAside 1 = .ok (.istore_n 1, 1) := by decide +kernel
theorem dX10_putAside_2 : decode cX10_putAside 2 = .ok (.iload_n 1, 1) := by decide +kernel
theorem dX10_putAside_3 : decode cX10_putAside 3 = .ok (.bipush 113, 2) := by decide +kernel
theorem dX10_putAside_5 : decode cX10_putAside 5 = .ok (.if_icmp .ge 21, 3) := by decide +kernel
theorem dX10_putAside_8 : decode cX10_putAside 8 = .ok (.aload_n 0, 1) := by decide +kernel
theorem dX10_putAside_9 : decode cX10_putAside 9 = .ok (.getfield 23, 3) := by decide +kernel
theorem dX10_putAside_12 : decode cX10_putAside 12 = .ok (.iload_n 1, 1) := by decide +kernel
theorem dX10_putAside_13 : decode cX10_putAside 13 = .ok (.aload_n 0, 1) := by decide +kernel
theorem dX10_putAside_14 : decode cX10_putAside 14 = .ok (.getfield 7, 3) := by decide +kernel
theorem dX10_putAside_17 : decode cX10_putAside 17 = .ok (.iload_n 1, 1) := by decide +kernel
theorem dX10_putAside_18 : decode cX10_putAside 18 = .ok (.iaload, 1) := by decide +kernel
theorem dX10_putAside_19 : decode cX10_putAside 19 = .ok (.iastore, 1) := by decide +kernel
theorem dX10_putAside_20 : decode cX10_putAside 20 = .ok (.iinc 1 1, 3) := by decide +kernel
theorem dX10_putAside_23 : decode cX10_putAside 23 = .ok (.goto (-21), 3) := by decide +kernel
theorem dX10_putAside_26 : decode cX10_putAside 26 = .ok (.return_, 1) := by decide +kernel
theorem dX10_bringBack_0 : decode cX10_bringBack 0 = .ok (.iconst 0, 1) := by decide +kernel
theorem dX10_bringBack_1 : decode cX10_bringBack 1 = .ok (.istore_n 1, 1) := by decide +kernel
theorem dX10_bringBack_2 : decode cX10_bringBack 2 = .ok (.iload_n 1, 1) := by decide +kernel
theorem dX10_bringBack_3 : decode cX10_bringBack 3 = .ok (.bipush 113, 2) := by decide +kernel
theorem dX10_bringBack_5 : decode cX10_bringBack 5 = .ok (.if_icmp .ge 21, 3) := by decide +kernel
theorem dX10_bringBack_8 : decode cX10_bringBack 8 = .ok (.aload_n 0, 1) := by decide +kernel
theorem dX10_bringBack_9 : decode cX10_bringBack 9 = .ok (.getfield 7, 3) := by decide +kernel
theorem dX10_bringBack_12 : decode cX10_bringBack 12 = .ok (.iload_n 1, 1) := by decide +kernel
theorem dX10_bringBack_13 : decode cX10_bringBack 13 = .ok (.aload_n 0, 1) := by decide +kernel
theorem dX10_bringBack_14 : decode cX10_bringBack 14 = .ok (.getfield 23, 3) := by decide +kernel
theorem dX10_bringBack_17 : decode cX10_bringBack 17 = .ok (.iload_n 1, 1) := by decide +kernel
theorem dX10_bringBack_18 : decode cX10_bringBack 18 = .ok (.iaload, 1) := by decide +kernel
theorem dX10_bringBack_19 : decode cX10_bringBack 19 = .ok (.iastore, 1) := by decide +kernel
theorem dX10_bringBack_20 : decode cX10_bringBack 20 = .ok (.iinc 1 1, 3) := by decide +kernel
theorem dX10_bringBack_23 : decode cX10_bringBack 23 = .ok (.goto (-21), 3) := by decide +kernel
theorem dX10_bringBack_26 : decode cX10_bringBack 26 = .ok (.return_, 1) := by decide +kernel
theorem dX10_tariff_0 : decode cX10_tariff 0 = .ok (.iload_n 1, 1) := by decide +kernel
theorem dX10_tariff_1 : decode cX10_tariff 1 = .ok (.invokestatic 48, 3) := by decide +kernel
theorem dX10_tariff_4 : decode cX10_tariff 4 = .ok (.ifCond .ne 5, 3) := by decide +kernel
theorem dX10_tariff_7 : decode cX10_tariff 7 = .ok (.iconst (-1), 1) := by decide +kernel
theorem dX10_tariff_8 : decode cX10_tariff 8 = .ok (.ireturn, 1) := by decide +kernel
theorem dX10_tariff_9 : decode cX10_tariff 9 = .ok (.iload_n 2, 1) := by decide +kernel
theorem dX10_tariff_10 : decode cX10_tariff 10 = .ok (.iconst 0, 1) := by decide +kernel
theorem dX10_tariff_11 : decode cX10_tariff 11 = .ok (.sipush 999, 3) := by decide +kernel
theorem dX10_tariff_14 : decode cX10_tariff 14 = .ok (.invokestatic 33, 3) := by decide +kernel
theorem dX10_tariff_17 : decode cX10_tariff 17 = .ok (.ifCond .eq 37, 3) := by decide +kernel
theorem dX10_tariff_20 : decode cX10_tariff 20 = .ok (.iload_n 3, 1) := by decide +kernel
theorem dX10_tariff_21 : decode cX10_tariff 21 = .ok (.iconst 1, 1) := by decide +kernel
theorem dX10_tariff_22 : decode cX10_tariff 22 = .ok (.bipush 99, 2) := by decide +kernel
theorem dX10_tariff_24 : decode cX10_tariff 24 = .ok (.invokestatic 33, 3) := by decide +kernel
theorem dX10_tariff_27 : decode cX10_tariff 27 = .ok (.ifCond .eq 27, 3) := by decide +kernel
theorem dX10_tariff_30 : decode cX10_tariff 30 = .ok (.iload 4, 2) := by decide +kernel
theorem dX10_tariff_32 : decode cX10_tariff 32 = .ok (.iconst 1, 1) := by decide +kernel
theorem dX10_tariff_33 : decode cX10_tariff 33 = .ok (.sipush 999, 3) := by decide +kernel
theorem dX10_tariff_36 : decode cX10_tariff 36 = .ok (.invokestatic 33, 3) := by decide +kernel
theorem dX10_tariff_39 : decode cX10_tariff 39 = .ok (.ifCond .eq 15, 3) := by decide +kernel
theorem dX10_tariff_42 : decode cX10_tariff 42 = .ok (.iload 5, 2) := by decide +kernel
theorem dX10_tariff_44 : decode cX10_tariff 44 = .ok (.iconst 1, 1) := by decide +kernel
theorem dX10_tariff_45 : decode cX10_tariff 45 = .ok (.sipush 999, 3) := by decide +kernel
theorem dX10_tariff_48 : decode cX10_tariff 48 = .ok (.invokestatic 33, 3) := by decide +kernel
theorem dX10_tariff_51 : decode cX10_tariff 51 = .ok (.ifCond .ne 6, 3) := by decide +kernel
theorem dX10_tariff_54 : decode cX10_tariff 54 = .ok (.bipush (-2), 2) := by decide +kernel
theorem dX10_tariff_56 : decode cX10_tariff 56 = .ok (.ireturn, 1) := by decide +kernel
theorem dX10_tariff_57 : decode cX10_tariff 57 = .ok (.aload_n 0, 1) := by decide +kernel
theorem dX10_tariff_58 : decode cX10_tariff 58 = .ok (.invokevirtual 45, 3) := by decide +kernel
theorem dX10_tariff_61 : decode cX10_tariff 61 = .ok (.aload_n 0, 1) := by decide +kernel
theorem dX10_tariff_62 : decode cX10_tariff 62 = .ok (.iload_n 1, 1) := by decide +kernel
theorem dX10_tariff_63 : decode cX10_tariff 63 = .ok (.iconst 1, 1) := by decide +kernel
theorem dX10_tariff_64 : decode cX10_tariff 64 = .ok (.invokevirtual 37, 3) := by decide +kernel
theorem dX10_tariff_67 : decode cX10_tariff 67 = .ok (.istore 6, 2) := by decide +kernel
theorem dX10_tariff_69 : decode cX10_tariff 69 = .ok (.aload_n 0, 1) := by decide +kernel
theorem dX10_tariff_70 : decode cX10_tariff 70 = .ok (.getfield 7, 3) := by decide +kernel
theorem dX10_tariff_73 : decode cX10_tariff 73 = .ok (.iconst 0, 1) := by decide +kernel
theorem dX10_tariff_74 : decode cX10_tariff 74 = .ok (.iconst 4, 1) := by decide +kernel
theorem dX10_tariff_75 : decode cX10_tariff 75 = .ok (.iload_n 1, 1) := by decide +kernel
theorem dX10_tariff_76 : decode cX10_tariff 76 = .ok (.imul, 1) := by decide +kernel
theorem dX10_tariff_77 : decode cX10_tariff 77 = .ok (.iadd, 1) := by decide +kernel
theorem dX10_tariff_78 : decode cX10_tariff 78 = .ok (.iload_n 2, 1) := by decide +kernel
theorem dX10_tariff_79 : decode cX10_tariff 79 = .ok (.iastore, 1) := by decide +kernel
theorem dX10_tariff_80 : decode cX10_tariff 80 = .ok (.aload_n 0, 1) := by decide +kernel
theorem dX10_tariff_81 : decode cX10_tariff 81 = .ok (.getfield 7, 3) := by decide +kernel
theorem dX10_tariff_84 : decode cX10_tariff 84 = .ok (.iconst 0, 1) := by decide +kernel
theorem dX10_tariff_85 : decode cX10_tariff 85 = .ok (.iconst 4, 1) := by decide +kernel
theorem dX10_tariff_86 : decode cX10_tariff 86 = .ok (.iload_n 1, 1) := by decide +kernel
theorem dX10_tariff_87 : decode cX10_tariff 87 = .ok (.imul, 1) := by decide +kernel
theorem dX10_tariff_88 : decode cX10_tariff 88 = .ok (.iadd, 1) := by decide +kernel
theorem dX10_tariff_89 : decode cX10_tariff 89 = .ok (.iconst 1, 1) := by decide +kernel
theorem dX10_tariff_90 : decode cX10_tariff 90 = .ok (.iadd, 1) := by decide +kernel
theorem dX10_tariff_91 : decode cX10_tariff 91 = .ok (.iload_n 3, 1) := by decide +kernel
theorem dX10_tariff_92 : decode cX10_tariff 92 = .ok (.iastore, 1) := by decide +kernel
theorem dX10_tariff_93 : decode cX10_tariff 93 = .ok (.aload_n 0, 1) := by decide +kernel
theorem dX10_tariff_94 : decode cX10_tariff 94 = .ok (.getfield 7, 3) := by decide +kernel
theorem dX10_tariff_97 : decode cX10_tariff 97 = .ok (.iconst 0, 1) := by decide +kernel
theorem dX10_tariff_98 : decode cX10_tariff 98 = .ok (.iconst 4, 1) := by decide +kernel
theorem dX10_tariff_99 : decode cX10_tariff 99 = .ok (.iload_n 1, 1) := by decide +kernel
theorem dX10_tariff_100 : decode cX10_tariff 100 = .ok (.imul, 1) := by decide +kernel
theorem dX10_tariff_101 : decode cX10_tariff 101 = .ok (.iadd, 1) := by decide +kernel
theorem dX10_tariff_102 : decode cX10_tariff 102 = .ok (.iconst 2, 1) := by decide +kernel
theorem dX10_tariff_103 : decode cX10_tariff 103 = .ok (.iadd, 1) := by decide +kernel
theorem dX10_tariff_104 : decode cX10_tariff 104 = .ok (.iload 4, 2) := by decide +kernel
theorem dX10_tariff_106 : decode cX10_tariff 106 = .ok (.iastore, 1) := by decide +kernel
theorem dX10_tariff_107 : decode cX10_tariff 107 = .ok (.aload_n 0, 1) := by decide +kernel
theorem dX10_tariff_108 : decode cX10_tariff 108 = .ok (.getfield 7, 3) := by decide +kernel
theorem dX10_tariff_111 : decode cX10_tariff 111 = .ok (.iconst 0, 1) := by decide +kernel
theorem dX10_tariff_112 : decode cX10_tariff 112 = .ok (.iconst 4, 1) := by decide +kernel
theorem dX10_tariff_113 : decode cX10_tariff 113 = .ok (.iload_n 1, 1) := by decide +kernel
theorem dX10_tariff_114 : decode cX10_tariff 114 = .ok (.imul, 1) := by decide +kernel
theorem dX10_tariff_115 : decode cX10_tariff 115 = .ok (.iadd, 1) := by decide +kernel
theorem dX10_tariff_116 : decode cX10_tariff 116 = .ok (.iconst 3, 1) := by decide +kernel
theorem dX10_tariff_117 : decode cX10_tariff 117 = .ok (.iadd, 1) := by decide +kernel
theorem dX10_tariff_118 : decode cX10_tariff 118 = .ok (.iload 5, 2) := by decide +kernel
theorem dX10_tariff_120 : decode cX10_tariff 120 = .ok (.iastore, 1) := by decide +kernel
theorem dX10_tariff_121 : decode cX10_tariff 121 = .ok (.iload 6, 2) := by decide +kernel
theorem dX10_tariff_123 : decode cX10_tariff 123 = .ok (.ireturn, 1) := by decide +kernel
theorem dX10_hour_0 : decode cX10_hour 0 = .ok (.iload_n 1, 1) := by decide +kernel
theorem dX10_hour_1 : decode cX10_hour 1 = .ok (.iconst 0, 1) := by decide +kernel
theorem dX10_hour_2 : decode cX10_hour 2 = .ok (.bipush 23, 2) := by decide +kernel
theorem dX10_hour_4 : decode cX10_hour 4 = .ok (.invokestatic 33, 3) := by decide +kernel
theorem dX10_hour_7 : decode cX10_hour 7 = .ok (.ifCond .eq 10, 3) := by decide +kernel
theorem dX10_hour_10 : decode cX10_hour 10 = .ok (.iload_n 2, 1) := by decide +kernel
theorem dX10_hour_11 : decode cX10_hour 11 = .ok (.invokestatic 48, 3) := by decide +kernel
theorem dX10_hour_14 : decode cX10_hour 14 = .ok (.ifCond .ne 5, 3) := by decide +kernel
theorem dX10_hour_17 : decode cX10_hour 17 = .ok (.iconst (-1), 1) := by decide +kernel
theorem dX10_hour_18 : decode cX10_hour 18 = .ok (.ireturn, 1) := by decide +kernel
theorem dX10_hour_19 : decode cX10_hour 19 = .ok (.aload_n 0, 1) := by decide +kernel
theorem dX10_hour_20 : decode cX10_hour 20 = .ok (.invokevirtual 45, 3) := by decide +kernel
theorem dX10_hour_23 : decode cX10_hour 23 = .ok (.aload_n 0, 1) := by decide +kernel
theorem dX10_hour_24 : decode cX10_hour 24 = .ok (.getfield 7, 3) := by decide +kernel
theorem dX10_hour_27 : decode cX10_hour 27 = .ok (.bipush 12, 2) := by decide +kernel
theorem dX10_hour_29 : decode cX10_hour 29 = .ok (.iload_n 1, 1) := by decide +kernel
theorem dX10_hour_30 : decode cX10_hour 30 = .ok (.iadd, 1) := by decide +kernel
theorem dX10_hour_31 : decode cX10_hour 31 = .ok (.iaload, 1) := by decide +kernel
theorem dX10_hour_32 : decode cX10_hour 32 = .ok (.istore_n 3, 1) := by decide +kernel
theorem dX10_hour_33 : decode cX10_hour 33 = .ok (.aload_n 0, 1) := by decide +kernel
theorem dX10_hour_34 : decode cX10_hour 34 = .ok (.getfield 7, 3) := by decide +kernel
theorem dX10_hour_37 : decode cX10_hour 37 = .ok (.bipush 12, 2) := by decide +kernel
theorem dX10_hour_39 : decode cX10_hour 39 = .ok (.iload_n 1, 1) := by decide +kernel
theorem dX10_hour_40 : decode cX10_hour 40 = .ok (.iadd, 1) := by decide +kernel
theorem dX10_hour_41 : decode cX10_hour 41 = .ok (.iload_n 2, 1) := by decide +kernel
theorem dX10_hour_42 : decode cX10_hour 42 = .ok (.iastore, 1) := by decide +kernel
theorem dX10_hour_43 : decode cX10_hour 43 = .ok (.iload_n 3, 1) := by decide +kernel
theorem dX10_hour_44 : decode cX10_hour 44 = .ok (.ireturn, 1) := by decide +kernel
theorem dX10_priceOfExtra_0 : decode cX10_priceOfExtra 0 = .ok (.iload_n 1, 1) := by decide +kernel
theorem dX10_priceOfExtra_1 : decode cX10_priceOfExtra 1 = .ok (.iconst 0, 1) := by decide +kernel
theorem dX10_priceOfExtra_2 : decode cX10_priceOfExtra 2 = .ok (.bipush 99, 2) := by decide +kernel
theorem dX10_priceOfExtra_4 : decode cX10_priceOfExtra 4 = .ok (.invokestatic 33, 3) := by decide +kernel
theorem dX10_priceOfExtra_7 : decode cX10_priceOfExtra 7 = .ok (.ifCond .ne 6, 3) := by decide +kernel
theorem dX10_priceOfExtra_10 : decode cX10_priceOfExtra 10 = .ok (.bipush (-2), 2) := by decide +kernel
theorem dX10_priceOfExtra_12 : decode cX10_priceOfExtra 12 = .ok (.ireturn, 1) := by decide +kernel
theorem dX10_priceOfExtra_13 : decode cX10_priceOfExtra 13 = .ok (.aload_n 0, 1) := by decide +kernel
theorem dX10_priceOfExtra_14 : decode cX10_priceOfExtra 14 = .ok (.invokevirtual 45, 3) := by decide +kernel
theorem dX10_priceOfExtra_17 : decode cX10_priceOfExtra 17 = .ok (.aload_n 0, 1) := by decide +kernel
theorem dX10_priceOfExtra_18 : decode cX10_priceOfExtra 18 = .ok (.getfield 7, 3) := by decide +kernel
theorem dX10_priceOfExtra_21 : decode cX10_priceOfExtra 21 = .ok (.bipush 36, 2) := by decide +kernel
theorem dX10_priceOfExtra_23 : decode cX10_priceOfExtra 23 = .ok (.iaload, 1) := by decide +kernel
theorem dX10_priceOfExtra_24 : decode cX10_priceOfExtra 24 = .ok (.istore_n 2, 1) := by decide +kernel
theorem dX10_priceOfExtra_25 : decode cX10_priceOfExtra 25 = .ok (.aload_n 0, 1) := by decide +kernel
theorem dX10_priceOfExtra_26 : decode cX10_priceOfExtra 26 = .ok (.getfield 7, 3) := by decide +kernel
theorem dX10_priceOfExtra_29 : decode cX10_priceOfExtra 29 = .ok (.bipush 36, 2) := by decide +kernel
theorem dX10_priceOfExtra_31 : decode cX10_priceOfExtra 31 = .ok (.iload_n 1, 1) := by decide +kernel
theorem dX10_priceOfExtra_32 : decode cX10_priceOfExtra 32 = .ok (.iastore, 1) := by decide +kernel
theorem dX10_priceOfExtra_33 : decode cX10_priceOfExtra 33 = .ok (.iload_n 2, 1) := by decide +kernel
theorem dX10_priceOfExtra_34 : decode cX10_priceOfExtra 34 = .ok (.ireturn, 1) := by decide +kernel
theorem dX10_hireIt_0 : decode cX10_hireIt 0 = .ok (.bipush 39, 2) := by decide +kernel
theorem dX10_hireIt_2 : decode cX10_hireIt 2 = .ok (.istore_n 1, 1) := by decide +kernel
theorem dX10_hireIt_3 : decode cX10_hireIt 3 = .ok (.iload_n 1, 1) := by decide +kernel
theorem dX10_hireIt_4 : decode cX10_hireIt 4 = .ok (.bipush 47, 2) := by decide +kernel
theorem dX10_hireIt_6 : decode cX10_hireIt 6 = .ok (.if_icmp .gt 16, 3) := by decide +kernel
theorem dX10_hireIt_9 : decode cX10_hireIt 9 = .ok (.aload_n 0, 1) := by decide +kernel
theorem dX10_hireIt_10 : decode cX10_hireIt 10 = .ok (.getfield 7, 3) := by decide +kernel
theorem dX10_hireIt_13 : decode cX10_hireIt 13 = .ok (.iload_n 1, 1) := by decide +kernel
theorem dX10_hireIt_14 : decode cX10_hireIt 14 = .ok (.iconst 0, 1) := by decide +kernel
theorem dX10_hireIt_15 : decode cX10_hireIt 15 = .ok (.iastore, 1) := by decide +kernel
theorem dX10_hireIt_16 : decode cX10_hireIt 16 = .ok (.iinc 1 1, 3) := by decide +kernel
theorem dX10_hireIt_19 : decode cX10_hireIt 19 = .ok (.goto (-16), 3) := by decide +kernel
theorem dX10_hireIt_22 : decode cX10_hireIt 22 = .ok (.aload_n 0, 1) := by decide +kernel
theorem dX10_hireIt_23 : decode cX10_hireIt 23 = .ok (.aload_n 0, 1) := by decide +kernel
theorem dX10_hireIt_24 : decode cX10_hireIt 24 = .ok (.getfield 7, 3) := by decide +kernel
theorem dX10_hireIt_27 : decode cX10_hireIt 27 = .ok (.bipush 37, 2) := by decide +kernel
theorem dX10_hireIt_29 : decode cX10_hireIt 29 = .ok (.iaload, 1) := by decide +kernel
theorem dX10_hireIt_30 : decode cX10_hireIt 30 = .ok (.invokevirtual 52, 3) := by decide +kernel
theorem dX10_hireIt_33 : decode cX10_hireIt 33 = .ok (.istore_n 1, 1) := by decide +kernel
theorem dX10_hireIt_34 : decode cX10_hireIt 34 = .ok (.aload_n 0, 1) := by decide +kernel
theorem dX10_hireIt_35 : decode cX10_hireIt 35 = .ok (.getfield 7, 3) := by decide +kernel
theorem dX10_hireIt_38 : decode cX10_hireIt 38 = .ok (.bipush 38, 2) := by decide +kernel
theorem dX10_hireIt_40 : decode cX10_hireIt 40 = .ok (.iconst 1, 1) := by decide +kernel
theorem dX10_hireIt_41 : decode cX10_hireIt 41 = .ok (.iastore, 1) := by decide +kernel
theorem dX10_hireIt_42 : decode cX10_hireIt 42 = .ok (.aload_n 0, 1) := by decide +kernel
theorem dX10_hireIt_43 : decode cX10_hireIt 43 = .ok (.getfield 7, 3) := by decide +kernel
theorem dX10_hireIt_46 : decode cX10_hireIt 46 = .ok (.bipush 39, 2) := by decide +kernel
theorem dX10_hireIt_48 : decode cX10_hireIt 48 = .ok (.aload_n 0, 1) := by decide +kernel
theorem dX10_hireIt_49 : decode cX10_hireIt 49 = .ok (.iload_n 1, 1) := by decide +kernel
theorem dX10_hireIt_50 : decode cX10_hireIt 50 = .ok (.iconst 0, 1) := by decide +kernel
theorem dX10_hireIt_51 : decode cX10_hireIt 51 = .ok (.invokevirtual 37, 3) := by decide +kernel
theorem dX10_hireIt_54 : decode cX10_hireIt 54 = .ok (.iastore, 1) := by decide +kernel
theorem dX10_hireIt_55 : decode cX10_hireIt 55 = .ok (.aload_n 0, 1) := by decide +kernel
theorem dX10_hireIt_56 : decode cX10_hireIt 56 = .ok (.getfield 7, 3) := by decide +kernel
theorem dX10_hireIt_59 : decode cX10_hireIt 59 = .ok (.bipush 48, 2) := by decide +kernel
theorem dX10_hireIt_61 : decode cX10_hireIt 61 = .ok (.aload_n 0, 1) := by decide +kernel
theorem dX10_hireIt_62 : decode cX10_hireIt 62 = .ok (.iload_n 1, 1) := by decide +kernel
theorem dX10_hireIt_63 : decode cX10_hireIt 63 = .ok (.invokevirtual 56, 3) := by decide +kernel
theorem dX10_hireIt_66 : decode cX10_hireIt 66 = .ok (.iastore, 1) := by decide +kernel
theorem dX10_hireIt_67 : decode cX10_hireIt 67 = .ok (.aload_n 0, 1) := by decide +kernel
theorem dX10_hireIt_68 : decode cX10_hireIt 68 = .ok (.getfield 7, 3) := by decide +kernel
theorem dX10_hireIt_71 : decode cX10_hireIt 71 = .ok (.bipush 49, 2) := by decide +kernel
theorem dX10_hireIt_73 : decode cX10_hireIt 73 = .ok (.aload_n 0, 1) := by decide +kernel
theorem dX10_hireIt_74 : decode cX10_hireIt 74 = .ok (.getfield 7, 3) := by decide +kernel
theorem dX10_hireIt_77 : decode cX10_hireIt 77 = .ok (.bipush 37, 2) := by decide +kernel
theorem dX10_hireIt_79 : decode cX10_hireIt 79 = .ok (.iaload, 1) := by decide +kernel
theorem dX10_hireIt_80 : decode cX10_hireIt 80 = .ok (.iastore, 1) := by decide +kernel
theorem dX10_hireIt_81 : decode cX10_hireIt 81 = .ok (.iload_n 1, 1) := by decide +kernel
theorem dX10_hireIt_82 : decode cX10_hireIt 82 = .ok (.ireturn, 1) := by decide +kernel
theorem dX10_hire_0 : decode cX10_hire 0 = .ok (.aload_n 0, 1) := by decide +kernel
theorem dX10_hire_1 : decode cX10_hire 1 = .ok (.getfield 7, 3) := by decide +kernel
theorem dX10_hire_4 : decode cX10_hire 4 = .ok (.bipush 38, 2) := by decide +kernel
theorem dX10_hire_6 : decode cX10_hire 6 = .ok (.iaload, 1) := by decide +kernel
theorem dX10_hire_7 : decode cX10_hire 7 = .ok (.ifCond .eq 6, 3) := by decide +kernel
theorem dX10_hire_10 : decode cX10_hire 10 = .ok (.bipush (-5), 2) := by decide +kernel
theorem dX10_hire_12 : decode cX10_hire 12 = .ok (.ireturn, 1) := by decide +kernel
theorem dX10_hire_13 : decode cX10_hire 13 = .ok (.aload_n 0, 1) := by decide +kernel
theorem dX10_hire_14 : decode cX10_hire 14 = .ok (.invokevirtual 45, 3) := by decide +kernel
theorem dX10_hire_17 : decode cX10_hire 17 = .ok (.aload_n 0, 1) := by decide +kernel
theorem dX10_hire_18 : decode cX10_hire 18 = .ok (.invokevirtual 59, 3) := by decide +kernel
theorem dX10_hire_21 : decode cX10_hire 21 = .ok (.ireturn, 1) := by decide +kernel
theorem dX10_carry_0 : decode cX10_carry 0 = .ok (.iload_n 1, 1) := by decide +kernel
theorem dX10_carry_1 : decode cX10_carry 1 = .ok (.aload_n 0, 1) := by decide +kernel
theorem dX10_carry_2 : decode cX10_carry 2 = .ok (.getfield 7, 3) := by decide +kernel
theorem dX10_carry_5 : decode cX10_carry 5 = .ok (.bipush 48, 2) := by decide +kernel
theorem dX10_carry_7 : decode cX10_carry 7 = .ok (.iaload, 1) := by decide +kernel
theorem dX10_carry_8 : decode cX10_carry 8 = .ok (.if_icmp .eq 39, 3) := by decide +kernel
theorem dX10_carry_11 : decode cX10_carry 11 = .ok (.aload_n 0, 1) := by decide +kernel
theorem dX10_carry_12 : decode cX10_carry 12 = .ok (.getfield 7, 3) := by decide +kernel
theorem dX10_carry_15 : decode cX10_carry 15 = .ok (.bipush 47, 2) := by decide +kernel
theorem dX10_carry_17 : decode cX10_carry 17 = .ok (.aload_n 0, 1) := by decide +kernel
theorem dX10_carry_18 : decode cX10_carry 18 = .ok (.getfield 7, 3) := by decide +kernel
theorem dX10_carry_21 : decode cX10_carry 21 = .ok (.bipush 47, 2) := by decide +kernel
theorem dX10_carry_23 : decode cX10_carry 23 = .ok (.iaload, 1) := by decide +kernel
theorem dX10_carry_24 : decode cX10_carry 24 = .ok (.i2l, 1) := by decide +kernel
theorem dX10_carry_25 : decode cX10_carry 25 = .ok (.iload_n 1, 1) := by decide +kernel
theorem dX10_carry_26 : decode cX10_carry 26 = .ok (.i2l, 1) := by decide +kernel
theorem dX10_carry_27 : decode cX10_carry 27 = .ok (.lmul, 1) := by decide +kernel
theorem dX10_carry_28 : decode cX10_carry 28 = .ok (.aload_n 0, 1) := by decide +kernel
theorem dX10_carry_29 : decode cX10_carry 29 = .ok (.getfield 7, 3) := by decide +kernel
theorem dX10_carry_32 : decode cX10_carry 32 = .ok (.bipush 48, 2) := by decide +kernel
theorem dX10_carry_34 : decode cX10_carry 34 = .ok (.iaload, 1) := by decide +kernel
theorem dX10_carry_35 : decode cX10_carry 35 = .ok (.i2l, 1) := by decide +kernel
theorem dX10_carry_36 : decode cX10_carry 36 = .ok (.ldiv, 1) := by decide +kernel
theorem dX10_carry_37 : decode cX10_carry 37 = .ok (.l2i, 1) := by decide +kernel
theorem dX10_carry_38 : decode cX10_carry 38 = .ok (.iastore, 1) := by decide +kernel
theorem dX10_carry_39 : decode cX10_carry 39 = .ok (.aload_n 0, 1) := by decide +kernel
theorem dX10_carry_40 : decode cX10_carry 40 = .ok (.getfield 7, 3) := by decide +kernel
theorem dX10_carry_43 : decode cX10_carry 43 = .ok (.bipush 48, 2) := by decide +kernel
theorem dX10_carry_45 : decode cX10_carry 45 = .ok (.iload_n 1, 1) := by decide +kernel
theorem dX10_carry_46 : decode cX10_carry 46 = .ok (.iastore, 1) := by decide +kernel
theorem dX10_carry_47 : decode cX10_carry 47 = .ok (.return_, 1) := by decide +kernel
theorem dX10_driveSecond_0 : decode cX10_driveSecond 0 = .ok (.aload_n 0, 1) := by decide +kernel
theorem dX10_driveSecond_1 : decode cX10_driveSecond 1 = .ok (.aload_n 0, 1) := by decide +kernel
theorem dX10_driveSecond_2 : decode cX10_driveSecond 2 = .ok (.getfield 7, 3) := by decide +kernel
theorem dX10_driveSecond_5 : decode cX10_driveSecond 5 = .ok (.bipush 37, 2) := by decide +kernel
theorem dX10_driveSecond_7 : decode cX10_driveSecond 7 = .ok (.iaload, 1) := by decide +kernel
theorem dX10_driveSecond_8 : decode cX10_driveSecond 8 = .ok (.invokevirtual 52, 3) := by decide +kernel
theorem dX10_driveSecond_11 : decode cX10_driveSecond 11 = .ok (.istore_n 2, 1) := by decide +kernel
theorem dX10_driveSecond_12 : decode cX10_driveSecond 12 = .ok (.aload_n 0, 1) := by decide +kernel
theorem dX10_driveSecond_13 : decode cX10_driveSecond 13 = .ok (.aload_n 0, 1) := by decide +kernel
theorem dX10_driveSecond_14 : decode cX10_driveSecond 14 = .ok (.iload_n 2, 1) := by decide +kernel
theorem dX10_driveSecond_15 : decode cX10_driveSecond 15 = .ok (.invokevirtual 56, 3) := by decide +kernel
theorem dX10_driveSecond_18 : decode cX10_driveSecond 18 = .ok (.invokevirtual 63, 3) := by decide +kernel
theorem dX10_driveSecond_21 : decode cX10_driveSecond 21 = .ok (.iload_n 1, 1) := by decide +kernel
theorem dX10_driveSecond_22 : decode cX10_driveSecond 22 = .ok (.aload_n 0, 1) := by decide +kernel
theorem dX10_driveSecond_23 : decode cX10_driveSecond 23 = .ok (.iload_n 2, 1) := by decide +kernel
theorem dX10_driveSecond_24 : decode cX10_driveSecond 24 = .ok (.iconst 3, 1) := by decide +kernel
theorem dX10_driveSecond_25 : decode cX10_driveSecond 25 = .ok (.invokevirtual 37, 3) := by decide +kernel
theorem dX10_driveSecond_28 : decode cX10_driveSecond 28 = .ok (.imul, 1) := by decide +kernel
theorem dX10_driveSecond_29 : decode cX10_driveSecond 29 = .ok (.istore_n 3, 1) := by decide +kernel
theorem dX10_driveSecond_30 : decode cX10_driveSecond 30 = .ok (.iload_n 3, 1) := by decide +kernel
theorem dX10_driveSecond_31 : decode cX10_driveSecond 31 = .ok (.aload_n 0, 1) := by decide +kernel
theorem dX10_driveSecond_32 : decode cX10_driveSecond 32 = .ok (.iload_n 2, 1) := by decide +kernel
theorem dX10_driveSecond_33 : decode cX10_driveSecond 33 = .ok (.iconst 2, 1) := by decide +kernel
theorem dX10_driveSecond_34 : decode cX10_driveSecond 34 = .ok (.invokevirtual 37, 3) := by decide +kernel
theorem dX10_driveSecond_37 : decode cX10_driveSecond 37 = .ok (.if_icmp .lt 7, 3) := by decide +kernel
theorem dX10_driveSecond_40 : decode cX10_driveSecond 40 = .ok (.iconst 1, 1) := by decide +kernel
theorem dX10_driveSecond_41 : decode cX10_driveSecond 41 = .ok (.goto 4, 3) := by decide +kernel
theorem dX10_driveSecond_44 : decode cX10_driveSecond 44 = .ok (.iconst 0, 1) := by decide +kernel
theorem dX10_driveSecond_45 : decode cX10_driveSecond 45 = .ok (.istore 4, 2) := by decide +kernel
theorem dX10_driveSecond_47 : decode cX10_driveSecond 47 = .ok (.aload_n 0, 1) := by decide +kernel
theorem dX10_driveSecond_48 : decode cX10_driveSecond 48 = .ok (.getfield 7, 3) := by decide +kernel
theorem dX10_driveSecond_51 : decode cX10_driveSecond 51 = .ok (.bipush 47, 2) := by decide +kernel
theorem dX10_driveSecond_53 : decode cX10_driveSecond 53 = .ok (.dup2, 1) := by decide +kernel
theorem dX10_driveSecond_54 : decode cX10_driveSecond 54 = .ok (.iaload, 1) := by decide +kernel
theorem dX10_driveSecond_55 : decode cX10_driveSecond 55 = .ok (.iload 4, 2) := by decide +kernel
theorem dX10_driveSecond_57 : decode cX10_driveSecond 57 = .ok (.ifCond .eq 7, 3) := by decide +kernel
theorem dX10_driveSecond_60 : decode cX10_driveSecond 60 = .ok (.iload_n 3, 1) := by decide +kernel
theorem dX10_driveSecond_61 : decode cX10_driveSecond 61 = .ok (.goto 9, 3) := by decide +kernel
theorem dX10_driveSecond_64 : decode cX10_driveSecond 64 = .ok (.aload_n 0, 1) := by decide +kernel
theorem dX10_driveSecond_65 : decode cX10_driveSecond 65 = .ok (.iload_n 2, 1) := by decide +kernel
theorem dX10_driveSecond_66 : decode cX10_driveSecond 66 = .ok (.iconst 2, 1) := by decide +kernel
theorem dX10_driveSecond_67 : decode cX10_driveSecond 67 = .ok (.invokevirtual 37, 3) := by decide +kernel
theorem dX10_driveSecond_70 : decode cX10_driveSecond 70 = .ok (.iadd, 1) := by decide +kernel
theorem dX10_driveSecond_71 : decode cX10_driveSecond 71 = .ok (.iastore, 1) := by decide +kernel
theorem dX10_driveSecond_72 : decode cX10_driveSecond 72 = .ok (.aload_n 0, 1) := by decide +kernel
theorem dX10_driveSecond_73 : decode cX10_driveSecond 73 = .ok (.getfield 7, 3) := by decide +kernel
theorem dX10_driveSecond_76 : decode cX10_driveSecond 76 = .ok (.bipush 47, 2) := by decide +kernel
theorem dX10_driveSecond_78 : decode cX10_driveSecond 78 = .ok (.iaload, 1) := by decide +kernel
theorem dX10_driveSecond_79 : decode cX10_driveSecond 79 = .ok (.aload_n 0, 1) := by decide +kernel
theorem dX10_driveSecond_80 : decode cX10_driveSecond 80 = .ok (.getfield 7, 3) := by decide +kernel
theorem dX10_driveSecond_83 : decode cX10_driveSecond 83 = .ok (.bipush 48, 2) := by decide +kernel
theorem dX10_driveSecond_85 : decode cX10_driveSecond 85 = .ok (.iaload, 1) := by decide +kernel
theorem dX10_driveSecond_86 : decode cX10_driveSecond 86 = .ok (.idiv, 1) := by decide +kernel
theorem dX10_driveSecond_87 : decode cX10_driveSecond 87 = .ok (.istore 5, 2) := by decide +kernel
theorem dX10_driveSecond_89 : decode cX10_driveSecond 89 = .ok (.aload_n 0, 1) := by decide +kernel
theorem dX10_driveSecond_90 : decode cX10_driveSecond 90 = .ok (.getfield 7, 3) := by decide +kernel
theorem dX10_driveSecond_93 : decode cX10_driveSecond 93 = .ok (.bipush 47, 2) := by decide +kernel
theorem dX10_driveSecond_95 : decode cX10_driveSecond 95 = .ok (.dup2, 1) := by decide +kernel
theorem dX10_driveSecond_96 : decode cX10_driveSecond 96 = .ok (.iaload, 1) := by decide +kernel
theorem dX10_driveSecond_97 : decode cX10_driveSecond 97 = .ok (.iload 5, 2) := by decide +kernel
theorem dX10_driveSecond_99 : decode cX10_driveSecond 99 = .ok (.aload_n 0, 1) := by decide +kernel
theorem dX10_driveSecond_100 : decode cX10_driveSecond 100 = .ok (.getfield 7, 3) := by decide +kernel
theorem dX10_driveSecond_103 : decode cX10_driveSecond 103 = .ok (.bipush 48, 2) := by decide +kernel
theorem dX10_driveSecond_105 : decode cX10_driveSecond 105 = .ok (.iaload, 1) := by decide +kernel
theorem dX10_driveSecond_106 : decode cX10_driveSecond 106 = .ok (.imul, 1) := by decide +kernel
theorem dX10_driveSecond_107 : decode cX10_driveSecond 107 = .ok (.isub, 1) := by decide +kernel
theorem dX10_driveSecond_108 : decode cX10_driveSecond 108 = .ok (.iastore, 1) := by decide +kernel
theorem dX10_driveSecond_109 : decode cX10_driveSecond 109 = .ok (.aload_n 0, 1) := by decide +kernel
theorem dX10_driveSecond_110 : decode cX10_driveSecond 110 = .ok (.getfield 7, 3) := by decide +kernel
theorem dX10_driveSecond_113 : decode cX10_driveSecond 113 = .ok (.bipush 39, 2) := by decide +kernel
theorem dX10_driveSecond_115 : decode cX10_driveSecond 115 = .ok (.iaload, 1) := by decide +kernel
theorem dX10_driveSecond_116 : decode cX10_driveSecond 116 = .ok (.iload 5, 2) := by decide +kernel
theorem dX10_driveSecond_118 : decode cX10_driveSecond 118 = .ok (.aload_n 0, 1) := by decide +kernel
theorem dX10_driveSecond_119 : decode cX10_driveSecond 119 = .ok (.iload_n 2, 1) := by decide +kernel
theorem dX10_driveSecond_120 : decode cX10_driveSecond 120 = .ok (.iconst 1, 1) := by decide +kernel
theorem dX10_driveSecond_121 : decode cX10_driveSecond 121 = .ok (.invokevirtual 37, 3) := by decide +kernel
theorem dX10_driveSecond_124 : decode cX10_driveSecond 124 = .ok (.imul, 1) := by decide +kernel
theorem dX10_driveSecond_125 : decode cX10_driveSecond 125 = .ok (.iadd, 1) := by decide +kernel
theorem dX10_driveSecond_126 : decode cX10_driveSecond 126 = .ok (.istore 6, 2) := by decide +kernel
theorem dX10_driveSecond_128 : decode cX10_driveSecond 128 = .ok (.aload_n 0, 1) := by decide +kernel
theorem dX10_driveSecond_129 : decode cX10_driveSecond 129 = .ok (.getfield 7, 3) := by decide +kernel
theorem dX10_driveSecond_132 : decode cX10_driveSecond 132 = .ok (.bipush 39, 2) := by decide +kernel
theorem dX10_driveSecond_134 : decode cX10_driveSecond 134 = .ok (.iload 6, 2) := by decide +kernel
theorem dX10_driveSecond_136 : decode cX10_driveSecond 136 = .ok (.ldc 67, 2) := by decide +kernel
theorem dX10_driveSecond_138 : decode cX10_driveSecond 138 = .ok (.if_icmp .ge 8, 3) := by decide +kernel
theorem dX10_driveSecond_141 : decode cX10_driveSecond 141 = .ok (.iload 6, 2) := by decide +kernel
theorem dX10_driveSecond_143 : decode cX10_driveSecond 143 = .ok (.goto 5, 3) := by decide +kernel
theorem dX10_driveSecond_146 : decode cX10_driveSecond 146 = .ok (.ldc 67, 2) := by decide +kernel
theorem dX10_driveSecond_148 : decode cX10_driveSecond 148 = .ok (.iastore, 1) := by decide +kernel
theorem dX10_driveSecond_149 : decode cX10_driveSecond 149 = .ok (.aload_n 0, 1) := by decide +kernel
theorem dX10_driveSecond_150 : decode cX10_driveSecond 150 = .ok (.getfield 7, 3) := by decide +kernel
theorem dX10_driveSecond_153 : decode cX10_driveSecond 153 = .ok (.iload 4, 2) := by decide +kernel
theorem dX10_driveSecond_155 : decode cX10_driveSecond 155 = .ok (.ifCond .eq 8, 3) := by decide +kernel
theorem dX10_driveSecond_158 : decode cX10_driveSecond 158 = .ok (.bipush 44, 2) := by decide +kernel
theorem dX10_driveSecond_160 : decode cX10_driveSecond 160 = .ok (.goto 5, 3) := by decide +kernel
theorem dX10_driveSecond_163 : decode cX10_driveSecond 163 = .ok (.bipush 45, 2) := by decide +kernel
theorem dX10_driveSecond_165 : decode cX10_driveSecond 165 = .ok (.dup2, 1) := by decide +kernel
theorem dX10_driveSecond_166 : decode cX10_driveSecond 166 = .ok (.iaload, 1) := by decide +kernel
theorem dX10_driveSecond_167 : decode cX10_driveSecond 167 = .ok (.iload 5, 2) := by decide +kernel
theorem dX10_driveSecond_169 : decode cX10_driveSecond 169 = .ok (.iadd, 1) := by decide +kernel
theorem dX10_driveSecond_170 : decode cX10_driveSecond 170 = .ok (.iastore, 1) := by decide +kernel
theorem dX10_driveSecond_171 : decode cX10_driveSecond 171 = .ok (.aload_n 0, 1) := by decide +kernel
theorem dX10_driveSecond_172 : decode cX10_driveSecond 172 = .ok (.getfield 7, 3) := by decide +kernel
theorem dX10_driveSecond_175 : decode cX10_driveSecond 175 = .ok (.bipush 37, 2) := by decide +kernel
theorem dX10_driveSecond_177 : decode cX10_driveSecond 177 = .ok (.aload_n 0, 1) := by decide +kernel
theorem dX10_driveSecond_178 : decode cX10_driveSecond 178 = .ok (.getfield 7, 3) := by decide +kernel
theorem dX10_driveSecond_181 : decode cX10_driveSecond 181 = .ok (.bipush 37, 2) := by decide +kernel
theorem dX10_driveSecond_183 : decode cX10_driveSecond 183 = .ok (.iaload, 1) := by decide +kernel
theorem dX10_driveSecond_184 : decode cX10_driveSecond 184 = .ok (.iconst 1, 1) := by decide +kernel
theorem dX10_driveSecond_185 : decode cX10_driveSecond 185 = .ok (.iadd, 1) := by decide +kernel
theorem dX10_driveSecond_186 : decode cX10_driveSecond 186 = .ok (.ldc 68, 2) := by decide +kernel
theorem dX10_driveSecond_188 : decode cX10_driveSecond 188 = .ok (.irem, 1) := by decide +kernel
theorem dX10_driveSecond_189 : decode cX10_driveSecond 189 = .ok (.iastore, 1) := by decide +kernel
theorem dX10_driveSecond_190 : decode cX10_driveSecond 190 = .ok (.iload 5, 2) := by decide +kernel
theorem dX10_driveSecond_192 : decode cX10_driveSecond 192 = .ok (.ireturn, 1) := by decide +kernel
theorem dX10_driveIt_0 : decode cX10_driveIt 0 = .ok (.iconst 0, 1) := by decide +kernel
theorem dX10_driveIt_1 : decode cX10_driveIt 1 = .ok (.istore_n 3, 1) := by decide +kernel
theorem dX10_driveIt_2 : decode cX10_driveIt 2 = .ok (.iconst 0, 1) := by decide +kernel
theorem dX10_driveIt_3 : decode cX10_driveIt 3 = .ok (.istore 4, 2) := by decide +kernel
theorem dX10_driveIt_5 : decode cX10_driveIt 5 = .ok (.iconst 1, 1) := by decide +kernel
theorem dX10_driveIt_6 : decode cX10_driveIt 6 = .ok (.istore 5, 2) := by decide +kernel
theorem dX10_driveIt_8 : decode cX10_driveIt 8 = .ok (.iload 5, 2) := by decide +kernel
theorem dX10_driveIt_10 : decode cX10_driveIt 10 = .ok (.iload_n 2, 1) := by decide +kernel
theorem dX10_driveIt_11 : decode cX10_driveIt 11 = .ok (.if_icmp .gt 33, 3) := by decide +kernel
theorem dX10_driveIt_14 : decode cX10_driveIt 14 = .ok (.iload_n 1, 1) := by decide +kernel
theorem dX10_driveIt_15 : decode cX10_driveIt 15 = .ok (.iload 5, 2) := by decide +kernel
theorem dX10_driveIt_17 : decode cX10_driveIt 17 = .ok (.imul, 1) := by decide +kernel
theorem dX10_driveIt_18 : decode cX10_driveIt 18 = .ok (.iload_n 2, 1) := by decide +kernel
theorem dX10_driveIt_19 : decode cX10_driveIt 19 = .ok (.idiv, 1) := by decide +kernel
theorem dX10_driveIt_20 : decode cX10_driveIt 20 = .ok (.istore 6, 2) := by decide +kernel
theorem dX10_driveIt_22 : decode cX10_driveIt 22 = .ok (.iload_n 3, 1) := by decide +kernel
theorem dX10_driveIt_23 : decode cX10_driveIt 23 = .ok (.aload_n 0, 1) := by decide +kernel
theorem dX10_driveIt_24 : decode cX10_driveIt 24 = .ok (.iload 6, 2) := by decide +kernel
theorem dX10_driveIt_26 : decode cX10_driveIt 26 = .ok (.iload 4, 2) := by decide +kernel
theorem dX10_driveIt_28 : decode cX10_driveIt 28 = .ok (.isub, 1) := by decide +kernel
theorem dX10_driveIt_29 : decode cX10_driveIt 29 = .ok (.invokevirtual 69, 3) := by decide +kernel
theorem dX10_driveIt_32 : decode cX10_driveIt 32 = .ok (.iadd, 1) := by decide +kernel
theorem dX10_driveIt_33 : decode cX10_driveIt 33 = .ok (.istore_n 3, 1) := by decide +kernel
theorem dX10_driveIt_34 : decode cX10_driveIt 34 = .ok (.iload 6, 2) := by decide +kernel
theorem dX10_driveIt_36 : decode cX10_driveIt 36 = .ok (.istore 4, 2) := by decide +kernel
theorem dX10_driveIt_38 : decode cX10_driveIt 38 = .ok (.iinc 5 1, 3) := by decide +kernel
theorem dX10_driveIt_41 : decode cX10_driveIt 41 = .ok (.goto (-33), 3) := by decide +kernel
theorem dX10_driveIt_44 : decode cX10_driveIt 44 = .ok (.aload_n 0, 1) := by decide +kernel
theorem dX10_driveIt_45 : decode cX10_driveIt 45 = .ok (.getfield 7, 3) := by decide +kernel
theorem dX10_driveIt_48 : decode cX10_driveIt 48 = .ok (.bipush 41, 2) := by decide +kernel
theorem dX10_driveIt_50 : decode cX10_driveIt 50 = .ok (.dup2, 1) := by decide +kernel
theorem dX10_driveIt_51 : decode cX10_driveIt 51 = .ok (.iaload, 1) := by decide +kernel
theorem dX10_driveIt_52 : decode cX10_driveIt 52 = .ok (.iload_n 1, 1) := by decide +kernel
theorem dX10_driveIt_53 : decode cX10_driveIt 53 = .ok (.iadd, 1) := by decide +kernel
theorem dX10_driveIt_54 : decode cX10_driveIt 54 = .ok (.iastore, 1) := by decide +kernel
theorem dX10_driveIt_55 : decode cX10_driveIt 55 = .ok (.aload_n 0, 1) := by decide +kernel
theorem dX10_driveIt_56 : decode cX10_driveIt 56 = .ok (.getfield 7, 3) := by decide +kernel
theorem dX10_driveIt_59 : decode cX10_driveIt 59 = .ok (.bipush 42, 2) := by decide +kernel
theorem dX10_driveIt_61 : decode cX10_driveIt 61 = .ok (.dup2, 1) := by decide +kernel
theorem dX10_driveIt_62 : decode cX10_driveIt 62 = .ok (.iaload, 1) := by decide +kernel
theorem dX10_driveIt_63 : decode cX10_driveIt 63 = .ok (.iload_n 2, 1) := by decide +kernel
theorem dX10_driveIt_64 : decode cX10_driveIt 64 = .ok (.iadd, 1) := by decide +kernel
theorem dX10_driveIt_65 : decode cX10_driveIt 65 = .ok (.iastore, 1) := by decide +kernel
theorem dX10_driveIt_66 : decode cX10_driveIt 66 = .ok (.iload_n 3, 1) := by decide +kernel
theorem dX10_driveIt_67 : decode cX10_driveIt 67 = .ok (.ireturn, 1) := by decide +kernel
theorem dX10_isDrive_0 : decode cX10_isDrive 0 = .ok (.iload_n 0, 1) := by decide +kernel
theorem dX10_isDrive_1 : decode cX10_isDrive 1 = .ok (.iconst 0, 1) := by decide +kernel
theorem dX10_isDrive_2 : decode cX10_isDrive 2 = .ok (.sipush 9999, 3) := by decide +kernel
theorem dX10_isDrive_5 : decode cX10_isDrive 5 = .ok (.invokestatic 33, 3) := by decide +kernel
theorem dX10_isDrive_8 : decode cX10_isDrive 8 = .ok (.ifCond .eq 18, 3) := by decide +kernel
theorem dX10_isDrive_11 : decode cX10_isDrive 11 = .ok (.iload_n 1, 1) := by decide +kernel
theorem dX10_isDrive_12 : decode cX10_isDrive 12 = .ok (.iconst 1, 1) := by decide +kernel
theorem dX10_isDrive_13 : decode cX10_isDrive 13 = .ok (.sipush 9999, 3) := by decide +kernel
theorem dX10_isDrive_16 : decode cX10_isDrive 16 = .ok (.invokestatic 33, 3) := by decide +kernel
theorem dX10_isDrive_19 : decode cX10_isDrive 19 = .ok (.ifCond .eq 7, 3) := by decide +kernel
theorem dX10_isDrive_22 : decode cX10_isDrive 22 = .ok (.iconst 1, 1) := by decide +kernel
theorem dX10_isDrive_23 : decode cX10_isDrive 23 = .ok (.goto 4, 3) := by decide +kernel
theorem dX10_isDrive_26 : decode cX10_isDrive 26 = .ok (.iconst 0, 1) := by decide +kernel
theorem dX10_isDrive_27 : decode cX10_isDrive 27 = .ok (.ireturn, 1) := by decide +kernel
theorem dX10_whyNotDrive_0 : decode cX10_whyNotDrive 0 = .ok (.iload_n 1, 1) := by decide +kernel
theorem dX10_whyNotDrive_1 : decode cX10_whyNotDrive 1 = .ok (.iload_n 2, 1) := by decide +kernel
theorem dX10_whyNotDrive_2 : decode cX10_whyNotDrive 2 = .ok (.invokestatic 72, 3) := by decide +kernel
theorem dX10_whyNotDrive_5 : decode cX10_whyNotDrive 5 = .ok (.ifCond .ne 8, 3) := by decide +kernel
theorem dX10_whyNotDrive_8 : decode cX10_whyNotDrive 8 = .ok (.bipush (-2), 2) := by decide +kernel
theorem dX10_whyNotDrive_10 : decode cX10_whyNotDrive 10 = .ok (.goto 20, 3) := by decide +kernel
theorem dX10_whyNotDrive_13 : decode cX10_whyNotDrive 13 = .ok (.aload_n 0, 1) := by decide +kernel
theorem dX10_whyNotDrive_14 : decode cX10_whyNotDrive 14 = .ok (.getfield 7, 3) := by decide +kernel
theorem dX10_whyNotDrive_17 : decode cX10_whyNotDrive 17 = .ok (.bipush 38, 2) := by decide +kernel
theorem dX10_whyNotDrive_19 : decode cX10_whyNotDrive 19 = .ok (.iaload, 1) := by decide +kernel
theorem dX10_whyNotDrive_20 : decode cX10_whyNotDrive 20 = .ok (.iconst 1, 1) := by decide +kernel
theorem dX10_whyNotDrive_21 : decode cX10_whyNotDrive 21 = .ok (.if_icmp .eq 8, 3) := by decide +kernel
theorem dX10_whyNotDrive_24 : decode cX10_whyNotDrive 24 = .ok (.bipush (-5), 2) := by decide +kernel
theorem dX10_whyNotDrive_26 : decode cX10_whyNotDrive 26 = .ok (.goto 4, 3) := by decide +kernel
theorem dX10_whyNotDrive_29 : decode cX10_whyNotDrive 29 = .ok (.iconst 0, 1) := by decide +kernel
theorem dX10_whyNotDrive_30 : decode cX10_whyNotDrive 30 = .ok (.ireturn, 1) := by decide +kernel
theorem dX10_drive_0 : decode cX10_drive 0 = .ok (.aload_n 0, 1) := by decide +kernel
theorem dX10_drive_1 : decode cX10_drive 1 = .ok (.iload_n 1, 1) := by decide +kernel
theorem dX10_drive_2 : decode cX10_drive 2 = .ok (.iload_n 2, 1) := by decide +kernel
theorem dX10_drive_3 : decode cX10_drive 3 = .ok (.invokevirtual 76, 3) := by decide +kernel
theorem dX10_drive_6 : decode cX10_drive 6 = .ok (.istore_n 3, 1) := by decide +kernel
theorem dX10_drive_7 : decode cX10_drive 7 = .ok (.iload_n 3, 1) := by decide +kernel
theorem dX10_drive_8 : decode cX10_drive 8 = .ok (.ifCond .ge 5, 3) := by decide +kernel
theorem dX10_drive_11 : decode cX10_drive 11 = .ok (.iload_n 3, 1) := by decide +kernel
theorem dX10_drive_12 : decode cX10_drive 12 = .ok (.ireturn, 1) := by decide +kernel
theorem dX10_drive_13 : decode cX10_drive 13 = .ok (.aload_n 0, 1) := by decide +kernel
theorem dX10_drive_14 : decode cX10_drive 14 = .ok (.invokevirtual 45, 3) := by decide +kernel
theorem dX10_drive_17 : decode cX10_drive 17 = .ok (.aload_n 0, 1) := by decide +kernel
theorem dX10_drive_18 : decode cX10_drive 18 = .ok (.iload_n 1, 1) := by decide +kernel
theorem dX10_drive_19 : decode cX10_drive 19 = .ok (.iload_n 2, 1) := by decide +kernel
theorem dX10_drive_20 : decode cX10_drive 20 = .ok (.invokevirtual 79, 3) := by decide +kernel
theorem dX10_drive_23 : decode cX10_drive 23 = .ok (.ireturn, 1) := by decide +kernel
theorem dX10_whyNotRest_0 : decode cX10_whyNotRest 0 = .ok (.iload_n 1, 1) := by decide +kernel
theorem dX10_whyNotRest_1 : decode cX10_whyNotRest 1 = .ok (.iconst 1, 1) := by decide +kernel
theorem dX10_whyNotRest_2 : decode cX10_whyNotRest 2 = .ok (.sipush 9999, 3) := by decide +kernel
theorem dX10_whyNotRest_5 : decode cX10_whyNotRest 5 = .ok (.invokestatic 33, 3) := by decide +kernel
theorem dX10_whyNotRest_8 : decode cX10_whyNotRest 8 = .ok (.ifCond .ne 8, 3) := by decide +kernel
theorem dX10_whyNotRest_11 : decode cX10_whyNotRest 11 = .ok (.bipush (-2), 2) := by decide +kernel
theorem dX10_whyNotRest_13 : decode cX10_whyNotRest 13 = .ok (.goto 20, 3) := by decide +kernel
theorem dX10_whyNotRest_16 : decode cX10_whyNotRest 16 = .ok (.aload_n 0, 1) := by decide +kernel
theorem dX10_whyNotRest_17 : decode cX10_whyNotRest 17 = .ok (.getfield 7, 3) := by decide +kernel
theorem dX10_whyNotRest_20 : decode cX10_whyNotRest 20 = .ok (.bipush 38, 2) := by decide +kernel
theorem dX10_whyNotRest_22 : decode cX10_whyNotRest 22 = .ok (.iaload, 1) := by decide +kernel
theorem dX10_whyNotRest_23 : decode cX10_whyNotRest 23 = .ok (.iconst 1, 1) := by decide +kernel
theorem dX10_whyNotRest_24 : decode cX10_whyNotRest 24 = .ok (.if_icmp .ne 8, 3) := by decide +kernel
theorem dX10_whyNotRest_27 : decode cX10_whyNotRest 27 = .ok (.bipush (-5), 2) := by decide +kernel
theorem dX10_whyNotRest_29 : decode cX10_whyNotRest 29 = .ok (.goto 4, 3) := by decide +kernel
theorem dX10_whyNotRest_32 : decode cX10_whyNotRest 32 = .ok (.iconst 0, 1) := by decide +kernel
theorem dX10_whyNotRest_33 : decode cX10_whyNotRest 33 = .ok (.ireturn, 1) := by decide +kernel
theorem dX10_restIt_0 : decode cX10_restIt 0 = .ok (.aload_n 0, 1) := by decide +kernel
theorem dX10_restIt_1 : decode cX10_restIt 1 = .ok (.getfield 7, 3) := by decide +kernel
theorem dX10_restIt_4 : decode cX10_restIt 4 = .ok (.bipush 37, 2) := by decide +kernel
theorem dX10_restIt_6 : decode cX10_restIt 6 = .ok (.aload_n 0, 1) := by decide +kernel
theorem dX10_restIt_7 : decode cX10_restIt 7 = .ok (.getfield 7, 3) := by decide +kernel
theorem dX10_restIt_10 : decode cX10_restIt 10 = .ok (.bipush 37, 2) := by decide +kernel
theorem dX10_restIt_12 : decode cX10_restIt 12 = .ok (.iaload, 1) := by decide +kernel
theorem dX10_restIt_13 : decode cX10_restIt 13 = .ok (.iload_n 1, 1) := by decide +kernel
theorem dX10_restIt_14 : decode cX10_restIt 14 = .ok (.iadd, 1) := by decide +kernel
theorem dX10_restIt_15 : decode cX10_restIt 15 = .ok (.ldc 68, 2) := by decide +kernel
theorem dX10_restIt_17 : decode cX10_restIt 17 = .ok (.irem, 1) := by decide +kernel
theorem dX10_restIt_18 : decode cX10_restIt 18 = .ok (.iastore, 1) := by decide +kernel
theorem dX10_restIt_19 : decode cX10_restIt 19 = .ok (.aload_n 0, 1) := by decide +kernel
theorem dX10_restIt_20 : decode cX10_restIt 20 = .ok (.getfield 7, 3) := by decide +kernel
theorem dX10_restIt_23 : decode cX10_restIt 23 = .ok (.bipush 43, 2) := by decide +kernel
theorem dX10_restIt_25 : decode cX10_restIt 25 = .ok (.dup2, 1) := by decide +kernel
theorem dX10_restIt_26 : decode cX10_restIt 26 = .ok (.iaload, 1) := by decide +kernel
theorem dX10_restIt_27 : decode cX10_restIt 27 = .ok (.aload_n 0, 1) := by decide +kernel
theorem dX10_restIt_28 : decode cX10_restIt 28 = .ok (.getfield 7, 3) := by decide +kernel
theorem dX10_restIt_31 : decode cX10_restIt 31 = .ok (.bipush 38, 2) := by decide +kernel
theorem dX10_restIt_33 : decode cX10_restIt 33 = .ok (.iaload, 1) := by decide +kernel
theorem dX10_restIt_34 : decode cX10_restIt 34 = .ok (.iconst 2, 1) := by decide +kernel
theorem dX10_restIt_35 : decode cX10_restIt 35 = .ok (.if_icmp .ne 7, 3) := by decide +kernel
theorem dX10_restIt_38 : decode cX10_restIt 38 = .ok (.iload_n 1, 1) := by decide +kernel
theorem dX10_restIt_39 : decode cX10_restIt 39 = .ok (.goto 4, 3) := by decide +kernel
theorem dX10_restIt_42 : decode cX10_restIt 42 = .ok (.iconst 0, 1) := by decide +kernel
theorem dX10_restIt_43 : decode cX10_restIt 43 = .ok (.iadd, 1) := by decide +kernel
theorem dX10_restIt_44 : decode cX10_restIt 44 = .ok (.iastore, 1) := by decide +kernel
theorem dX10_restIt_45 : decode cX10_restIt 45 = .ok (.aload_n 0, 1) := by decide +kernel
theorem dX10_restIt_46 : decode cX10_restIt 46 = .ok (.getfield 7, 3) := by decide +kernel
theorem dX10_restIt_49 : decode cX10_restIt 49 = .ok (.bipush 37, 2) := by decide +kernel
theorem dX10_restIt_51 : decode cX10_restIt 51 = .ok (.iaload, 1) := by decide +kernel
theorem dX10_restIt_52 : decode cX10_restIt 52 = .ok (.ireturn, 1) := by decide +kernel
theorem dX10_rest_0 : decode cX10_rest 0 = .ok (.aload_n 0, 1) := by decide +kernel
theorem dX10_rest_1 : decode cX10_rest 1 = .ok (.iload_n 1, 1) := by decide +kernel
theorem dX10_rest_2 : decode cX10_rest 2 = .ok (.invokevirtual 82, 3) := by decide +kernel
theorem dX10_rest_5 : decode cX10_rest 5 = .ok (.istore_n 2, 1) := by decide +kernel
theorem dX10_rest_6 : decode cX10_rest 6 = .ok (.iload_n 2, 1) := by decide +kernel
theorem dX10_rest_7 : decode cX10_rest 7 = .ok (.ifCond .ge 5, 3) := by decide +kernel
theorem dX10_rest_10 : decode cX10_rest 10 = .ok (.iload_n 2, 1) := by decide +kernel
theorem dX10_rest_11 : decode cX10_rest 11 = .ok (.ireturn, 1) := by decide +kernel
theorem dX10_rest_12 : decode cX10_rest 12 = .ok (.aload_n 0, 1) := by decide +kernel
theorem dX10_rest_13 : decode cX10_rest 13 = .ok (.invokevirtual 45, 3) := by decide +kernel
theorem dX10_rest_16 : decode cX10_rest 16 = .ok (.aload_n 0, 1) := by decide +kernel
theorem dX10_rest_17 : decode cX10_rest 17 = .ok (.iload_n 1, 1) := by decide +kernel
theorem dX10_rest_18 : decode cX10_rest 18 = .ok (.invokevirtual 85, 3) := by decide +kernel
theorem dX10_rest_21 : decode cX10_rest 21 = .ok (.ireturn, 1) := by decide +kernel
theorem dX10_haltIt_0 : decode cX10_haltIt 0 = .ok (.aload_n 0, 1) := by decide +kernel
theorem dX10_haltIt_1 : decode cX10_haltIt 1 = .ok (.getfield 7, 3) := by decide +kernel
theorem dX10_haltIt_4 : decode cX10_haltIt 4 = .ok (.bipush 38, 2) := by decide +kernel
theorem dX10_haltIt_6 : decode cX10_haltIt 6 = .ok (.iconst 3, 1) := by decide +kernel
theorem dX10_haltIt_7 : decode cX10_haltIt 7 = .ok (.aload_n 0, 1) := by decide +kernel
theorem dX10_haltIt_8 : decode cX10_haltIt 8 = .ok (.getfield 7, 3) := by decide +kernel
theorem dX10_haltIt_11 : decode cX10_haltIt 11 = .ok (.bipush 38, 2) := by decide +kernel
theorem dX10_haltIt_13 : decode cX10_haltIt 13 = .ok (.iaload, 1) := by decide +kernel
theorem dX10_haltIt_14 : decode cX10_haltIt 14 = .ok (.isub, 1) := by decide +kernel
theorem dX10_haltIt_15 : decode cX10_haltIt 15 = .ok (.iastore, 1) := by decide +kernel
theorem dX10_haltIt_16 : decode cX10_haltIt 16 = .ok (.aload_n 0, 1) := by decide +kernel
theorem dX10_haltIt_17 : decode cX10_haltIt 17 = .ok (.getfield 7, 3) := by decide +kernel
theorem dX10_haltIt_20 : decode cX10_haltIt 20 = .ok (.bipush 38, 2) := by decide +kernel
theorem dX10_haltIt_22 : decode cX10_haltIt 22 = .ok (.iaload, 1) := by decide +kernel
theorem dX10_haltIt_23 : decode cX10_haltIt 23 = .ok (.ireturn, 1) := by decide +kernel
theorem dX10_halt_0 : decode cX10_halt 0 = .ok (.aload_n 0, 1) := by decide +kernel
theorem dX10_halt_1 : decode cX10_halt 1 = .ok (.getfield 7, 3) := by decide +kernel
theorem dX10_halt_4 : decode cX10_halt 4 = .ok (.bipush 38, 2) := by decide +kernel
theorem dX10_halt_6 : decode cX10_halt 6 = .ok (.iaload, 1) := by decide +kernel
theorem dX10_halt_7 : decode cX10_halt 7 = .ok (.ifCond .ne 6, 3) := by decide +kernel
theorem dX10_halt_10 : decode cX10_halt 10 = .ok (.bipush (-5), 2) := by decide +kernel
theorem dX10_halt_12 : decode cX10_halt 12 = .ok (.ireturn, 1) := by decide +kernel
theorem dX10_halt_13 : decode cX10_halt 13 = .ok (.aload_n 0, 1) := by decide +kernel
theorem dX10_halt_14 : decode cX10_halt 14 = .ok (.invokevirtual 45, 3) := by decide +kernel
theorem dX10_halt_17 : decode cX10_halt 17 = .ok (.aload_n 0, 1) := by decide +kernel
theorem dX10_halt_18 : decode cX10_halt 18 = .ok (.invokevirtual 88, 3) := by decide +kernel
theorem dX10_halt_21 : decode cX10_halt 21 = .ok (.ireturn, 1) := by decide +kernel
theorem dX10_whyNotExtra_0 : decode cX10_whyNotExtra 0 = .ok (.aload_n 0, 1) := by decide +kernel
theorem dX10_whyNotExtra_1 : decode cX10_whyNotExtra 1 = .ok (.getfield 7, 3) := by decide +kernel
theorem dX10_whyNotExtra_4 : decode cX10_whyNotExtra 4 = .ok (.bipush 38, 2) := by decide +kernel
theorem dX10_whyNotExtra_6 : decode cX10_whyNotExtra 6 = .ok (.iaload, 1) := by decide +kernel
theorem dX10_whyNotExtra_7 : decode cX10_whyNotExtra 7 = .ok (.ifCond .ne 8, 3) := by decide +kernel
theorem dX10_whyNotExtra_10 : decode cX10_whyNotExtra 10 = .ok (.bipush (-5), 2) := by decide +kernel
theorem dX10_whyNotExtra_12 : decode cX10_whyNotExtra 12 = .ok (.goto 21, 3) := by decide +kernel
theorem dX10_whyNotExtra_15 : decode cX10_whyNotExtra 15 = .ok (.aload_n 0, 1) := by decide +kernel
theorem dX10_whyNotExtra_16 : decode cX10_whyNotExtra 16 = .ok (.getfield 7, 3) := by decide +kernel
theorem dX10_whyNotExtra_19 : decode cX10_whyNotExtra 19 = .ok (.bipush 46, 2) := by decide +kernel
theorem dX10_whyNotExtra_21 : decode cX10_whyNotExtra 21 = .ok (.iaload, 1) := by decide +kernel
theorem dX10_whyNotExtra_22 : decode cX10_whyNotExtra 22 = .ok (.bipush 9, 2) := by decide +kernel
theorem dX10_whyNotExtra_24 : decode cX10_whyNotExtra 24 = .ok (.if_icmp .ne 8, 3) := by decide +kernel
theorem dX10_whyNotExtra_27 : decode cX10_whyNotExtra 27 = .ok (.bipush (-4), 2) := by decide +kernel
theorem dX10_whyNotExtra_29 : decode cX10_whyNotExtra 29 = .ok (.goto 4, 3) := by decide +kernel
theorem dX10_whyNotExtra_32 : decode cX10_whyNotExtra 32 = .ok (.iconst 0, 1) := by decide +kernel
theorem dX10_whyNotExtra_33 : decode cX10_whyNotExtra 33 = .ok (.ireturn, 1) := by decide +kernel
theorem dX10_extraIt_0 : decode cX10_extraIt 0 = .ok (.aload_n 0, 1) := by decide +kernel
theorem dX10_extraIt_1 : decode cX10_extraIt 1 = .ok (.getfield 7, 3) := by decide +kernel
theorem dX10_extraIt_4 : decode cX10_extraIt 4 = .ok (.bipush 46, 2) := by decide +kernel
theorem dX10_extraIt_6 : decode cX10_extraIt 6 = .ok (.dup2, 1) := by decide +kernel
theorem dX10_extraIt_7 : decode cX10_extraIt 7 = .ok (.iaload, 1) := by decide +kernel
theorem dX10_extraIt_8 : decode cX10_extraIt 8 = .ok (.iconst 1, 1) := by decide +kernel
theorem dX10_extraIt_9 : decode cX10_extraIt 9 = .ok (.iadd, 1) := by decide +kernel
theorem dX10_extraIt_10 : decode cX10_extraIt 10 = .ok (.iastore, 1) := by decide +kernel
theorem dX10_extraIt_11 : decode cX10_extraIt 11 = .ok (.aload_n 0, 1) := by decide +kernel
theorem dX10_extraIt_12 : decode cX10_extraIt 12 = .ok (.getfield 7, 3) := by decide +kernel
theorem dX10_extraIt_15 : decode cX10_extraIt 15 = .ok (.bipush 40, 2) := by decide +kernel
theorem dX10_extraIt_17 : decode cX10_extraIt 17 = .ok (.dup2, 1) := by decide +kernel
theorem dX10_extraIt_18 : decode cX10_extraIt 18 = .ok (.iaload, 1) := by decide +kernel
theorem dX10_extraIt_19 : decode cX10_extraIt 19 = .ok (.aload_n 0, 1) := by decide +kernel
theorem dX10_extraIt_20 : decode cX10_extraIt 20 = .ok (.getfield 7, 3) := by decide +kernel
theorem dX10_extraIt_23 : decode cX10_extraIt 23 = .ok (.bipush 36, 2) := by decide +kernel
theorem dX10_extraIt_25 : decode cX10_extraIt 25 = .ok (.iaload, 1) := by decide +kernel
theorem dX10_extraIt_26 : decode cX10_extraIt 26 = .ok (.iadd, 1) := by decide +kernel
theorem dX10_extraIt_27 : decode cX10_extraIt 27 = .ok (.iastore, 1) := by decide +kernel
theorem dX10_extraIt_28 : decode cX10_extraIt 28 = .ok (.aload_n 0, 1) := by decide +kernel
theorem dX10_extraIt_29 : decode cX10_extraIt 29 = .ok (.getfield 7, 3) := by decide +kernel
theorem dX10_extraIt_32 : decode cX10_extraIt 32 = .ok (.bipush 46, 2) := by decide +kernel
theorem dX10_extraIt_34 : decode cX10_extraIt 34 = .ok (.iaload, 1) := by decide +kernel
theorem dX10_extraIt_35 : decode cX10_extraIt 35 = .ok (.ireturn, 1) := by decide +kernel
theorem dX10_extra_0 : decode cX10_extra 0 = .ok (.aload_n 0, 1) := by decide +kernel
theorem dX10_extra_1 : decode cX10_extra 1 = .ok (.invokevirtual 91, 3) := by decide +kernel
theorem dX10_extra_4 : decode cX10_extra 4 = .ok (.istore_n 1, 1) := by decide +kernel
theorem dX10_extra_5 : decode cX10_extra 5 = .ok (.iload_n 1, 1) := by decide +kernel
theorem dX10_extra_6 : decode cX10_extra 6 = .ok (.ifCond .ge 5, 3) := by decide +kernel
theorem dX10_extra_9 : decode cX10_extra 9 = .ok (.iload_n 1, 1) := by decide +kernel
theorem dX10_extra_10 : decode cX10_extra 10 = .ok (.ireturn, 1) := by decide +kernel
theorem dX10_extra_11 : decode cX10_extra 11 = .ok (.aload_n 0, 1) := by decide +kernel
theorem dX10_extra_12 : decode cX10_extra 12 = .ok (.invokevirtual 45, 3) := by decide +kernel
theorem dX10_extra_15 : decode cX10_extra 15 = .ok (.aload_n 0, 1) := by decide +kernel
theorem dX10_extra_16 : decode cX10_extra 16 = .ok (.invokevirtual 94, 3) := by decide +kernel
theorem dX10_extra_19 : decode cX10_extra 19 = .ok (.ireturn, 1) := by decide +kernel
theorem dX10_endIt_0 : decode cX10_endIt 0 = .ok (.aload_n 0, 1) := by decide +kernel
theorem dX10_endIt_1 : decode cX10_endIt 1 = .ok (.getfield 7, 3) := by decide +kernel
theorem dX10_endIt_4 : decode cX10_endIt 4 = .ok (.bipush 39, 2) := by decide +kernel
theorem dX10_endIt_6 : decode cX10_endIt 6 = .ok (.iaload, 1) := by decide +kernel
theorem dX10_endIt_7 : decode cX10_endIt 7 = .ok (.aload_n 0, 1) := by decide +kernel
theorem dX10_endIt_8 : decode cX10_endIt 8 = .ok (.getfield 7, 3) := by decide +kernel
theorem dX10_endIt_11 : decode cX10_endIt 11 = .ok (.bipush 40, 2) := by decide +kernel
theorem dX10_endIt_13 : decode cX10_endIt 13 = .ok (.iaload, 1) := by decide +kernel
theorem dX10_endIt_14 : decode cX10_endIt 14 = .ok (.iadd, 1) := by decide +kernel
theorem dX10_endIt_15 : decode cX10_endIt 15 = .ok (.istore_n 1, 1) := by decide +kernel
theorem dX10_endIt_16 : decode cX10_endIt 16 = .ok (.bipush 59, 2) := by decide +kernel
theorem dX10_endIt_18 : decode cX10_endIt 18 = .ok (.istore_n 2, 1) := by decide +kernel
theorem dX10_endIt_19 : decode cX10_endIt 19 = .ok (.iload_n 2, 1) := by decide +kernel
theorem dX10_endIt_20 : decode cX10_endIt 20 = .ok (.iconst 5, 1) := by decide +kernel
theorem dX10_endIt_21 : decode cX10_endIt 21 = .ok (.if_icmp .lt 29, 3) := by decide +kernel
theorem dX10_endIt_24 : decode cX10_endIt 24 = .ok (.aload_n 0, 1) := by decide +kernel
theorem dX10_endIt_25 : decode cX10_endIt 25 = .ok (.getfield 7, 3) := by decide +kernel
theorem dX10_endIt_28 : decode cX10_endIt 28 = .ok (.bipush 53, 2) := by decide +kernel
theorem dX10_endIt_30 : decode cX10_endIt 30 = .ok (.iload_n 2, 1) := by decide +kernel
theorem dX10_endIt_31 : decode cX10_endIt 31 = .ok (.iadd, 1) := by decide +kernel
theorem dX10_endIt_32 : decode cX10_endIt 32 = .ok (.aload_n 0, 1) := by decide +kernel
theorem dX10_endIt_33 : decode cX10_endIt 33 = .ok (.getfield 7, 3) := by decide +kernel
theorem dX10_endIt_36 : decode cX10_endIt 36 = .ok (.bipush 53, 2) := by decide +kernel
theorem dX10_endIt_38 : decode cX10_endIt 38 = .ok (.iload_n 2, 1) := by decide +kernel
theorem dX10_endIt_39 : decode cX10_endIt 39 = .ok (.iadd, 1) := by decide +kernel
theorem dX10_endIt_40 : decode cX10_endIt 40 = .ok (.iconst 5, 1) := by decide +kernel
theorem dX10_endIt_41 : decode cX10_endIt 41 = .ok (.isub, 1) := by decide +kernel
theorem dX10_endIt_42 : decode cX10_endIt 42 = .ok (.iaload, 1) := by decide +kernel
theorem dX10_endIt_43 : decode cX10_endIt 43 = .ok (.iastore, 1) := by decide +kernel
theorem dX10_endIt_44 : decode cX10_endIt 44 = .ok (.iinc 2 (-1), 3) := by decide +kernel
theorem dX10_endIt_47 : decode cX10_endIt 47 = .ok (.goto (-28), 3) := by decide +kernel
theorem dX10_endIt_50 : decode cX10_endIt 50 = .ok (.aload_n 0, 1) := by decide +kernel
theorem dX10_endIt_51 : decode cX10_endIt 51 = .ok (.getfield 7, 3) := by decide +kernel
theorem dX10_endIt_54 : decode cX10_endIt 54 = .ok (.bipush 53, 2) := by decide +kernel
theorem dX10_endIt_56 : decode cX10_endIt 56 = .ok (.iload_n 1, 1) := by decide +kernel
theorem dX10_endIt_57 : decode cX10_endIt 57 = .ok (.iastore, 1) := by decide +kernel
theorem dX10_endIt_58 : decode cX10_endIt 58 = .ok (.aload_n 0, 1) := by decide +kernel
theorem dX10_endIt_59 : decode cX10_endIt 59 = .ok (.getfield 7, 3) := by decide +kernel
theorem dX10_endIt_62 : decode cX10_endIt 62 = .ok (.bipush 54, 2) := by decide +kernel
theorem dX10_endIt_64 : decode cX10_endIt 64 = .ok (.aload_n 0, 1) := by decide +kernel
theorem dX10_endIt_65 : decode cX10_endIt 65 = .ok (.getfield 7, 3) := by decide +kernel
theorem dX10_endIt_68 : decode cX10_endIt 68 = .ok (.bipush 41, 2) := by decide +kernel
theorem dX10_endIt_70 : decode cX10_endIt 70 = .ok (.iaload, 1) := by decide +kernel
theorem dX10_endIt_71 : decode cX10_endIt 71 = .ok (.iastore, 1) := by decide +kernel
theorem dX10_endIt_72 : decode cX10_endIt 72 = .ok (.aload_n 0, 1) := by decide +kernel
theorem dX10_endIt_73 : decode cX10_endIt 73 = .ok (.getfield 7, 3) := by decide +kernel
theorem dX10_endIt_76 : decode cX10_endIt 76 = .ok (.bipush 55, 2) := by decide +kernel
theorem dX10_endIt_78 : decode cX10_endIt 78 = .ok (.aload_n 0, 1) := by decide +kernel
theorem dX10_endIt_79 : decode cX10_endIt 79 = .ok (.getfield 7, 3) := by decide +kernel
theorem dX10_endIt_82 : decode cX10_endIt 82 = .ok (.bipush 42, 2) := by decide +kernel
theorem dX10_endIt_84 : decode cX10_endIt 84 = .ok (.iaload, 1) := by decide +kernel
theorem dX10_endIt_85 : decode cX10_endIt 85 = .ok (.aload_n 0, 1) := by decide +kernel
theorem dX10_endIt_86 : decode cX10_endIt 86 = .ok (.getfield 7, 3) := by decide +kernel
theorem dX10_endIt_89 : decode cX10_endIt 89 = .ok (.bipush 43, 2) := by decide +kernel
theorem dX10_endIt_91 : decode cX10_endIt 91 = .ok (.iaload, 1) := by decide +kernel
theorem dX10_endIt_92 : decode cX10_endIt 92 = .ok (.iadd, 1) := by decide +kernel
theorem dX10_endIt_93 : decode cX10_endIt 93 = .ok (.iastore, 1) := by decide +kernel
theorem dX10_endIt_94 : decode cX10_endIt 94 = .ok (.aload_n 0, 1) := by decide +kernel
theorem dX10_endIt_95 : decode cX10_endIt 95 = .ok (.getfield 7, 3) := by decide +kernel
theorem dX10_endIt_98 : decode cX10_endIt 98 = .ok (.bipush 56, 2) := by decide +kernel
theorem dX10_endIt_100 : decode cX10_endIt 100 = .ok (.aload_n 0, 1) := by decide +kernel
theorem dX10_endIt_101 : decode cX10_endIt 101 = .ok (.getfield 7, 3) := by decide +kernel
theorem dX10_endIt_104 : decode cX10_endIt 104 = .ok (.bipush 44, 2) := by decide +kernel
theorem dX10_endIt_106 : decode cX10_endIt 106 = .ok (.iaload, 1) := by decide +kernel
theorem dX10_endIt_107 : decode cX10_endIt 107 = .ok (.aload_n 0, 1) := by decide +kernel
theorem dX10_endIt_108 : decode cX10_endIt 108 = .ok (.getfield 7, 3) := by decide +kernel
theorem dX10_endIt_111 : decode cX10_endIt 111 = .ok (.bipush 45, 2) := by decide +kernel
theorem dX10_endIt_113 : decode cX10_endIt 113 = .ok (.iaload, 1) := by decide +kernel
theorem dX10_endIt_114 : decode cX10_endIt 114 = .ok (.iadd, 1) := by decide +kernel
theorem dX10_endIt_115 : decode cX10_endIt 115 = .ok (.iastore, 1) := by decide +kernel
theorem dX10_endIt_116 : decode cX10_endIt 116 = .ok (.aload_n 0, 1) := by decide +kernel
theorem dX10_endIt_117 : decode cX10_endIt 117 = .ok (.getfield 7, 3) := by decide +kernel
theorem dX10_endIt_120 : decode cX10_endIt 120 = .ok (.bipush 57, 2) := by decide +kernel
theorem dX10_endIt_122 : decode cX10_endIt 122 = .ok (.aload_n 0, 1) := by decide +kernel
theorem dX10_endIt_123 : decode cX10_endIt 123 = .ok (.getfield 7, 3) := by decide +kernel
theorem dX10_endIt_126 : decode cX10_endIt 126 = .ok (.bipush 49, 2) := by decide +kernel
theorem dX10_endIt_128 : decode cX10_endIt 128 = .ok (.iaload, 1) := by decide +kernel
theorem dX10_endIt_129 : decode cX10_endIt 129 = .ok (.iastore, 1) := by decide +kernel
theorem dX10_endIt_130 : decode cX10_endIt 130 = .ok (.aload_n 0, 1) := by decide +kernel
theorem dX10_endIt_131 : decode cX10_endIt 131 = .ok (.getfield 7, 3) := by decide +kernel
theorem dX10_endIt_134 : decode cX10_endIt 134 = .ok (.bipush 52, 2) := by decide +kernel
theorem dX10_endIt_136 : decode cX10_endIt 136 = .ok (.aload_n 0, 1) := by decide +kernel
theorem dX10_endIt_137 : decode cX10_endIt 137 = .ok (.getfield 7, 3) := by decide +kernel
theorem dX10_endIt_140 : decode cX10_endIt 140 = .ok (.bipush 52, 2) := by decide +kernel
theorem dX10_endIt_142 : decode cX10_endIt 142 = .ok (.iaload, 1) := by decide +kernel
theorem dX10_endIt_143 : decode cX10_endIt 143 = .ok (.bipush 12, 2) := by decide +kernel
theorem dX10_endIt_145 : decode cX10_endIt 145 = .ok (.if_icmp .ge 15, 3) := by decide +kernel
theorem dX10_endIt_148 : decode cX10_endIt 148 = .ok (.aload_n 0, 1) := by decide +kernel
theorem dX10_endIt_149 : decode cX10_endIt 149 = .ok (.getfield 7, 3) := by decide +kernel
theorem dX10_endIt_152 : decode cX10_endIt 152 = .ok (.bipush 52, 2) := by decide +kernel
theorem dX10_endIt_154 : decode cX10_endIt 154 = .ok (.iaload, 1) := by decide +kernel
theorem dX10_endIt_155 : decode cX10_endIt 155 = .ok (.iconst 1, 1) := by decide +kernel
theorem dX10_endIt_156 : decode cX10_endIt 156 = .ok (.iadd, 1) := by decide +kernel
theorem dX10_endIt_157 : decode cX10_endIt 157 = .ok (.goto 5, 3) := by decide +kernel
theorem dX10_endIt_160 : decode cX10_endIt 160 = .ok (.bipush 12, 2) := by decide +kernel
theorem dX10_endIt_162 : decode cX10_endIt 162 = .ok (.iastore, 1) := by decide +kernel
theorem dX10_endIt_163 : decode cX10_endIt 163 = .ok (.aload_n 0, 1) := by decide +kernel
theorem dX10_endIt_164 : decode cX10_endIt 164 = .ok (.getfield 7, 3) := by decide +kernel
theorem dX10_endIt_167 : decode cX10_endIt 167 = .ok (.bipush 50, 2) := by decide +kernel
theorem dX10_endIt_169 : decode cX10_endIt 169 = .ok (.dup2, 1) := by decide +kernel
theorem dX10_endIt_170 : decode cX10_endIt 170 = .ok (.iaload, 1) := by decide +kernel
theorem dX10_endIt_171 : decode cX10_endIt 171 = .ok (.iconst 1, 1) := by decide +kernel
theorem dX10_endIt_172 : decode cX10_endIt 172 = .ok (.iadd, 1) := by decide +kernel
theorem dX10_endIt_173 : decode cX10_endIt 173 = .ok (.iastore, 1) := by decide +kernel
theorem dX10_endIt_174 : decode cX10_endIt 174 = .ok (.aload_n 0, 1) := by decide +kernel
theorem dX10_endIt_175 : decode cX10_endIt 175 = .ok (.getfield 7, 3) := by decide +kernel
theorem dX10_endIt_178 : decode cX10_endIt 178 = .ok (.bipush 51, 2) := by decide +kernel
theorem dX10_endIt_180 : decode cX10_endIt 180 = .ok (.aload_n 0, 1) := by decide +kernel
theorem dX10_endIt_181 : decode cX10_endIt 181 = .ok (.getfield 7, 3) := by decide +kernel
theorem dX10_endIt_184 : decode cX10_endIt 184 = .ok (.bipush 51, 2) := by decide +kernel
theorem dX10_endIt_186 : decode cX10_endIt 186 = .ok (.iaload, 1) := by decide +kernel
theorem dX10_endIt_187 : decode cX10_endIt 187 = .ok (.iload_n 1, 1) := by decide +kernel
theorem dX10_endIt_188 : decode cX10_endIt 188 = .ok (.iadd, 1) := by decide +kernel
theorem dX10_endIt_189 : decode cX10_endIt 189 = .ok (.ldc 97, 2) := by decide +kernel
theorem dX10_endIt_191 : decode cX10_endIt 191 = .ok (.irem, 1) := by decide +kernel
theorem dX10_endIt_192 : decode cX10_endIt 192 = .ok (.iastore, 1) := by decide +kernel
theorem dX10_endIt_193 : decode cX10_endIt 193 = .ok (.aload_n 0, 1) := by decide +kernel
theorem dX10_endIt_194 : decode cX10_endIt 194 = .ok (.getfield 7, 3) := by decide +kernel
theorem dX10_endIt_197 : decode cX10_endIt 197 = .ok (.bipush 38, 2) := by decide +kernel
theorem dX10_endIt_199 : decode cX10_endIt 199 = .ok (.iconst 0, 1) := by decide +kernel
theorem dX10_endIt_200 : decode cX10_endIt 200 = .ok (.iastore, 1) := by decide +kernel
theorem dX10_endIt_201 : decode cX10_endIt 201 = .ok (.iload_n 1, 1) := by decide +kernel
theorem dX10_endIt_202 : decode cX10_endIt 202 = .ok (.ireturn, 1) := by decide +kernel
theorem dX10_end_0 : decode cX10_end 0 = .ok (.aload_n 0, 1) := by decide +kernel
theorem dX10_end_1 : decode cX10_end 1 = .ok (.getfield 7, 3) := by decide +kernel
theorem dX10_end_4 : decode cX10_end 4 = .ok (.bipush 38, 2) := by decide +kernel
theorem dX10_end_6 : decode cX10_end 6 = .ok (.iaload, 1) := by decide +kernel
theorem dX10_end_7 : decode cX10_end 7 = .ok (.ifCond .ne 6, 3) := by decide +kernel
theorem dX10_end_10 : decode cX10_end 10 = .ok (.bipush (-5), 2) := by decide +kernel
theorem dX10_end_12 : decode cX10_end 12 = .ok (.ireturn, 1) := by decide +kernel
theorem dX10_end_13 : decode cX10_end 13 = .ok (.aload_n 0, 1) := by decide +kernel
theorem dX10_end_14 : decode cX10_end 14 = .ok (.invokevirtual 45, 3) := by decide +kernel
theorem dX10_end_17 : decode cX10_end 17 = .ok (.aload_n 0, 1) := by decide +kernel
theorem dX10_end_18 : decode cX10_end 18 = .ok (.invokevirtual 98, 3) := by decide +kernel
theorem dX10_end_21 : decode cX10_end 21 = .ok (.ireturn, 1) := by decide +kernel
theorem dX10_hoursWith_0 : decode cX10_hoursWith 0 = .ok (.iconst 0, 1) := by decide +kernel
theorem dX10_hoursWith_1 : decode cX10_hoursWith 1 = .ok (.istore_n 2, 1) := by decide +kernel
theorem dX10_hoursWith_2 : decode cX10_hoursWith 2 = .ok (.iconst 0, 1) := by decide +kernel
theorem dX10_hoursWith_3 : decode cX10_hoursWith 3 = .ok (.istore_n 3, 1) := by decide +kernel
theorem dX10_hoursWith_4 : decode cX10_hoursWith 4 = .ok (.iload_n 3, 1) := by decide +kernel
theorem dX10_hoursWith_5 : decode cX10_hoursWith 5 = .ok (.bipush 24, 2) := by decide +kernel
theorem dX10_hoursWith_7 : decode cX10_hoursWith 7 = .ok (.if_icmp .ge 30, 3) := by decide +kernel
theorem dX10_hoursWith_10 : decode cX10_hoursWith 10 = .ok (.iload_n 2, 1) := by decide +kernel
theorem dX10_hoursWith_11 : decode cX10_hoursWith 11 = .ok (.aload_n 0, 1) := by decide +kernel
theorem dX10_hoursWith_12 : decode cX10_hoursWith 12 = .ok (.getfield 7, 3) := by decide +kernel
theorem dX10_hoursWith_15 : decode cX10_hoursWith 15 = .ok (.bipush 12, 2) := by decide +kernel
theorem dX10_hoursWith_17 : decode cX10_hoursWith 17 = .ok (.iload_n 3, 1) := by decide +kernel
theorem dX10_hoursWith_18 : decode cX10_hoursWith 18 = .ok (.iadd, 1) := by decide +kernel
theorem dX10_hoursWith_19 : decode cX10_hoursWith 19 = .ok (.iaload, 1) := by decide +kernel
theorem dX10_hoursWith_20 : decode cX10_hoursWith 20 = .ok (.iload_n 1, 1) := by decide +kernel
theorem dX10_hoursWith_21 : decode cX10_hoursWith 21 = .ok (.if_icmp .ne 7, 3) := by decide +kernel
theorem dX10_hoursWith_24 : decode cX10_hoursWith 24 = .ok (.iconst 1, 1) := by decide +kernel
theorem dX10_hoursWith_25 : decode cX10_hoursWith 25 = .ok (.goto 4, 3) := by decide +kernel
theorem dX10_hoursWith_28 : decode cX10_hoursWith 28 = .ok (.iconst 0, 1) := by decide +kernel
theorem dX10_hoursWith_29 : decode cX10_hoursWith 29 = .ok (.iadd, 1) := by decide +kernel
theorem dX10_hoursWith_30 : decode cX10_hoursWith 30 = .ok (.istore_n 2, 1) := by decide +kernel
theorem dX10_hoursWith_31 : decode cX10_hoursWith 31 = .ok (.iinc 3 1, 3) := by decide +kernel
theorem dX10_hoursWith_34 : decode cX10_hoursWith 34 = .ok (.goto (-30), 3) := by decide +kernel
theorem dX10_hoursWith_37 : decode cX10_hoursWith 37 = .ok (.iload_n 2, 1) := by decide +kernel
theorem dX10_hoursWith_38 : decode cX10_hoursWith 38 = .ok (.ireturn, 1) := by decide +kernel
theorem dX10_ofTariff_0 : decode cX10_ofTariff 0 = .ok (.iload_n 1, 1) := by decide +kernel
theorem dX10_ofTariff_1 : decode cX10_ofTariff 1 = .ok (.invokestatic 48, 3) := by decide +kernel
theorem dX10_ofTariff_4 : decode cX10_ofTariff 4 = .ok (.ifCond .ne 5, 3) := by decide +kernel
theorem dX10_ofTariff_7 : decode cX10_ofTariff 7 = .ok (.iconst (-1), 1) := by decide +kernel
theorem dX10_ofTariff_8 : decode cX10_ofTariff 8 = .ok (.ireturn, 1) := by decide +kernel
theorem dX10_ofTariff_9 : decode cX10_ofTariff 9 = .ok (.iload_n 2, 1) := by decide +kernel
theorem dX10_ofTariff_10 : decode cX10_ofTariff 10 = .ok (.iconst 0, 1) := by decide +kernel
theorem dX10_ofTariff_11 : decode cX10_ofTariff 11 = .ok (.iconst 4, 1) := by decide +kernel
theorem dX10_ofTariff_12 : decode cX10_ofTariff 12 = .ok (.invokestatic 33, 3) := by decide +kernel
theorem dX10_ofTariff_15 : decode cX10_ofTariff 15 = .ok (.ifCond .ne 8, 3) := by decide +kernel
theorem dX10_ofTariff_18 : decode cX10_ofTariff 18 = .ok (.bipush (-2), 2) := by decide +kernel
theorem dX10_ofTariff_20 : decode cX10_ofTariff 20 = .ok (.goto 22, 3) := by decide +kernel
theorem dX10_ofTariff_23 : decode cX10_ofTariff 23 = .ok (.iload_n 2, 1) := by decide +kernel
theorem dX10_ofTariff_24 : decode cX10_ofTariff 24 = .ok (.iconst 4, 1) := by decide +kernel
theorem dX10_ofTariff_25 : decode cX10_ofTariff 25 = .ok (.if_icmp .ge 12, 3) := by decide +kernel
theorem dX10_ofTariff_28 : decode cX10_ofTariff 28 = .ok (.aload_n 0, 1) := by decide +kernel
theorem dX10_ofTariff_29 : decode cX10_ofTariff 29 = .ok (.iload_n 1, 1) := by decide +kernel
theorem dX10_ofTariff_30 : decode cX10_ofTariff 30 = .ok (.iload_n 2, 1) := by decide +kernel
theorem dX10_ofTariff_31 : decode cX10_ofTariff 31 = .ok (.invokevirtual 37, 3) := by decide +kernel
theorem dX10_ofTariff_34 : decode cX10_ofTariff 34 = .ok (.goto 8, 3) := by decide +kernel
theorem dX10_ofTariff_37 : decode cX10_ofTariff 37 = .ok (.aload_n 0, 1) := by decide +kernel
theorem dX10_ofTariff_38 : decode cX10_ofTariff 38 = .ok (.iload_n 1, 1) := by decide +kernel
theorem dX10_ofTariff_39 : decode cX10_ofTariff 39 = .ok (.invokevirtual 101, 3) := by decide +kernel
theorem dX10_ofTariff_42 : decode cX10_ofTariff 42 = .ok (.ireturn, 1) := by decide +kernel
theorem dX10_ride_0 : decode cX10_ride 0 = .ok (.iload_n 1, 1) := by decide +kernel
theorem dX10_ride_1 : decode cX10_ride 1 = .ok (.iconst 0, 1) := by decide +kernel
theorem dX10_ride_2 : decode cX10_ride 2 = .ok (.bipush 8, 2) := by decide +kernel
theorem dX10_ride_4 : decode cX10_ride 4 = .ok (.invokestatic 33, 3) := by decide +kernel
theorem dX10_ride_7 : decode cX10_ride 7 = .ok (.ifCond .eq 15, 3) := by decide +kernel
theorem dX10_ride_10 : decode cX10_ride 10 = .ok (.aload_n 0, 1) := by decide +kernel
theorem dX10_ride_11 : decode cX10_ride 11 = .ok (.getfield 7, 3) := by decide +kernel
theorem dX10_ride_14 : decode cX10_ride 14 = .ok (.bipush 39, 2) := by decide +kernel
theorem dX10_ride_16 : decode cX10_ride 16 = .ok (.iload_n 1, 1) := by decide +kernel
theorem dX10_ride_17 : decode cX10_ride 17 = .ok (.iadd, 1) := by decide +kernel
theorem dX10_ride_18 : decode cX10_ride 18 = .ok (.iaload, 1) := by decide +kernel
theorem dX10_ride_19 : decode cX10_ride 19 = .ok (.goto 5, 3) := by decide +kernel
theorem dX10_ride_22 : decode cX10_ride 22 = .ok (.bipush (-2), 2) := by decide +kernel
theorem dX10_ride_24 : decode cX10_ride 24 = .ok (.ireturn, 1) := by decide +kernel
theorem dX10_log_0 : decode cX10_log 0 = .ok (.iload_n 1, 1) := by decide +kernel
theorem dX10_log_1 : decode cX10_log 1 = .ok (.iconst 0, 1) := by decide +kernel
theorem dX10_log_2 : decode cX10_log 2 = .ok (.aload_n 0, 1) := by decide +kernel
theorem dX10_log_3 : decode cX10_log 3 = .ok (.getfield 7, 3) := by decide +kernel
theorem dX10_log_6 : decode cX10_log 6 = .ok (.bipush 52, 2) := by decide +kernel
theorem dX10_log_8 : decode cX10_log 8 = .ok (.iaload, 1) := by decide +kernel
theorem dX10_log_9 : decode cX10_log 9 = .ok (.iconst 1, 1) := by decide +kernel
theorem dX10_log_10 : decode cX10_log 10 = .ok (.isub, 1) := by decide +kernel
theorem dX10_log_11 : decode cX10_log 11 = .ok (.invokestatic 33, 3) := by decide +kernel
theorem dX10_log_14 : decode cX10_log 14 = .ok (.ifCond .ne 5, 3) := by decide +kernel
theorem dX10_log_17 : decode cX10_log 17 = .ok (.iconst (-1), 1) := by decide +kernel
theorem dX10_log_18 : decode cX10_log 18 = .ok (.ireturn, 1) := by decide +kernel
theorem dX10_log_19 : decode cX10_log 19 = .ok (.iload_n 2, 1) := by decide +kernel
theorem dX10_log_20 : decode cX10_log 20 = .ok (.iconst 0, 1) := by decide +kernel
theorem dX10_log_21 : decode cX10_log 21 = .ok (.iconst 4, 1) := by decide +kernel
theorem dX10_log_22 : decode cX10_log 22 = .ok (.invokestatic 33, 3) := by decide +kernel
theorem dX10_log_25 : decode cX10_log 25 = .ok (.ifCond .eq 19, 3) := by decide +kernel
theorem dX10_log_28 : decode cX10_log 28 = .ok (.aload_n 0, 1) := by decide +kernel
theorem dX10_log_29 : decode cX10_log 29 = .ok (.getfield 7, 3) := by decide +kernel
theorem dX10_log_32 : decode cX10_log 32 = .ok (.bipush 53, 2) := by decide +kernel
theorem dX10_log_34 : decode cX10_log 34 = .ok (.iconst 5, 1) := by decide +kernel
theorem dX10_log_35 : decode cX10_log 35 = .ok (.iload_n 1, 1) := by decide +kernel
theorem dX10_log_36 : decode cX10_log 36 = .ok (.imul, 1) := by decide +kernel
theorem dX10_log_37 : decode cX10_log 37 = .ok (.iadd, 1) := by decide +kernel
theorem dX10_log_38 : decode cX10_log 38 = .ok (.iload_n 2, 1) := by decide +kernel
theorem dX10_log_39 : decode cX10_log 39 = .ok (.iadd, 1) := by decide +kernel
theorem dX10_log_40 : decode cX10_log 40 = .ok (.iaload, 1) := by decide +kernel
theorem dX10_log_41 : decode cX10_log 41 = .ok (.goto 5, 3) := by decide +kernel
theorem dX10_log_44 : decode cX10_log 44 = .ok (.bipush (-2), 2) := by decide +kernel
theorem dX10_log_46 : decode cX10_log 46 = .ok (.ireturn, 1) := by decide +kernel
theorem dX10_count_0 : decode cX10_count 0 = .ok (.iload_n 1, 1) := by decide +kernel
theorem dX10_count_1 : decode cX10_count 1 = .ok (.tableswitch 121 0 8 #[51, 59, 67, 79, 87, 95, 103, 111, 116], 51) := by decide +kernel
theorem dX10_count_52 : decode cX10_count 52 = .ok (.aload_n 0, 1) := by decide +kernel
theorem dX10_count_53 : decode cX10_count 53 = .ok (.getfield 7, 3) := by decide +kernel
theorem dX10_count_56 : decode cX10_count 56 = .ok (.bipush 37, 2) := by decide +kernel
theorem dX10_count_58 : decode cX10_count 58 = .ok (.iaload, 1) := by decide +kernel
theorem dX10_count_59 : decode cX10_count 59 = .ok (.ireturn, 1) := by decide +kernel
theorem dX10_count_60 : decode cX10_count 60 = .ok (.aload_n 0, 1) := by decide +kernel
theorem dX10_count_61 : decode cX10_count 61 = .ok (.getfield 7, 3) := by decide +kernel
theorem dX10_count_64 : decode cX10_count 64 = .ok (.bipush 38, 2) := by decide +kernel
theorem dX10_count_66 : decode cX10_count 66 = .ok (.iaload, 1) := by decide +kernel
theorem dX10_count_67 : decode cX10_count 67 = .ok (.ireturn, 1) := by decide +kernel
theorem dX10_count_68 : decode cX10_count 68 = .ok (.aload_n 0, 1) := by decide +kernel
theorem dX10_count_69 : decode cX10_count 69 = .ok (.aload_n 0, 1) := by decide +kernel
theorem dX10_count_70 : decode cX10_count 70 = .ok (.getfield 7, 3) := by decide +kernel
theorem dX10_count_73 : decode cX10_count 73 = .ok (.bipush 37, 2) := by decide +kernel
theorem dX10_count_75 : decode cX10_count 75 = .ok (.iaload, 1) := by decide +kernel
theorem dX10_count_76 : decode cX10_count 76 = .ok (.invokevirtual 52, 3) := by decide +kernel
theorem dX10_count_79 : decode cX10_count 79 = .ok (.ireturn, 1) := by decide +kernel
theorem dX10_count_80 : decode cX10_count 80 = .ok (.aload_n 0, 1) := by decide +kernel
theorem dX10_count_81 : decode cX10_count 81 = .ok (.getfield 7, 3) := by decide +kernel
theorem dX10_count_84 : decode cX10_count 84 = .ok (.bipush 36, 2) := by decide +kernel
theorem dX10_count_86 : decode cX10_count 86 = .ok (.iaload, 1) := by decide +kernel
theorem dX10_count_87 : decode cX10_count 87 = .ok (.ireturn, 1) := by decide +kernel
theorem dX10_count_88 : decode cX10_count 88 = .ok (.aload_n 0, 1) := by decide +kernel
theorem dX10_count_89 : decode cX10_count 89 = .ok (.getfield 7, 3) := by decide +kernel
theorem dX10_count_92 : decode cX10_count 92 = .ok (.bipush 50, 2) := by decide +kernel
theorem dX10_count_94 : decode cX10_count 94 = .ok (.iaload, 1) := by decide +kernel
theorem dX10_count_95 : decode cX10_count 95 = .ok (.ireturn, 1) := by decide +kernel
theorem dX10_count_96 : decode cX10_count 96 = .ok (.aload_n 0, 1) := by decide +kernel
theorem dX10_count_97 : decode cX10_count 97 = .ok (.getfield 7, 3) := by decide +kernel
theorem dX10_count_100 : decode cX10_count 100 = .ok (.bipush 51, 2) := by decide +kernel
theorem dX10_count_102 : decode cX10_count 102 = .ok (.iaload, 1) := by decide +kernel
theorem dX10_count_103 : decode cX10_count 103 = .ok (.ireturn, 1) := by decide +kernel
theorem dX10_count_104 : decode cX10_count 104 = .ok (.aload_n 0, 1) := by decide +kernel
theorem dX10_count_105 : decode cX10_count 105 = .ok (.getfield 7, 3) := by decide +kernel
theorem dX10_count_108 : decode cX10_count 108 = .ok (.bipush 52, 2) := by decide +kernel
theorem dX10_count_110 : decode cX10_count 110 = .ok (.iaload, 1) := by decide +kernel
theorem dX10_count_111 : decode cX10_count 111 = .ok (.ireturn, 1) := by decide +kernel
theorem dX10_count_112 : decode cX10_count 112 = .ok (.aload_n 0, 1) := by decide +kernel
theorem dX10_count_113 : decode cX10_count 113 = .ok (.getfield 104, 3) := by decide +kernel
theorem dX10_count_116 : decode cX10_count 116 = .ok (.ireturn, 1) := by decide +kernel
theorem dX10_count_117 : decode cX10_count 117 = .ok (.aload_n 0, 1) := by decide +kernel
theorem dX10_count_118 : decode cX10_count 118 = .ok (.getfield 41, 3) := by decide +kernel
theorem dX10_count_121 : decode cX10_count 121 = .ok (.ireturn, 1) := by decide +kernel
theorem dX10_count_122 : decode cX10_count 122 = .ok (.bipush (-2), 2) := by decide +kernel
theorem dX10_count_124 : decode cX10_count 124 = .ok (.ireturn, 1) := by decide +kernel
theorem dX10_would_0 : decode cX10_would 0 = .ok (.aload_n 0, 1) := by decide +kernel
theorem dX10_would_1 : decode cX10_would 1 = .ok (.iload_n 1, 1) := by decide +kernel
theorem dX10_would_2 : decode cX10_would 2 = .ok (.iload_n 2, 1) := by decide +kernel
theorem dX10_would_3 : decode cX10_would 3 = .ok (.invokevirtual 76, 3) := by decide +kernel
theorem dX10_would_6 : decode cX10_would 6 = .ok (.istore_n 3, 1) := by decide +kernel
theorem dX10_would_7 : decode cX10_would 7 = .ok (.iload_n 3, 1) := by decide +kernel
theorem dX10_would_8 : decode cX10_would 8 = .ok (.ifCond .ge 5, 3) := by decide +kernel
theorem dX10_would_11 : decode cX10_would 11 = .ok (.iload_n 3, 1) := by decide +kernel
theorem dX10_would_12 : decode cX10_would 12 = .ok (.ireturn, 1) := by decide +kernel
theorem dX10_would_13 : decode cX10_would 13 = .ok (.aload_n 0, 1) := by decide +kernel
theorem dX10_would_14 : decode cX10_would 14 = .ok (.invokevirtual 107, 3) := by decide +kernel
theorem dX10_would_17 : decode cX10_would 17 = .ok (.aload_n 0, 1) := by decide +kernel
theorem dX10_would_18 : decode cX10_would 18 = .ok (.getfield 7, 3) := by decide +kernel
theorem dX10_would_21 : decode cX10_would 21 = .ok (.bipush 39, 2) := by decide +kernel
theorem dX10_would_23 : decode cX10_would 23 = .ok (.iaload, 1) := by decide +kernel
theorem dX10_would_24 : decode cX10_would 24 = .ok (.istore 4, 2) := by decide +kernel
theorem dX10_would_26 : decode cX10_would 26 = .ok (.aload_n 0, 1) := by decide +kernel
theorem dX10_would_27 : decode cX10_would 27 = .ok (.iload_n 1, 1) := by decide +kernel
theorem dX10_would_28 : decode cX10_would 28 = .ok (.iload_n 2, 1) := by decide +kernel
theorem dX10_would_29 : decode cX10_would 29 = .ok (.invokevirtual 79, 3) := by decide +kernel
theorem dX10_would_32 : decode cX10_would 32 = .ok (.pop, 1) := by decide +kernel
theorem dX10_would_33 : decode cX10_would 33 = .ok (.aload_n 0, 1) := by decide +kernel
theorem dX10_would_34 : decode cX10_would 34 = .ok (.getfield 7, 3) := by decide +kernel
theorem dX10_would_37 : decode cX10_would 37 = .ok (.bipush 39, 2) := by decide +kernel
theorem dX10_would_39 : decode cX10_would 39 = .ok (.iaload, 1) := by decide +kernel
theorem dX10_would_40 : decode cX10_would 40 = .ok (.iload 4, 2) := by decide +kernel
theorem dX10_would_42 : decode cX10_would 42 = .ok (.isub, 1) := by decide +kernel
theorem dX10_would_43 : decode cX10_would 43 = .ok (.istore 5, 2) := by decide +kernel
theorem dX10_would_45 : decode cX10_would 45 = .ok (.aload_n 0, 1) := by decide +kernel
theorem dX10_would_46 : decode cX10_would 46 = .ok (.invokevirtual 110, 3) := by decide +kernel
theorem dX10_would_49 : decode cX10_would 49 = .ok (.iload 5, 2) := by decide +kernel
theorem dX10_would_51 : decode cX10_would 51 = .ok (.ireturn, 1) := by decide +kernel
theorem dX10_costAt_0 : decode cX10_costAt 0 = .ok (.aload_n 0, 1) := by decide +kernel
theorem dX10_costAt_1 : decode cX10_costAt 1 = .ok (.getfield 7, 3) := by decide +kernel
theorem dX10_costAt_4 : decode cX10_costAt 4 = .ok (.bipush 37, 2) := by decide +kernel
theorem dX10_costAt_6 : decode cX10_costAt 6 = .ok (.iload_n 1, 1) := by decide +kernel
theorem dX10_costAt_7 : decode cX10_costAt 7 = .ok (.iastore, 1) := by decide +kernel
theorem dX10_costAt_8 : decode cX10_costAt 8 = .ok (.aload_n 0, 1) := by decide +kernel
theorem dX10_costAt_9 : decode cX10_costAt 9 = .ok (.invokevirtual 59, 3) := by decide +kernel
theorem dX10_costAt_12 : decode cX10_costAt 12 = .ok (.pop, 1) := by decide +kernel
theorem dX10_costAt_13 : decode cX10_costAt 13 = .ok (.aload_n 0, 1) := by decide +kernel
theorem dX10_costAt_14 : decode cX10_costAt 14 = .ok (.iload_n 2, 1) := by decide +kernel
theorem dX10_costAt_15 : decode cX10_costAt 15 = .ok (.iload_n 3, 1) := by decide +kernel
theorem dX10_costAt_16 : decode cX10_costAt 16 = .ok (.invokevirtual 79, 3) := by decide +kernel
theorem dX10_costAt_19 : decode cX10_costAt 19 = .ok (.pop, 1) := by decide +kernel
theorem dX10_costAt_20 : decode cX10_costAt 20 = .ok (.aload_n 0, 1) := by decide +kernel
theorem dX10_costAt_21 : decode cX10_costAt 21 = .ok (.getfield 7, 3) := by decide +kernel
theorem dX10_costAt_24 : decode cX10_costAt 24 = .ok (.bipush 39, 2) := by decide +kernel
theorem dX10_costAt_26 : decode cX10_costAt 26 = .ok (.iaload, 1) := by decide +kernel
theorem dX10_costAt_27 : decode cX10_costAt 27 = .ok (.ireturn, 1) := by decide +kernel
theorem dX10_price_0 : decode cX10_price 0 = .ok (.iload_n 1, 1) := by decide +kernel
theorem dX10_price_1 : decode cX10_price 1 = .ok (.iload_n 2, 1) := by decide +kernel
theorem dX10_price_2 : decode cX10_price 2 = .ok (.invokestatic 72, 3) := by decide +kernel
theorem dX10_price_5 : decode cX10_price 5 = .ok (.ifCond .ne 6, 3) := by decide +kernel
theorem dX10_price_8 : decode cX10_price 8 = .ok (.bipush (-2), 2) := by decide +kernel
theorem dX10_price_10 : decode cX10_price 10 = .ok (.ireturn, 1) := by decide +kernel
theorem dX10_price_11 : decode cX10_price 11 = .ok (.aload_n 0, 1) := by decide +kernel
theorem dX10_price_12 : decode cX10_price 12 = .ok (.invokevirtual 107, 3) := by decide +kernel
theorem dX10_price_15 : decode cX10_price 15 = .ok (.aload_n 0, 1) := by decide +kernel
theorem dX10_price_16 : decode cX10_price 16 = .ok (.aload_n 0, 1) := by decide +kernel
theorem dX10_price_17 : decode cX10_price 17 = .ok (.getfield 7, 3) := by decide +kernel
theorem dX10_price_20 : decode cX10_price 20 = .ok (.bipush 37, 2) := by decide +kernel
theorem dX10_price_22 : decode cX10_price 22 = .ok (.iaload, 1) := by decide +kernel
theorem dX10_price_23 : decode cX10_price 23 = .ok (.iload_n 1, 1) := by decide +kernel
theorem dX10_price_24 : decode cX10_price 24 = .ok (.iload_n 2, 1) := by decide +kernel
theorem dX10_price_25 : decode cX10_price 25 = .ok (.invokevirtual 113, 3) := by decide +kernel
theorem dX10_price_28 : decode cX10_price 28 = .ok (.istore_n 3, 1) := by decide +kernel
theorem dX10_price_29 : decode cX10_price 29 = .ok (.aload_n 0, 1) := by decide +kernel
theorem dX10_price_30 : decode cX10_price 30 = .ok (.invokevirtual 110, 3) := by decide +kernel
theorem dX10_price_33 : decode cX10_price 33 = .ok (.iload_n 3, 1) := by decide +kernel
theorem dX10_price_34 : decode cX10_price 34 = .ok (.ireturn, 1) := by decide +kernel
theorem dX10_farthest_0 : decode cX10_farthest 0 = .ok (.iload_n 1, 1) := by decide +kernel
theorem dX10_farthest_1 : decode cX10_farthest 1 = .ok (.iconst 1, 1) := by decide +kernel
theorem dX10_farthest_2 : decode cX10_farthest 2 = .ok (.sipush 999, 3) := by decide +kernel
theorem dX10_farthest_5 : decode cX10_farthest 5 = .ok (.invokestatic 33, 3) := by decide +kernel
theorem dX10_farthest_8 : decode cX10_farthest 8 = .ok (.ifCond .eq 7, 3) := by decide +kernel
theorem dX10_farthest_11 : decode cX10_farthest 11 = .ok (.iload_n 2, 1) := by decide +kernel
theorem dX10_farthest_12 : decode cX10_farthest 12 = .ok (.ifCond .ge 6, 3) := by decide +kernel
theorem dX10_farthest_15 : decode cX10_farthest 15 = .ok (.bipush (-2), 2) := by decide +kernel
theorem dX10_farthest_17 : decode cX10_farthest 17 = .ok (.ireturn, 1) := by decide +kernel
theorem dX10_farthest_18 : decode cX10_farthest 18 = .ok (.aload_n 0, 1) := by decide +kernel
theorem dX10_farthest_19 : decode cX10_farthest 19 = .ok (.invokevirtual 107, 3) := by decide +kernel
theorem dX10_farthest_22 : decode cX10_farthest 22 = .ok (.aload_n 0, 1) := by decide +kernel
theorem dX10_farthest_23 : decode cX10_farthest 23 = .ok (.getfield 7, 3) := by decide +kernel
theorem dX10_farthest_26 : decode cX10_farthest 26 = .ok (.bipush 37, 2) := by decide +kernel
theorem dX10_farthest_28 : decode cX10_farthest 28 = .ok (.iaload, 1) := by decide +kernel
theorem dX10_farthest_29 : decode cX10_farthest 29 = .ok (.istore_n 3, 1) := by decide +kernel
theorem dX10_farthest_30 : decode cX10_farthest 30 = .ok (.bipush (-6), 2) := by decide +kernel
theorem dX10_farthest_32 : decode cX10_farthest 32 = .ok (.istore 4, 2) := by decide +kernel
theorem dX10_farthest_34 : decode cX10_farthest 34 = .ok (.aload_n 0, 1) := by decide +kernel
theorem dX10_farthest_35 : decode cX10_farthest 35 = .ok (.iload_n 3, 1) := by decide +kernel
theorem dX10_farthest_36 : decode cX10_farthest 36 = .ok (.iconst 0, 1) := by decide +kernel
theorem dX10_farthest_37 : decode cX10_farthest 37 = .ok (.iload_n 1, 1) := by decide +kernel
theorem dX10_farthest_38 : decode cX10_farthest 38 = .ok (.invokevirtual 113, 3) := by decide +kernel
theorem dX10_farthest_41 : decode cX10_farthest 41 = .ok (.iload_n 2, 1) := by decide +kernel
theorem dX10_farthest_42 : decode cX10_farthest 42 = .ok (.if_icmp .gt 7, 3) := by decide +kernel
theorem dX10_farthest_45 : decode cX10_farthest 45 = .ok (.iconst 1, 1) := by decide +kernel
theorem dX10_farthest_46 : decode cX10_farthest 46 = .ok (.goto 4, 3) := by decide +kernel
theorem dX10_farthest_49 : decode cX10_farthest 49 = .ok (.iconst 0, 1) := by decide +kernel
theorem dX10_farthest_50 : decode cX10_farthest 50 = .ok (.istore 5, 2) := by decide +kernel
theorem dX10_farthest_52 : decode cX10_farthest 52 = .ok (.sipush 999, 3) := by decide +kernel
theorem dX10_farthest_55 : decode cX10_farthest 55 = .ok (.istore 6, 2) := by decide +kernel
theorem dX10_farthest_57 : decode cX10_farthest 57 = .ok (.iload 6, 2) := by decide +kernel
theorem dX10_farthest_59 : decode cX10_farthest 59 = .ok (.ifCond .lt 42, 3) := by decide +kernel
theorem dX10_farthest_62 : decode cX10_farthest 62 = .ok (.iload 4, 2) := by decide +kernel
theorem dX10_farthest_64 : decode cX10_farthest 64 = .ok (.bipush (-6), 2) := by decide +kernel
theorem dX10_farthest_66 : decode cX10_farthest 66 = .ok (.if_icmp .ne 35, 3) := by decide +kernel
theorem dX10_farthest_69 : decode cX10_farthest 69 = .ok (.iload 5, 2) := by decide +kernel
theorem dX10_farthest_71 : decode cX10_farthest 71 = .ok (.ifCond .eq 30, 3) := by decide +kernel
theorem dX10_farthest_74 : decode cX10_farthest 74 = .ok (.aload_n 0, 1) := by decide +kernel
theorem dX10_farthest_75 : decode cX10_farthest 75 = .ok (.iload_n 3, 1) := by decide +kernel
theorem dX10_farthest_76 : decode cX10_farthest 76 = .ok (.iload 6, 2) := by decide +kernel
theorem dX10_farthest_78 : decode cX10_farthest 78 = .ok (.iload_n 1, 1) := by decide +kernel
theorem dX10_farthest_79 : decode cX10_farthest 79 = .ok (.invokevirtual 113, 3) := by decide +kernel
theorem dX10_farthest_82 : decode cX10_farthest 82 = .ok (.iload_n 2, 1) := by decide +kernel
theorem dX10_farthest_83 : decode cX10_farthest 83 = .ok (.if_icmp .gt 8, 3) := by decide +kernel
theorem dX10_farthest_86 : decode cX10_farthest 86 = .ok (.iload 6, 2) := by decide +kernel
theorem dX10_farthest_88 : decode cX10_farthest 88 = .ok (.goto 5, 3) := by decide +kernel
theorem dX10_farthest_91 : decode cX10_farthest 91 = .ok (.bipush (-6), 2) := by decide +kernel
theorem dX10_farthest_93 : decode cX10_farthest 93 = .ok (.istore 4, 2) := by decide +kernel
theorem dX10_farthest_95 : decode cX10_farthest 95 = .ok (.iinc 6 (-1), 3) := by decide +kernel
theorem dX10_farthest_98 : decode cX10_farthest 98 = .ok (.goto (-41), 3) := by decide +kernel
theorem dX10_farthest_101 : decode cX10_farthest 101 = .ok (.aload_n 0, 1) := by decide +kernel
theorem dX10_farthest_102 : decode cX10_farthest 102 = .ok (.invokevirtual 110, 3) := by decide +kernel
theorem dX10_farthest_105 : decode cX10_farthest 105 = .ok (.iload 4, 2) := by decide +kernel
theorem dX10_farthest_107 : decode cX10_farthest 107 = .ok (.ireturn, 1) := by decide +kernel
theorem dX10_cheapest_0 : decode cX10_cheapest 0 = .ok (.iload_n 1, 1) := by decide +kernel
theorem dX10_cheapest_1 : decode cX10_cheapest 1 = .ok (.iload_n 2, 1) := by decide +kernel
theorem dX10_cheapest_2 : decode cX10_cheapest 2 = .ok (.invokestatic 72, 3) := by decide +kernel
theorem dX10_cheapest_5 : decode cX10_cheapest 5 = .ok (.ifCond .eq 12, 3) := by decide +kernel
theorem dX10_cheapest_8 : decode cX10_cheapest 8 = .ok (.iload_n 3, 1) := by decide +kernel
theorem dX10_cheapest_9 : decode cX10_cheapest 9 = .ok (.iconst 0, 1) := by decide +kernel
theorem dX10_cheapest_10 : decode cX10_cheapest 10 = .ok (.iconst 1, 1) := by decide +kernel
theorem dX10_cheapest_11 : decode cX10_cheapest 11 = .ok (.invokestatic 33, 3) := by decide +kernel
theorem dX10_cheapest_14 : decode cX10_cheapest 14 = .ok (.ifCond .ne 6, 3) := by decide +kernel
theorem dX10_cheapest_17 : decode cX10_cheapest 17 = .ok (.bipush (-2), 2) := by decide +kernel
theorem dX10_cheapest_19 : decode cX10_cheapest 19 = .ok (.ireturn, 1) := by decide +kernel
theorem dX10_cheapest_20 : decode cX10_cheapest 20 = .ok (.aload_n 0, 1) := by decide +kernel
theorem dX10_cheapest_21 : decode cX10_cheapest 21 = .ok (.invokevirtual 107, 3) := by decide +kernel
theorem dX10_cheapest_24 : decode cX10_cheapest 24 = .ok (.iconst 0, 1) := by decide +kernel
theorem dX10_cheapest_25 : decode cX10_cheapest 25 = .ok (.istore 4, 2) := by decide +kernel
theorem dX10_cheapest_27 : decode cX10_cheapest 27 = .ok (.bipush (-6), 2) := by decide +kernel
theorem dX10_cheapest_29 : decode cX10_cheapest 29 = .ok (.istore 5, 2) := by decide +kernel
theorem dX10_cheapest_31 : decode cX10_cheapest 31 = .ok (.iconst 0, 1) := by decide +kernel
theorem dX10_cheapest_32 : decode cX10_cheapest 32 = .ok (.istore 6, 2) := by decide +kernel
theorem dX10_cheapest_34 : decode cX10_cheapest 34 = .ok (.iload 6, 2) := by decide +kernel
theorem dX10_cheapest_36 : decode cX10_cheapest 36 = .ok (.bipush 24, 2) := by decide +kernel
theorem dX10_cheapest_38 : decode cX10_cheapest 38 = .ok (.if_icmp .ge 70, 3) := by decide +kernel
theorem dX10_cheapest_41 : decode cX10_cheapest 41 = .ok (.aload_n 0, 1) := by decide +kernel
theorem dX10_cheapest_42 : decode cX10_cheapest 42 = .ok (.sipush 3600, 3) := by decide +kernel
theorem dX10_cheapest_45 : decode cX10_cheapest 45 = .ok (.iload 6, 2) := by decide +kernel
theorem dX10_cheapest_47 : decode cX10_cheapest 47 = .ok (.imul, 1) := by decide +kernel
theorem dX10_cheapest_48 : decode cX10_cheapest 48 = .ok (.iload_n 1, 1) := by decide +kernel
theorem dX10_cheapest_49 : decode cX10_cheapest 49 = .ok (.iload_n 2, 1) := by decide +kernel
theorem dX10_cheapest_50 : decode cX10_cheapest 50 = .ok (.invokevirtual 113, 3) := by decide +kernel
theorem dX10_cheapest_53 : decode cX10_cheapest 53 = .ok (.istore 7, 2) := by decide +kernel
theorem dX10_cheapest_55 : decode cX10_cheapest 55 = .ok (.iload 6, 2) := by decide +kernel
theorem dX10_cheapest_57 : decode cX10_cheapest 57 = .ok (.ifCond .eq 10, 3) := by decide +kernel
theorem dX10_cheapest_60 : decode cX10_cheapest 60 = .ok (.iload 7, 2) := by decide +kernel
theorem dX10_cheapest_62 : decode cX10_cheapest 62 = .ok (.iload 5, 2) := by decide +kernel
theorem dX10_cheapest_64 : decode cX10_cheapest 64 = .ok (.if_icmp .ge 7, 3) := by decide +kernel
theorem dX10_cheapest_67 : decode cX10_cheapest 67 = .ok (.iconst 1, 1) := by decide +kernel
theorem dX10_cheapest_68 : decode cX10_cheapest 68 = .ok (.goto 4, 3) := by decide +kernel
theorem dX10_cheapest_71 : decode cX10_cheapest 71 = .ok (.iconst 0, 1) := by decide +kernel
theorem dX10_cheapest_72 : decode cX10_cheapest 72 = .ok (.istore 8, 2) := by decide +kernel
theorem dX10_cheapest_74 : decode cX10_cheapest 74 = .ok (.iload 8, 2) := by decide +kernel
theorem dX10_cheapest_76 : decode cX10_cheapest 76 = .ok (.ifCond .eq 8, 3) := by decide +kernel
theorem dX10_cheapest_79 : decode cX10_cheapest 79 = .ok (.iload 6, 2) := by decide +kernel
theorem dX10_cheapest_81 : decode cX10_cheapest 81 = .ok (.goto 5, 3) := by decide +kernel
theorem dX10_cheapest_84 : decode cX10_cheapest 84 = .ok (.iload 4, 2) := by decide +kernel
theorem dX10_cheapest_86 : decode cX10_cheapest 86 = .ok (.istore 4, 2) := by decide +kernel
theorem dX10_cheapest_88 : decode cX10_cheapest 88 = .ok (.iload 8, 2) := by decide +kernel
theorem dX10_cheapest_90 : decode cX10_cheapest 90 = .ok (.ifCond .eq 8, 3) := by decide +kernel
theorem dX10_cheapest_93 : decode cX10_cheapest 93 = .ok (.iload 7, 2) := by decide +kernel
theorem dX10_cheapest_95 : decode cX10_cheapest 95 = .ok (.goto 5, 3) := by decide +kernel
theorem dX10_cheapest_98 : decode cX10_cheapest 98 = .ok (.iload 5, 2) := by decide +kernel
theorem dX10_cheapest_100 : decode cX10_cheapest 100 = .ok (.istore 5, 2) := by decide +kernel
theorem dX10_cheapest_102 : decode cX10_cheapest 102 = .ok (.iinc 6 1, 3) := by decide +kernel
theorem dX10_cheapest_105 : decode cX10_cheapest 105 = .ok (.goto (-71), 3) := by decide +kernel
theorem dX10_cheapest_108 : decode cX10_cheapest 108 = .ok (.aload_n 0, 1) := by decide +kernel
theorem dX10_cheapest_109 : decode cX10_cheapest 109 = .ok (.invokevirtual 110, 3) := by decide +kernel
theorem dX10_cheapest_112 : decode cX10_cheapest 112 = .ok (.iload_n 3, 1) := by decide +kernel
theorem dX10_cheapest_113 : decode cX10_cheapest 113 = .ok (.ifCond .ne 8, 3) := by decide +kernel
theorem dX10_cheapest_116 : decode cX10_cheapest 116 = .ok (.iload 4, 2) := by decide +kernel
theorem dX10_cheapest_118 : decode cX10_cheapest 118 = .ok (.goto 5, 3) := by decide +kernel
theorem dX10_cheapest_121 : decode cX10_cheapest 121 = .ok (.iload 5, 2) := by decide +kernel
theorem dX10_cheapest_123 : decode cX10_cheapest 123 = .ok (.ireturn, 1) := by decide +kernel
theorem dX10_put_0 : decode cX10_put 0 = .ok (.iconst 0, 1) := by decide +kernel
theorem dX10_put_1 : decode cX10_put 1 = .ok (.istore_n 3, 1) := by decide +kernel
theorem dX10_put_2 : decode cX10_put 2 = .ok (.lload_n 1, 1) := by decide +kernel
theorem dX10_put_3 : decode cX10_put 3 = .ok (.lstore 4, 2) := by decide +kernel
theorem dX10_put_5 : decode cX10_put 5 = .ok (.iconst 1, 1) := by decide +kernel
theorem dX10_put_6 : decode cX10_put 6 = .ok (.istore 6, 2) := by decide +kernel
theorem dX10_put_8 : decode cX10_put 8 = .ok (.lload 4, 2) := by decide +kernel
theorem dX10_put_10 : decode cX10_put 10 = .ok (.lconst 0, 1) := by decide +kernel
theorem dX10_put_11 : decode cX10_put 11 = .ok (.lcmp, 1) := by decide +kernel
theorem dX10_put_12 : decode cX10_put 12 = .ok (.ifCond .eq 37, 3) := by decide +kernel
theorem dX10_put_15 : decode cX10_put 15 = .ok (.iload 6, 2) := by decide +kernel
theorem dX10_put_17 : decode cX10_put 17 = .ok (.ifCond .eq 32, 3) := by decide +kernel
theorem dX10_put_20 : decode cX10_put 20 = .ok (.lload 4, 2) := by decide +kernel
theorem dX10_put_22 : decode cX10_put 22 = .ok (.ldc2_w 117, 3) := by decide +kernel
theorem dX10_put_25 : decode cX10_put 25 = .ok (.land, 1) := by decide +kernel
theorem dX10_put_26 : decode cX10_put 26 = .ok (.l2i, 1) := by decide +kernel
theorem dX10_put_27 : decode cX10_put 27 = .ok (.bipush 33, 2) := by decide +kernel
theorem dX10_put_29 : decode cX10_put 29 = .ok (.bipush 126, 2) := by decide +kernel
theorem dX10_put_31 : decode cX10_put 31 = .ok (.invokestatic 33, 3) := by decide +kernel
theorem dX10_put_34 : decode cX10_put 34 = .ok (.istore 6, 2) := by decide +kernel
theorem dX10_put_36 : decode cX10_put 36 = .ok (.lload 4, 2) := by decide +kernel
theorem dX10_put_38 : decode cX10_put 38 = .ok (.bipush 8, 2) := by decide +kernel
theorem dX10_put_40 : decode cX10_put 40 = .ok (.lushr, 1) := by decide +kernel
theorem dX10_put_41 : decode cX10_put 41 = .ok (.lstore 4, 2) := by decide +kernel
theorem dX10_put_43 : decode cX10_put 43 = .ok (.iinc 3 1, 3) := by decide +kernel
theorem dX10_put_46 : decode cX10_put 46 = .ok (.goto (-38), 3) := by decide +kernel
theorem dX10_put_49 : decode cX10_put 49 = .ok (.iload_n 3, 1) := by decide +kernel
theorem dX10_put_50 : decode cX10_put 50 = .ok (.ifCond .eq 8, 3) := by decide +kernel
theorem dX10_put_53 : decode cX10_put 53 = .ok (.iload 6, 2) := by decide +kernel
theorem dX10_put_55 : decode cX10_put 55 = .ok (.ifCond .ne 6, 3) := by decide +kernel
theorem dX10_put_58 : decode cX10_put 58 = .ok (.bipush (-2), 2) := by decide +kernel
theorem dX10_put_60 : decode cX10_put 60 = .ok (.ireturn, 1) := by decide +kernel
theorem dX10_put_61 : decode cX10_put 61 = .ok (.aload_n 0, 1) := by decide +kernel
theorem dX10_put_62 : decode cX10_put 62 = .ok (.getfield 104, 3) := by decide +kernel
theorem dX10_put_65 : decode cX10_put 65 = .ok (.iload_n 3, 1) := by decide +kernel
theorem dX10_put_66 : decode cX10_put 66 = .ok (.iadd, 1) := by decide +kernel
theorem dX10_put_67 : decode cX10_put 67 = .ok (.bipush 80, 2) := by decide +kernel
theorem dX10_put_69 : decode cX10_put 69 = .ok (.if_icmp .le 6, 3) := by decide +kernel
theorem dX10_put_72 : decode cX10_put 72 = .ok (.bipush (-4), 2) := by decide +kernel
theorem dX10_put_74 : decode cX10_put 74 = .ok (.ireturn, 1) := by decide +kernel
theorem dX10_put_75 : decode cX10_put 75 = .ok (.iload_n 3, 1) := by decide +kernel
theorem dX10_put_76 : decode cX10_put 76 = .ok (.iconst 1, 1) := by decide +kernel
theorem dX10_put_77 : decode cX10_put 77 = .ok (.isub, 1) := by decide +kernel
theorem dX10_put_78 : decode cX10_put 78 = .ok (.istore 7, 2) := by decide +kernel
theorem dX10_put_80 : decode cX10_put 80 = .ok (.iload 7, 2) := by decide +kernel
theorem dX10_put_82 : decode cX10_put 82 = .ok (.ifCond .lt 41, 3) := by decide +kernel
theorem dX10_put_85 : decode cX10_put 85 = .ok (.aload_n 0, 1) := by decide +kernel
theorem dX10_put_86 : decode cX10_put 86 = .ok (.getfield 26, 3) := by decide +kernel
theorem dX10_put_89 : decode cX10_put 89 = .ok (.aload_n 0, 1) := by decide +kernel
theorem dX10_put_90 : decode cX10_put 90 = .ok (.getfield 104, 3) := by decide +kernel
theorem dX10_put_93 : decode cX10_put 93 = .ok (.lload_n 1, 1) := by decide +kernel
theorem dX10_put_94 : decode cX10_put 94 = .ok (.bipush 8, 2) := by decide +kernel
theorem dX10_put_96 : decode cX10_put 96 = .ok (.iload 7, 2) := by decide +kernel
theorem dX10_put_98 : decode cX10_put 98 = .ok (.imul, 1) := by decide +kernel
theorem dX10_put_99 : decode cX10_put 99 = .ok (.lushr, 1) := by decide +kernel
theorem dX10_put_100 : decode cX10_put 100 = .ok (.ldc2_w 117, 3) := by decide +kernel
theorem dX10_put_103 : decode cX10_put 103 = .ok (.land, 1) := by decide +kernel
theorem dX10_put_104 : decode cX10_put 104 = .ok (.l2i, 1) := by decide +kernel
theorem dX10_put_105 : decode cX10_put 105 = .ok (.i2c, 1) := by decide +kernel
theorem dX10_put_106 : decode cX10_put 106 = .ok (.castore, 1) := by decide +kernel
theorem dX10_put_107 : decode cX10_put 107 = .ok (.aload_n 0, 1) := by decide +kernel
theorem dX10_put_108 : decode cX10_put 108 = .ok (.dup, 1) := by decide +kernel
theorem dX10_put_109 : decode cX10_put 109 = .ok (.getfield 104, 3) := by decide +kernel
theorem dX10_put_112 : decode cX10_put 112 = .ok (.iconst 1, 1) := by decide +kernel
theorem dX10_put_113 : decode cX10_put 113 = .ok (.iadd, 1) := by decide +kernel
theorem dX10_put_114 : decode cX10_put 114 = .ok (.putfield 104, 3) := by decide +kernel
theorem dX10_put_117 : decode cX10_put 117 = .ok (.iinc 7 (-1), 3) := by decide +kernel
theorem dX10_put_120 : decode cX10_put 120 = .ok (.goto (-40), 3) := by decide +kernel
theorem dX10_put_123 : decode cX10_put 123 = .ok (.aload_n 0, 1) := by decide +kernel
theorem dX10_put_124 : decode cX10_put 124 = .ok (.getfield 104, 3) := by decide +kernel
theorem dX10_put_127 : decode cX10_put 127 = .ok (.ireturn, 1) := by decide +kernel
theorem dX10_wipe_0 : decode cX10_wipe 0 = .ok (.aload_n 0, 1) := by decide +kernel
theorem dX10_wipe_1 : decode cX10_wipe 1 = .ok (.getfield 104, 3) := by decide +kernel
theorem dX10_wipe_4 : decode cX10_wipe 4 = .ok (.istore_n 1, 1) := by decide +kernel
theorem dX10_wipe_5 : decode cX10_wipe 5 = .ok (.aload_n 0, 1) := by decide +kernel
theorem dX10_wipe_6 : decode cX10_wipe 6 = .ok (.iconst 0, 1) := by decide +kernel
theorem dX10_wipe_7 : decode cX10_wipe 7 = .ok (.putfield 104, 3) := by decide +kernel
theorem dX10_wipe_10 : decode cX10_wipe 10 = .ok (.iload_n 1, 1) := by decide +kernel
theorem dX10_wipe_11 : decode cX10_wipe 11 = .ok (.ireturn, 1) := by decide +kernel
theorem dX10_letter_0 : decode cX10_letter 0 = .ok (.aload_n 0, 1) := by decide +kernel
theorem dX10_letter_1 : decode cX10_letter 1 = .ok (.getfield 119, 3) := by decide +kernel
theorem dX10_letter_4 : decode cX10_letter 4 = .ok (.aload_n 0, 1) := by decide +kernel
theorem dX10_letter_5 : decode cX10_letter 5 = .ok (.getfield 104, 3) := by decide +kernel
theorem dX10_letter_8 : decode cX10_letter 8 = .ok (.if_icmp .ge 15, 3) := by decide +kernel
theorem dX10_letter_11 : decode cX10_letter 11 = .ok (.aload_n 0, 1) := by decide +kernel
theorem dX10_letter_12 : decode cX10_letter 12 = .ok (.getfield 26, 3) := by decide +kernel
theorem dX10_letter_15 : decode cX10_letter 15 = .ok (.aload_n 0, 1) := by decide +kernel
theorem dX10_letter_16 : decode cX10_letter 16 = .ok (.getfield 119, 3) := by decide +kernel
theorem dX10_letter_19 : decode cX10_letter 19 = .ok (.caload, 1) := by decide +kernel
theorem dX10_letter_20 : decode cX10_letter 20 = .ok (.goto 5, 3) := by decide +kernel
theorem dX10_letter_23 : decode cX10_letter 23 = .ok (.bipush (-6), 2) := by decide +kernel
theorem dX10_letter_25 : decode cX10_letter 25 = .ok (.ireturn, 1) := by decide +kernel
theorem dX10_wants_0 : decode cX10_wants 0 = .ok (.aload_n 0, 1) := by decide +kernel
theorem dX10_wants_1 : decode cX10_wants 1 = .ok (.getfield 122, 3) := by decide +kernel
theorem dX10_wants_4 : decode cX10_wants 4 = .ok (.bipush (-6), 2) := by decide +kernel
theorem dX10_wants_6 : decode cX10_wants 6 = .ok (.if_icmp .ne 30, 3) := by decide +kernel
theorem dX10_wants_9 : decode cX10_wants 9 = .ok (.aload_n 0, 1) := by decide +kernel
theorem dX10_wants_10 : decode cX10_wants 10 = .ok (.iload_n 1, 1) := by decide +kernel
theorem dX10_wants_11 : decode cX10_wants 11 = .ok (.ifCond .eq 8, 3) := by decide +kernel
theorem dX10_wants_14 : decode cX10_wants 14 = .ok (.bipush (-6), 2) := by decide +kernel
theorem dX10_wants_16 : decode cX10_wants 16 = .ok (.goto 7, 3) := by decide +kernel
theorem dX10_wants_19 : decode cX10_wants 19 = .ok (.aload_n 0, 1) := by decide +kernel
theorem dX10_wants_20 : decode cX10_wants 20 = .ok (.getfield 119, 3) := by decide +kernel
theorem dX10_wants_23 : decode cX10_wants 23 = .ok (.putfield 122, 3) := by decide +kernel
theorem dX10_wants_26 : decode cX10_wants 26 = .ok (.aload_n 0, 1) := by decide +kernel
theorem dX10_wants_27 : decode cX10_wants 27 = .ok (.dup, 1) := by decide +kernel
theorem dX10_wants_28 : decode cX10_wants 28 = .ok (.getfield 119, 3) := by decide +kernel
theorem dX10_wants_31 : decode cX10_wants 31 = .ok (.iconst 1, 1) := by decide +kernel
theorem dX10_wants_32 : decode cX10_wants 32 = .ok (.iadd, 1) := by decide +kernel
theorem dX10_wants_33 : decode cX10_wants 33 = .ok (.putfield 119, 3) := by decide +kernel
theorem dX10_wants_36 : decode cX10_wants 36 = .ok (.return_, 1) := by decide +kernel
theorem dX10_number_0 : decode cX10_number 0 = .ok (.aload_n 0, 1) := by decide +kernel
theorem dX10_number_1 : decode cX10_number 1 = .ok (.invokevirtual 125, 3) := by decide +kernel
theorem dX10_number_4 : decode cX10_number 4 = .ok (.bipush 48, 2) := by decide +kernel
theorem dX10_number_6 : decode cX10_number 6 = .ok (.isub, 1) := by decide +kernel
theorem dX10_number_7 : decode cX10_number 7 = .ok (.istore_n 1, 1) := by decide +kernel
theorem dX10_number_8 : decode cX10_number 8 = .ok (.aload_n 0, 1) := by decide +kernel
theorem dX10_number_9 : decode cX10_number 9 = .ok (.iload_n 1, 1) := by decide +kernel
theorem dX10_number_10 : decode cX10_number 10 = .ok (.iconst 0, 1) := by decide +kernel
theorem dX10_number_11 : decode cX10_number 11 = .ok (.bipush 9, 2) := by decide +kernel
theorem dX10_number_13 : decode cX10_number 13 = .ok (.invokestatic 33, 3) := by decide +kernel
theorem dX10_number_16 : decode cX10_number 16 = .ok (.invokevirtual 128, 3) := by decide +kernel
theorem dX10_number_19 : decode cX10_number 19 = .ok (.aload_n 0, 1) := by decide +kernel
theorem dX10_number_20 : decode cX10_number 20 = .ok (.invokevirtual 125, 3) := by decide +kernel
theorem dX10_number_23 : decode cX10_number 23 = .ok (.bipush 48, 2) := by decide +kernel
theorem dX10_number_25 : decode cX10_number 25 = .ok (.isub, 1) := by decide +kernel
theorem dX10_number_26 : decode cX10_number 26 = .ok (.istore_n 2, 1) := by decide +kernel
theorem dX10_number_27 : decode cX10_number 27 = .ok (.aload_n 0, 1) := by decide +kernel
theorem dX10_number_28 : decode cX10_number 28 = .ok (.getfield 122, 3) := by decide +kernel
theorem dX10_number_31 : decode cX10_number 31 = .ok (.bipush (-6), 2) := by decide +kernel
theorem dX10_number_33 : decode cX10_number 33 = .ok (.if_icmp .ne 57, 3) := by decide +kernel
theorem dX10_number_36 : decode cX10_number 36 = .ok (.iload_n 1, 1) := by decide +kernel
theorem dX10_number_37 : decode cX10_number 37 = .ok (.ifCond .le 53, 3) := by decide +kernel
theorem dX10_number_40 : decode cX10_number 40 = .ok (.iload_n 2, 1) := by decide +kernel
theorem dX10_number_41 : decode cX10_number 41 = .ok (.iconst 0, 1) := by decide +kernel
theorem dX10_number_42 : decode cX10_number 42 = .ok (.bipush 9, 2) := by decide +kernel
theorem dX10_number_44 : decode cX10_number 44 = .ok (.invokestatic 33, 3) := by decide +kernel
theorem dX10_number_47 : decode cX10_number 47 = .ok (.ifCond .eq 43, 3) := by decide +kernel
theorem dX10_number_50 : decode cX10_number 50 = .ok (.bipush 10, 2) := by decide +kernel
theorem dX10_number_52 : decode cX10_number 52 = .ok (.iload_n 1, 1) := by decide +kernel
theorem dX10_number_53 : decode cX10_number 53 = .ok (.imul, 1) := by decide +kernel
theorem dX10_number_54 : decode cX10_number 54 = .ok (.iload_n 2, 1) := by decide +kernel
theorem dX10_number_55 : decode cX10_number 55 = .ok (.iadd, 1) := by decide +kernel
theorem dX10_number_56 : decode cX10_number 56 = .ok (.sipush 9999, 3) := by decide +kernel
theorem dX10_number_59 : decode cX10_number 59 = .ok (.if_icmp .gt 31, 3) := by decide +kernel
theorem dX10_number_62 : decode cX10_number 62 = .ok (.bipush 10, 2) := by decide +kernel
theorem dX10_number_64 : decode cX10_number 64 = .ok (.iload_n 1, 1) := by decide +kernel
theorem dX10_number_65 : decode cX10_number 65 = .ok (.imul, 1) := by decide +kernel
theorem dX10_number_66 : decode cX10_number 66 = .ok (.iload_n 2, 1) := by decide +kernel
theorem dX10_number_67 : decode cX10_number 67 = .ok (.iadd, 1) := by decide +kernel
theorem dX10_number_68 : decode cX10_number 68 = .ok (.istore_n 1, 1) := by decide +kernel
theorem dX10_number_69 : decode cX10_number 69 = .ok (.aload_n 0, 1) := by decide +kernel
theorem dX10_number_70 : decode cX10_number 70 = .ok (.dup, 1) := by decide +kernel
theorem dX10_number_71 : decode cX10_number 71 = .ok (.getfield 119, 3) := by decide +kernel
theorem dX10_number_74 : decode cX10_number 74 = .ok (.iconst 1, 1) := by decide +kernel
theorem dX10_number_75 : decode cX10_number 75 = .ok (.iadd, 1) := by decide +kernel
theorem dX10_number_76 : decode cX10_number 76 = .ok (.putfield 119, 3) := by decide +kernel
theorem dX10_number_79 : decode cX10_number 79 = .ok (.aload_n 0, 1) := by decide +kernel
theorem dX10_number_80 : decode cX10_number 80 = .ok (.invokevirtual 125, 3) := by decide +kernel
theorem dX10_number_83 : decode cX10_number 83 = .ok (.bipush 48, 2) := by decide +kernel
theorem dX10_number_85 : decode cX10_number 85 = .ok (.isub, 1) := by decide +kernel
theorem dX10_number_86 : decode cX10_number 86 = .ok (.istore_n 2, 1) := by decide +kernel
theorem dX10_number_87 : decode cX10_number 87 = .ok (.goto (-60), 3) := by decide +kernel
theorem dX10_number_90 : decode cX10_number 90 = .ok (.iload_n 1, 1) := by decide +kernel
theorem dX10_number_91 : decode cX10_number 91 = .ok (.ireturn, 1) := by decide +kernel
theorem dX10_readOrder_0 : decode cX10_readOrder 0 = .ok (.iconst 3, 1) := by decide +kernel
theorem dX10_readOrder_1 : decode cX10_readOrder 1 = .ok (.aload_n 0, 1) := by decide +kernel
theorem dX10_readOrder_2 : decode cX10_readOrder 2 = .ok (.getfield 132, 3) := by decide +kernel
theorem dX10_readOrder_5 : decode cX10_readOrder 5 = .ok (.imul, 1) := by decide +kernel
theorem dX10_readOrder_6 : decode cX10_readOrder 6 = .ok (.istore_n 1, 1) := by decide +kernel
theorem dX10_readOrder_7 : decode cX10_readOrder 7 = .ok (.aload_n 0, 1) := by decide +kernel
theorem dX10_readOrder_8 : decode cX10_readOrder 8 = .ok (.invokevirtual 125, 3) := by decide +kernel
theorem dX10_readOrder_11 : decode cX10_readOrder 11 = .ok (.istore_n 2, 1) := by decide +kernel
theorem dX10_readOrder_12 : decode cX10_readOrder 12 = .ok (.aload_n 0, 1) := by decide +kernel
theorem dX10_readOrder_13 : decode cX10_readOrder 13 = .ok (.getfield 30, 3) := by decide +kernel
theorem dX10_readOrder_16 : decode cX10_readOrder 16 = .ok (.iload_n 1, 1) := by decide +kernel
theorem dX10_readOrder_17 : decode cX10_readOrder 17 = .ok (.iload_n 2, 1) := by decide +kernel
theorem dX10_readOrder_18 : decode cX10_readOrder 18 = .ok (.iastore, 1) := by decide +kernel
theorem dX10_readOrder_19 : decode cX10_readOrder 19 = .ok (.aload_n 0, 1) := by decide +kernel
theorem dX10_readOrder_20 : decode cX10_readOrder 20 = .ok (.iload_n 2, 1) := by decide +kernel
theorem dX10_readOrder_21 : decode cX10_readOrder 21 = .ok (.bipush 104, 2) := by decide +kernel
theorem dX10_readOrder_23 : decode cX10_readOrder 23 = .ok (.if_icmp .eq 33, 3) := by decide +kernel
theorem dX10_readOrder_26 : decode cX10_readOrder 26 = .ok (.iload_n 2, 1) := by decide +kernel
theorem dX10_readOrder_27 : decode cX10_readOrder 27 = .ok (.bipush 100, 2) := by decide +kernel
theorem dX10_readOrder_29 : decode cX10_readOrder 29 = .ok (.if_icmp .eq 27, 3) := by decide +kernel
theorem dX10_readOrder_32 : decode cX10_readOrder 32 = .ok (.iload_n 2, 1) := by decide +kernel
theorem dX10_readOrder_33 : decode cX10_readOrder 33 = .ok (.bipush 119, 2) := by decide +kernel
theorem dX10_readOrder_35 : decode cX10_readOrder 35 = .ok (.if_icmp .eq 21, 3) := by decide +kernel
theorem dX10_readOrder_38 : decode cX10_readOrder 38 = .ok (.iload_n 2, 1) := by decide +kernel
theorem dX10_readOrder_39 : decode cX10_readOrder 39 = .ok (.bipush 115, 2) := by decide +kernel
theorem dX10_readOrder_41 : decode cX10_readOrder 41 = .ok (.if_icmp .eq 15, 3) := by decide +kernel
theorem dX10_readOrder_44 : decode cX10_readOrder 44 = .ok (.iload_n 2, 1) := by decide +kernel
theorem dX10_readOrder_45 : decode cX10_readOrder 45 = .ok (.bipush 120, 2) := by decide +kernel
theorem dX10_readOrder_47 : decode cX10_readOrder 47 = .ok (.if_icmp .eq 9, 3) := by decide +kernel
theorem dX10_readOrder_50 : decode cX10_readOrder 50 = .ok (.iload_n 2, 1) := by decide +kernel
theorem dX10_readOrder_51 : decode cX10_readOrder 51 = .ok (.bipush 101, 2) := by decide +kernel
theorem dX10_readOrder_53 : decode cX10_readOrder 53 = .ok (.if_icmp .ne 7, 3) := by decide +kernel
theorem dX10_readOrder_56 : decode cX10_readOrder 56 = .ok (.iconst 1, 1) := by decide +kernel
theorem dX10_readOrder_57 : decode cX10_readOrder 57 = .ok (.goto 4, 3) := by decide +kernel
theorem dX10_readOrder_60 : decode cX10_readOrder 60 = .ok (.iconst 0, 1) := by decide +kernel
theorem dX10_readOrder_61 : decode cX10_readOrder 61 = .ok (.invokevirtual 128, 3) := by decide +kernel
theorem dX10_readOrder_64 : decode cX10_readOrder 64 = .ok (.iload_n 2, 1) := by decide +kernel
theorem dX10_readOrder_65 : decode cX10_readOrder 65 = .ok (.bipush 100, 2) := by decide +kernel
theorem dX10_readOrder_67 : decode cX10_readOrder 67 = .ok (.if_icmp .eq 9, 3) := by decide +kernel
theorem dX10_readOrder_70 : decode cX10_readOrder 70 = .ok (.iload_n 2, 1) := by decide +kernel
theorem dX10_readOrder_71 : decode cX10_readOrder 71 = .ok (.bipush 119, 2) := by decide +kernel
theorem dX10_readOrder_73 : decode cX10_readOrder 73 = .ok (.if_icmp .ne 15, 3) := by decide +kernel
theorem dX10_readOrder_76 : decode cX10_readOrder 76 = .ok (.aload_n 0, 1) := by decide +kernel
theorem dX10_readOrder_77 : decode cX10_readOrder 77 = .ok (.getfield 30, 3) := by decide +kernel
theorem dX10_readOrder_80 : decode cX10_readOrder 80 = .ok (.iload_n 1, 1) := by decide +kernel
theorem dX10_readOrder_81 : decode cX10_readOrder 81 = .ok (.iconst 1, 1) := by decide +kernel
theorem dX10_readOrder_82 : decode cX10_readOrder 82 = .ok (.iadd, 1) := by decide +kernel
theorem dX10_readOrder_83 : decode cX10_readOrder 83 = .ok (.aload_n 0, 1) := by decide +kernel
theorem dX10_readOrder_84 : decode cX10_readOrder 84 = .ok (.invokevirtual 135, 3) := by decide +kernel
theorem dX10_readOrder_87 : decode cX10_readOrder 87 = .ok (.iastore, 1) := by decide +kernel
theorem dX10_readOrder_88 : decode cX10_readOrder 88 = .ok (.iload_n 2, 1) := by decide +kernel
theorem dX10_readOrder_89 : decode cX10_readOrder 89 = .ok (.bipush 100, 2) := by decide +kernel
theorem dX10_readOrder_91 : decode cX10_readOrder 91 = .ok (.if_icmp .ne 33, 3) := by decide +kernel
theorem dX10_readOrder_94 : decode cX10_readOrder 94 = .ok (.aload_n 0, 1) := by decide +kernel
theorem dX10_readOrder_95 : decode cX10_readOrder 95 = .ok (.aload_n 0, 1) := by decide +kernel
theorem dX10_readOrder_96 : decode cX10_readOrder 96 = .ok (.invokevirtual 125, 3) := by decide +kernel
theorem dX10_readOrder_99 : decode cX10_readOrder 99 = .ok (.bipush 47, 2) := by decide +kernel
theorem dX10_readOrder_101 : decode cX10_readOrder 101 = .ok (.if_icmp .ne 7, 3) := by decide +kernel
theorem dX10_readOrder_104 : decode cX10_readOrder 104 = .ok (.iconst 1, 1) := by decide +kernel
theorem dX10_readOrder_105 : decode cX10_readOrder 105 = .ok (.goto 4, 3) := by decide +kernel
theorem dX10_readOrder_108 : decode cX10_readOrder 108 = .ok (.iconst 0, 1) := by decide +kernel
theorem dX10_readOrder_109 : decode cX10_readOrder 109 = .ok (.invokevirtual 128, 3) := by decide +kernel
theorem dX10_readOrder_112 : decode cX10_readOrder 112 = .ok (.aload_n 0, 1) := by decide +kernel
theorem dX10_readOrder_113 : decode cX10_readOrder 113 = .ok (.getfield 30, 3) := by decide +kernel
theorem dX10_readOrder_116 : decode cX10_readOrder 116 = .ok (.iload_n 1, 1) := by decide +kernel
theorem dX10_readOrder_117 : decode cX10_readOrder 117 = .ok (.iconst 2, 1) := by decide +kernel
theorem dX10_readOrder_118 : decode cX10_readOrder 118 = .ok (.iadd, 1) := by decide +kernel
theorem dX10_readOrder_119 : decode cX10_readOrder 119 = .ok (.aload_n 0, 1) := by decide +kernel
theorem dX10_readOrder_120 : decode cX10_readOrder 120 = .ok (.invokevirtual 135, 3) := by decide +kernel
theorem dX10_readOrder_123 : decode cX10_readOrder 123 = .ok (.iastore, 1) := by decide +kernel
theorem dX10_readOrder_124 : decode cX10_readOrder 124 = .ok (.aload_n 0, 1) := by decide +kernel
theorem dX10_readOrder_125 : decode cX10_readOrder 125 = .ok (.dup, 1) := by decide +kernel
theorem dX10_readOrder_126 : decode cX10_readOrder 126 = .ok (.getfield 132, 3) := by decide +kernel
theorem dX10_readOrder_129 : decode cX10_readOrder 129 = .ok (.iconst 1, 1) := by decide +kernel
theorem dX10_readOrder_130 : decode cX10_readOrder 130 = .ok (.iadd, 1) := by decide +kernel
theorem dX10_readOrder_131 : decode cX10_readOrder 131 = .ok (.putfield 132, 3) := by decide +kernel
theorem dX10_readOrder_134 : decode cX10_readOrder 134 = .ok (.return_, 1) := by decide +kernel
theorem dX10_readPad_0 : decode cX10_readPad 0 = .ok (.aload_n 0, 1) := by decide +kernel
theorem dX10_readPad_1 : decode cX10_readPad 1 = .ok (.iconst 0, 1) := by decide +kernel
theorem dX10_readPad_2 : decode cX10_readPad 2 = .ok (.putfield 132, 3) := by decide +kernel
theorem dX10_readPad_5 : decode cX10_readPad 5 = .ok (.aload_n 0, 1) := by decide +kernel
theorem dX10_readPad_6 : decode cX10_readPad 6 = .ok (.iconst 0, 1) := by decide +kernel
theorem dX10_readPad_7 : decode cX10_readPad 7 = .ok (.putfield 119, 3) := by decide +kernel
theorem dX10_readPad_10 : decode cX10_readPad 10 = .ok (.aload_n 0, 1) := by decide +kernel
theorem dX10_readPad_11 : decode cX10_readPad 11 = .ok (.bipush (-6), 2) := by decide +kernel
theorem dX10_readPad_13 : decode cX10_readPad 13 = .ok (.putfield 122, 3) := by decide +kernel
theorem dX10_readPad_16 : decode cX10_readPad 16 = .ok (.iconst 1, 1) := by decide +kernel
theorem dX10_readPad_17 : decode cX10_readPad 17 = .ok (.istore_n 1, 1) := by decide +kernel
theorem dX10_readPad_18 : decode cX10_readPad 18 = .ok (.iload_n 1, 1) := by decide +kernel
theorem dX10_readPad_19 : decode cX10_readPad 19 = .ok (.ifCond .eq 73, 3) := by decide +kernel
theorem dX10_readPad_22 : decode cX10_readPad 22 = .ok (.aload_n 0, 1) := by decide +kernel
theorem dX10_readPad_23 : decode cX10_readPad 23 = .ok (.invokevirtual 138, 3) := by decide +kernel
theorem dX10_readPad_26 : decode cX10_readPad 26 = .ok (.aload_n 0, 1) := by decide +kernel
theorem dX10_readPad_27 : decode cX10_readPad 27 = .ok (.getfield 122, 3) := by decide +kernel
theorem dX10_readPad_30 : decode cX10_readPad 30 = .ok (.bipush (-6), 2) := by decide +kernel
theorem dX10_readPad_32 : decode cX10_readPad 32 = .ok (.if_icmp .ne 18, 3) := by decide +kernel
theorem dX10_readPad_35 : decode cX10_readPad 35 = .ok (.aload_n 0, 1) := by decide +kernel
theorem dX10_readPad_36 : decode cX10_readPad 36 = .ok (.getfield 119, 3) := by decide +kernel
theorem dX10_readPad_39 : decode cX10_readPad 39 = .ok (.aload_n 0, 1) := by decide +kernel
theorem dX10_readPad_40 : decode cX10_readPad 40 = .ok (.getfield 104, 3) := by decide +kernel
theorem dX10_readPad_43 : decode cX10_readPad 43 = .ok (.if_icmp .ge 7, 3) := by decide +kernel
theorem dX10_readPad_46 : decode cX10_readPad 46 = .ok (.iconst 1, 1) := by decide +kernel
theorem dX10_readPad_47 : decode cX10_readPad 47 = .ok (.goto 4, 3) := by decide +kernel
theorem dX10_readPad_50 : decode cX10_readPad 50 = .ok (.iconst 0, 1) := by decide +kernel
theorem dX10_readPad_51 : decode cX10_readPad 51 = .ok (.istore_n 1, 1) := by decide +kernel
theorem dX10_readPad_52 : decode cX10_readPad 52 = .ok (.iload_n 1, 1) := by decide +kernel
theorem dX10_readPad_53 : decode cX10_readPad 53 = .ok (.ifCond .eq (-35), 3) := by decide +kernel
theorem dX10_readPad_56 : decode cX10_readPad 56 = .ok (.aload_n 0, 1) := by decide +kernel
theorem dX10_readPad_57 : decode cX10_readPad 57 = .ok (.aload_n 0, 1) := by decide +kernel
theorem dX10_readPad_58 : decode cX10_readPad 58 = .ok (.invokevirtual 125, 3) := by decide +kernel
theorem dX10_readPad_61 : decode cX10_readPad 61 = .ok (.bipush 59, 2) := by decide +kernel
theorem dX10_readPad_63 : decode cX10_readPad 63 = .ok (.if_icmp .ne 7, 3) := by decide +kernel
theorem dX10_readPad_66 : decode cX10_readPad 66 = .ok (.iconst 1, 1) := by decide +kernel
theorem dX10_readPad_67 : decode cX10_readPad 67 = .ok (.goto 4, 3) := by decide +kernel
theorem dX10_readPad_70 : decode cX10_readPad 70 = .ok (.iconst 0, 1) := by decide +kernel
theorem dX10_readPad_71 : decode cX10_readPad 71 = .ok (.invokevirtual 128, 3) := by decide +kernel
theorem dX10_readPad_74 : decode cX10_readPad 74 = .ok (.aload_n 0, 1) := by decide +kernel
theorem dX10_readPad_75 : decode cX10_readPad 75 = .ok (.getfield 122, 3) := by decide +kernel
theorem dX10_readPad_78 : decode cX10_readPad 78 = .ok (.bipush (-6), 2) := by decide +kernel
theorem dX10_readPad_80 : decode cX10_readPad 80 = .ok (.if_icmp .ne 7, 3) := by decide +kernel
theorem dX10_readPad_83 : decode cX10_readPad 83 = .ok (.iconst 1, 1) := by decide +kernel
theorem dX10_readPad_84 : decode cX10_readPad 84 = .ok (.goto 4, 3) := by decide +kernel
theorem dX10_readPad_87 : decode cX10_readPad 87 = .ok (.iconst 0, 1) := by decide +kernel
theorem dX10_readPad_88 : decode cX10_readPad 88 = .ok (.istore_n 1, 1) := by decide +kernel
theorem dX10_readPad_89 : decode cX10_readPad 89 = .ok (.goto (-71), 3) := by decide +kernel
theorem dX10_readPad_92 : decode cX10_readPad 92 = .ok (.aload_n 0, 1) := by decide +kernel
theorem dX10_readPad_93 : decode cX10_readPad 93 = .ok (.getfield 122, 3) := by decide +kernel
theorem dX10_readPad_96 : decode cX10_readPad 96 = .ok (.ireturn, 1) := by decide +kernel
theorem dX10_fault_0 : decode cX10_fault 0 = .ok (.aload_n 0, 1) := by decide +kernel
theorem dX10_fault_1 : decode cX10_fault 1 = .ok (.invokevirtual 141, 3) := by decide +kernel
theorem dX10_fault_4 : decode cX10_fault 4 = .ok (.ireturn, 1) := by decide +kernel
theorem dX10_whyNot_0 : decode cX10_whyNot 0 = .ok (.iload_n 1, 1) := by decide +kernel
theorem dX10_whyNot_1 : decode cX10_whyNot 1 = .ok (.lookupswitch 78 #[(100, 60), (104, 43), (119, 67), (120, 73)], 43) := by decide +kernel
theorem dX10_whyNot_44 : decode cX10_whyNot 44 = .ok (.aload_n 0, 1) := by decide +kernel
theorem dX10_whyNot_45 : decode cX10_whyNot 45 = .ok (.getfield 7, 3) := by decide +kernel
theorem dX10_whyNot_48 : decode cX10_whyNot 48 = .ok (.bipush 38, 2) := by decide +kernel
theorem dX10_whyNot_50 : decode cX10_whyNot 50 = .ok (.iaload, 1) := by decide +kernel
theorem dX10_whyNot_51 : decode cX10_whyNot 51 = .ok (.ifCond .ne 7, 3) := by decide +kernel
theorem dX10_whyNot_54 : decode cX10_whyNot 54 = .ok (.iconst 0, 1) := by decide +kernel
theorem dX10_whyNot_55 : decode cX10_whyNot 55 = .ok (.goto 5, 3) := by decide +kernel
theorem dX10_whyNot_58 : decode cX10_whyNot 58 = .ok (.bipush (-5), 2) := by decide +kernel
theorem dX10_whyNot_60 : decode cX10_whyNot 60 = .ok (.ireturn, 1) := by decide +kernel
theorem dX10_whyNot_61 : decode cX10_whyNot 61 = .ok (.aload_n 0, 1) := by decide +kernel
theorem dX10_whyNot_62 : decode cX10_whyNot 62 = .ok (.iload_n 2, 1) := by decide +kernel
theorem dX10_whyNot_63 : decode cX10_whyNot 63 = .ok (.iload_n 3, 1) := by decide +kernel
theorem dX10_whyNot_64 : decode cX10_whyNot 64 = .ok (.invokevirtual 76, 3) := by decide +kernel
theorem dX10_whyNot_67 : decode cX10_whyNot 67 = .ok (.ireturn, 1) := by decide +kernel
theorem dX10_whyNot_68 : decode cX10_whyNot 68 = .ok (.aload_n 0, 1) := by decide +kernel
theorem dX10_whyNot_69 : decode cX10_whyNot 69 = .ok (.iload_n 2, 1) := by decide +kernel
theorem dX10_whyNot_70 : decode cX10_whyNot 70 = .ok (.invokevirtual 82, 3) := by decide +kernel
theorem dX10_whyNot_73 : decode cX10_whyNot 73 = .ok (.ireturn, 1) := by decide +kernel
theorem dX10_whyNot_74 : decode cX10_whyNot 74 = .ok (.aload_n 0, 1) := by decide +kernel
theorem dX10_whyNot_75 : decode cX10_whyNot 75 = .ok (.invokevirtual 91, 3) := by decide +kernel
theorem dX10_whyNot_78 : decode cX10_whyNot 78 = .ok (.ireturn, 1) := by decide +kernel
theorem dX10_whyNot_79 : decode cX10_whyNot 79 = .ok (.aload_n 0, 1) := by decide +kernel
theorem dX10_whyNot_80 : decode cX10_whyNot 80 = .ok (.getfield 7, 3) := by decide +kernel
theorem dX10_whyNot_83 : decode cX10_whyNot 83 = .ok (.bipush 38, 2) := by decide +kernel
theorem dX10_whyNot_85 : decode cX10_whyNot 85 = .ok (.iaload, 1) := by decide +kernel
theorem dX10_whyNot_86 : decode cX10_whyNot 86 = .ok (.ifCond .ne 8, 3) := by decide +kernel
theorem dX10_whyNot_89 : decode cX10_whyNot 89 = .ok (.bipush (-5), 2) := by decide +kernel
theorem dX10_whyNot_91 : decode cX10_whyNot 91 = .ok (.goto 4, 3) := by decide +kernel
theorem dX10_whyNot_94 : decode cX10_whyNot 94 = .ok (.iconst 0, 1) := by decide +kernel
theorem dX10_whyNot_95 : decode cX10_whyNot 95 = .ok (.ireturn, 1) := by decide +kernel
theorem dX10_does_0 : decode cX10_does 0 = .ok (.aload_n 0, 1) := by decide +kernel
theorem dX10_does_1 : decode cX10_does 1 = .ok (.getfield 30, 3) := by decide +kernel
theorem dX10_does_4 : decode cX10_does 4 = .ok (.iconst 3, 1) := by decide +kernel
theorem dX10_does_5 : decode cX10_does 5 = .ok (.iload_n 1, 1) := by decide +kernel
theorem dX10_does_6 : decode cX10_does 6 = .ok (.imul, 1) := by decide +kernel
theorem dX10_does_7 : decode cX10_does 7 = .ok (.iconst 1, 1) := by decide +kernel
theorem dX10_does_8 : decode cX10_does 8 = .ok (.iadd, 1) := by decide +kernel
theorem dX10_does_9 : decode cX10_does 9 = .ok (.iaload, 1) := by decide +kernel
theorem dX10_does_10 : decode cX10_does 10 = .ok (.istore_n 2, 1) := by decide +kernel
theorem dX10_does_11 : decode cX10_does 11 = .ok (.aload_n 0, 1) := by decide +kernel
theorem dX10_does_12 : decode cX10_does 12 = .ok (.getfield 30, 3) := by decide +kernel
theorem dX10_does_15 : decode cX10_does 15 = .ok (.iconst 3, 1) := by decide +kernel
theorem dX10_does_16 : decode cX10_does 16 = .ok (.iload_n 1, 1) := by decide +kernel
theorem dX10_does_17 : decode cX10_does 17 = .ok (.imul, 1) := by decide +kernel
theorem dX10_does_18 : decode cX10_does 18 = .ok (.iconst 2, 1) := by decide +kernel
theorem dX10_does_19 : decode cX10_does 19 = .ok (.iadd, 1) := by decide +kernel
theorem dX10_does_20 : decode cX10_does 20 = .ok (.iaload, 1) := by decide +kernel
theorem dX10_does_21 : decode cX10_does 21 = .ok (.istore_n 3, 1) := by decide +kernel
theorem dX10_does_22 : decode cX10_does 22 = .ok (.aload_n 0, 1) := by decide +kernel
theorem dX10_does_23 : decode cX10_does 23 = .ok (.aload_n 0, 1) := by decide +kernel
theorem dX10_does_24 : decode cX10_does 24 = .ok (.getfield 30, 3) := by decide +kernel
theorem dX10_does_27 : decode cX10_does 27 = .ok (.iconst 3, 1) := by decide +kernel
theorem dX10_does_28 : decode cX10_does 28 = .ok (.iload_n 1, 1) := by decide +kernel
theorem dX10_does_29 : decode cX10_does 29 = .ok (.imul, 1) := by decide +kernel
theorem dX10_does_30 : decode cX10_does 30 = .ok (.iaload, 1) := by decide +kernel
theorem dX10_does_31 : decode cX10_does 31 = .ok (.iload_n 2, 1) := by decide +kernel
theorem dX10_does_32 : decode cX10_does 32 = .ok (.iload_n 3, 1) := by decide +kernel
theorem dX10_does_33 : decode cX10_does 33 = .ok (.invokevirtual 144, 3) := by decide +kernel
theorem dX10_does_36 : decode cX10_does 36 = .ok (.ifCond .ge 5, 3) := by decide +kernel
theorem dX10_does_39 : decode cX10_does 39 = .ok (.iconst 0, 1) := by decide +kernel
theorem dX10_does_40 : decode cX10_does 40 = .ok (.ireturn, 1) := by decide +kernel
theorem dX10_does_41 : decode cX10_does 41 = .ok (.aload_n 0, 1) := by decide +kernel
theorem dX10_does_42 : decode cX10_does 42 = .ok (.getfield 30, 3) := by decide +kernel
theorem dX10_does_45 : decode cX10_does 45 = .ok (.iconst 3, 1) := by decide +kernel
theorem dX10_does_46 : decode cX10_does 46 = .ok (.iload_n 1, 1) := by decide +kernel
theorem dX10_does_47 : decode cX10_does 47 = .ok (.imul, 1) := by decide +kernel
theorem dX10_does_48 : decode cX10_does 48 = .ok (.iaload, 1) := by decide +kernel
theorem dX10_does_49 : decode cX10_does 49 = .ok (.lookupswitch 94 #[(100, 59), (104, 51), (115, 86), (119, 69), (120, 78)], 51) := by decide +kernel
theorem dX10_does_100 : decode cX10_does 100 = .ok (.aload_n 0, 1) := by decide +kernel
theorem dX10_does_101 : decode cX10_does 101 = .ok (.invokevirtual 59, 3) := by decide +kernel
theorem dX10_does_104 : decode cX10_does 104 = .ok (.pop, 1) := by decide +kernel
theorem dX10_does_105 : decode cX10_does 105 = .ok (.goto 43, 3) := by decide +kernel
theorem dX10_does_108 : decode cX10_does 108 = .ok (.aload_n 0, 1) := by decide +kernel
theorem dX10_does_109 : decode cX10_does 109 = .ok (.iload_n 2, 1) := by decide +kernel
theorem dX10_does_110 : decode cX10_does 110 = .ok (.iload_n 3, 1) := by decide +kernel
theorem dX10_does_111 : decode cX10_does 111 = .ok (.invokevirtual 79, 3) := by decide +kernel
theorem dX10_does_114 : decode cX10_does 114 = .ok (.pop, 1) := by decide +kernel
theorem dX10_does_115 : decode cX10_does 115 = .ok (.goto 33, 3) := by decide +kernel
theorem dX10_does_118 : decode cX10_does 118 = .ok (.aload_n 0, 1) := by decide +kernel
theorem dX10_does_119 : decode cX10_does 119 = .ok (.iload_n 2, 1) := by decide +kernel
theorem dX10_does_120 : decode cX10_does 120 = .ok (.invokevirtual 85, 3) := by decide +kernel
theorem dX10_does_123 : decode cX10_does 123 = .ok (.pop, 1) := by decide +kernel
theorem dX10_does_124 : decode cX10_does 124 = .ok (.goto 24, 3) := by decide +kernel
theorem dX10_does_127 : decode cX10_does 127 = .ok (.aload_n 0, 1) := by decide +kernel
theorem dX10_does_128 : decode cX10_does 128 = .ok (.invokevirtual 94, 3) := by decide +kernel
theorem dX10_does_131 : decode cX10_does 131 = .ok (.pop, 1) := by decide +kernel
theorem dX10_does_132 : decode cX10_does 132 = .ok (.goto 16, 3) := by decide +kernel
theorem dX10_does_135 : decode cX10_does 135 = .ok (.aload_n 0, 1) := by decide +kernel
theorem dX10_does_136 : decode cX10_does 136 = .ok (.invokevirtual 88, 3) := by decide +kernel
theorem dX10_does_139 : decode cX10_does 139 = .ok (.pop, 1) := by decide +kernel
theorem dX10_does_140 : decode cX10_does 140 = .ok (.goto 8, 3) := by decide +kernel
theorem dX10_does_143 : decode cX10_does 143 = .ok (.aload_n 0, 1) := by decide +kernel
theorem dX10_does_144 : decode cX10_does 144 = .ok (.invokevirtual 98, 3) := by decide +kernel
theorem dX10_does_147 : decode cX10_does 147 = .ok (.pop, 1) := by decide +kernel
theorem dX10_does_148 : decode cX10_does 148 = .ok (.iconst 1, 1) := by decide +kernel
theorem dX10_does_149 : decode cX10_does 149 = .ok (.ireturn, 1) := by decide +kernel
theorem dX10_carryOut_0 : decode cX10_carryOut 0 = .ok (.aload_n 0, 1) := by decide +kernel
theorem dX10_carryOut_1 : decode cX10_carryOut 1 = .ok (.invokevirtual 141, 3) := by decide +kernel
theorem dX10_carryOut_4 : decode cX10_carryOut 4 = .ok (.bipush (-6), 2) := by decide +kernel
theorem dX10_carryOut_6 : decode cX10_carryOut 6 = .ok (.if_icmp .eq 6, 3) := by decide +kernel
theorem dX10_carryOut_9 : decode cX10_carryOut 9 = .ok (.bipush (-3), 2) := by decide +kernel
theorem dX10_carryOut_11 : decode cX10_carryOut 11 = .ok (.ireturn, 1) := by decide +kernel
theorem dX10_carryOut_12 : decode cX10_carryOut 12 = .ok (.aload_n 0, 1) := by decide +kernel
theorem dX10_carryOut_13 : decode cX10_carryOut 13 = .ok (.invokevirtual 45, 3) := by decide +kernel
theorem dX10_carryOut_16 : decode cX10_carryOut 16 = .ok (.iconst 0, 1) := by decide +kernel
theorem dX10_carryOut_17 : decode cX10_carryOut 17 = .ok (.istore_n 1, 1) := by decide +kernel
theorem dX10_carryOut_18 : decode cX10_carryOut 18 = .ok (.iload_n 1, 1) := by decide +kernel
theorem dX10_carryOut_19 : decode cX10_carryOut 19 = .ok (.aload_n 0, 1) := by decide +kernel
theorem dX10_carryOut_20 : decode cX10_carryOut 20 = .ok (.getfield 132, 3) := by decide +kernel
theorem dX10_carryOut_23 : decode cX10_carryOut 23 = .ok (.if_icmp .ge 17, 3) := by decide +kernel
theorem dX10_carryOut_26 : decode cX10_carryOut 26 = .ok (.aload_n 0, 1) := by decide +kernel
theorem dX10_carryOut_27 : decode cX10_carryOut 27 = .ok (.iload_n 1, 1) := by decide +kernel
theorem dX10_carryOut_28 : decode cX10_carryOut 28 = .ok (.invokevirtual 147, 3) := by decide +kernel
theorem dX10_carryOut_31 : decode cX10_carryOut 31 = .ok (.ifCond .eq 9, 3) := by decide +kernel
theorem dX10_carryOut_34 : decode cX10_carryOut 34 = .ok (.iinc 1 1, 3) := by decide +kernel
theorem dX10_carryOut_37 : decode cX10_carryOut 37 = .ok (.goto (-19), 3) := by decide +kernel
theorem dX10_carryOut_40 : decode cX10_carryOut 40 = .ok (.aload_n 0, 1) := by decide +kernel
theorem dX10_carryOut_41 : decode cX10_carryOut 41 = .ok (.iconst 0, 1) := by decide +kernel
theorem dX10_carryOut_42 : decode cX10_carryOut 42 = .ok (.putfield 104, 3) := by decide +kernel
theorem dX10_carryOut_45 : decode cX10_carryOut 45 = .ok (.iload_n 1, 1) := by decide +kernel
theorem dX10_carryOut_46 : decode cX10_carryOut 46 = .ok (.ireturn, 1) := by decide +kernel
