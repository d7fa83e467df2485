theorem dX0_init_0 : decode cX0_init 0 = .ok (.aload_n 0, 1) := by decide +kernel
theorem dX0_init_1 : decode cX0_init 1 = .ok (.invokespecial 3, 3) := by decide +kernel
theorem dX0_init_4 : decode cX0_init 4 = .ok (.aload_n 0, 1) := by decide +kernel
theorem dX0_init_5 : decode cX0_init 5 = .ok (.bipush 81, 2) := by decide +kernel
theorem dX0_init_7 : decode cX0_init 7 = .ok (.newarray .boolean, 2) := by decide +kernel
theorem dX0_init_9 : decode cX0_init 9 = .ok (.putfield 9, 3) := by decide +kernel
theorem dX0_init_12 : decode cX0_init 12 = .ok (.aload_n 0, 1) := by decide +kernel
theorem dX0_init_13 : decode cX0_init 13 = .ok (.bipush 81, 2) := by decide +kernel
theorem dX0_init_15 : decode cX0_init 15 = .ok (.newarray .int, 2) := by decide +kernel
theorem dX0_init_17 : decode cX0_init 17 = .ok (.putfield 15, 3) := by decide +kernel
theorem dX0_init_20 : decode cX0_init 20 = .ok (.aload_n 0, 1) := by decide +kernel
theorem dX0_init_21 : decode cX0_init 21 = .ok (.bipush 81, 2) := by decide +kernel
theorem dX0_init_23 : decode cX0_init 23 = .ok (.newarray .int, 2) := by decide +kernel
theorem dX0_init_25 : decode cX0_init 25 = .ok (.putfield 19, 3) := by decide +kernel
theorem dX0_init_28 : decode cX0_init 28 = .ok (.aload_n 0, 1) := by decide +kernel
theorem dX0_init_29 : decode cX0_init 29 = .ok (.bipush 81, 2) := by decide +kernel
theorem dX0_init_31 : decode cX0_init 31 = .ok (.newarray .int, 2) := by decide +kernel
theorem dX0_init_33 : decode cX0_init 33 = .ok (.putfield 22, 3) := by decide +kernel
theorem dX0_init_36 : decode cX0_init 36 = .ok (.aload_n 0, 1) := by decide +kernel
theorem dX0_init_37 : decode cX0_init 37 = .ok (.bipush 81, 2) := by decide +kernel
theorem dX0_init_39 : decode cX0_init 39 = .ok (.newarray .int, 2) := by decide +kernel
theorem dX0_init_41 : decode cX0_init 41 = .ok (.putfield 25, 3) := by decide +kernel
theorem dX0_init_44 : decode cX0_init 44 = .ok (.aload_n 0, 1) := by decide +kernel
theorem dX0_init_45 : decode cX0_init 45 = .ok (.bipush 81, 2) := by decide +kernel
theorem dX0_init_47 : decode cX0_init 47 = .ok (.newarray .int, 2) := by decide +kernel
theorem dX0_init_49 : decode cX0_init 49 = .ok (.putfield 28, 3) := by decide +kernel
theorem dX0_init_52 : decode cX0_init 52 = .ok (.aload_n 0, 1) := by decide +kernel
theorem dX0_init_53 : decode cX0_init 53 = .ok (.bipush 81, 2) := by decide +kernel
theorem dX0_init_55 : decode cX0_init 55 = .ok (.newarray .int, 2) := by decide +kernel
theorem dX0_init_57 : decode cX0_init 57 = .ok (.putfield 31, 3) := by decide +kernel
theorem dX0_init_60 : decode cX0_init 60 = .ok (.aload_n 0, 1) := by decide +kernel
theorem dX0_init_61 : decode cX0_init 61 = .ok (.bipush 81, 2) := by decide +kernel
theorem dX0_init_63 : decode cX0_init 63 = .ok (.newarray .boolean, 2) := by decide +kernel
theorem dX0_init_65 : decode cX0_init 65 = .ok (.putfield 34, 3) := by decide +kernel
theorem dX0_init_68 : decode cX0_init 68 = .ok (.aload_n 0, 1) := by decide +kernel
theorem dX0_init_69 : decode cX0_init 69 = .ok (.bipush 81, 2) := by decide +kernel
theorem dX0_init_71 : decode cX0_init 71 = .ok (.newarray .boolean, 2) := by decide +kernel
theorem dX0_init_73 : decode cX0_init 73 = .ok (.putfield 37, 3) := by decide +kernel
theorem dX0_init_76 : decode cX0_init 76 = .ok (.aload_n 0, 1) := by decide +kernel
theorem dX0_init_77 : decode cX0_init 77 = .ok (.bipush 81, 2) := by decide +kernel
theorem dX0_init_79 : decode cX0_init 79 = .ok (.newarray .int, 2) := by decide +kernel
theorem dX0_init_81 : decode cX0_init 81 = .ok (.putfield 40, 3) := by decide +kernel
theorem dX0_init_84 : decode cX0_init 84 = .ok (.aload_n 0, 1) := by decide +kernel
theorem dX0_init_85 : decode cX0_init 85 = .ok (.aload_n 1, 1) := by decide +kernel
theorem dX0_init_86 : decode cX0_init 86 = .ok (.putfield 43, 3) := by decide +kernel
theorem dX0_init_89 : decode cX0_init 89 = .ok (.return_, 1) := by decide +kernel
theorem dX0_findChains_0 : decode cX0_findChains 0 = .ok (.aload_n 0, 1) := by decide +kernel
theorem dX0_findChains_1 : decode cX0_findChains 1 = .ok (.getfield 19, 3) := by decide +kernel
theorem dX0_findChains_4 : decode cX0_findChains 4 = .ok (.iconst (-1), 1) := by decide +kernel
theorem dX0_findChains_5 : decode cX0_findChains 5 = .ok (.invokestatic 47, 3) := by decide +kernel
theorem dX0_findChains_8 : decode cX0_findChains 8 = .ok (.aload_n 0, 1) := by decide +kernel
theorem dX0_findChains_9 : decode cX0_findChains 9 = .ok (.getfield 22, 3) := by decide +kernel
theorem dX0_findChains_12 : decode cX0_findChains 12 = .ok (.iconst (-1), 1) := by decide +kernel
theorem dX0_findChains_13 : decode cX0_findChains 13 = .ok (.invokestatic 47, 3) := by decide +kernel
theorem dX0_findChains_16 : decode cX0_findChains 16 = .ok (.iconst 0, 1) := by decide +kernel
theorem dX0_findChains_17 : decode cX0_findChains 17 = .ok (.istore_n 1, 1) := by decide +kernel
theorem dX0_findChains_18 : decode cX0_findChains 18 = .ok (.iload_n 1, 1) := by decide +kernel
theorem dX0_findChains_19 : decode cX0_findChains 19 = .ok (.bipush 81, 2) := by decide +kernel
theorem dX0_findChains_21 : decode cX0_findChains 21 = .ok (.if_icmp .ge 23, 3) := by decide +kernel
theorem dX0_findChains_24 : decode cX0_findChains 24 = .ok (.aload_n 0, 1) := by decide +kernel
theorem dX0_findChains_25 : decode cX0_findChains 25 = .ok (.getfield 9, 3) := by decide +kernel
theorem dX0_findChains_28 : decode cX0_findChains 28 = .ok (.iload_n 1, 1) := by decide +kernel
theorem dX0_findChains_29 : decode cX0_findChains 29 = .ok (.baload, 1) := by decide +kernel
theorem dX0_findChains_30 : decode cX0_findChains 30 = .ok (.ifCond .eq 8, 3) := by decide +kernel
theorem dX0_findChains_33 : decode cX0_findChains 33 = .ok (.aload_n 0, 1) := by decide +kernel
theorem dX0_findChains_34 : decode cX0_findChains 34 = .ok (.iload_n 1, 1) := by decide +kernel
theorem dX0_findChains_35 : decode cX0_findChains 35 = .ok (.invokevirtual 53, 3) := by decide +kernel
theorem dX0_findChains_38 : decode cX0_findChains 38 = .ok (.iinc 1 1, 3) := by decide +kernel
theorem dX0_findChains_41 : decode cX0_findChains 41 = .ok (.goto (-23), 3) := by decide +kernel
theorem dX0_findChains_44 : decode cX0_findChains 44 = .ok (.aload_n 0, 1) := by decide +kernel
theorem dX0_findChains_45 : decode cX0_findChains 45 = .ok (.iconst 0, 1) := by decide +kernel
theorem dX0_findChains_46 : decode cX0_findChains 46 = .ok (.putfield 57, 3) := by decide +kernel
theorem dX0_findChains_49 : decode cX0_findChains 49 = .ok (.iconst 0, 1) := by decide +kernel
theorem dX0_findChains_50 : decode cX0_findChains 50 = .ok (.istore_n 1, 1) := by decide +kernel
theorem dX0_findChains_51 : decode cX0_findChains 51 = .ok (.iload_n 1, 1) := by decide +kernel
theorem dX0_findChains_52 : decode cX0_findChains 52 = .ok (.bipush 81, 2) := by decide +kernel
theorem dX0_findChains_54 : decode cX0_findChains 54 = .ok (.if_icmp .ge 48, 3) := by decide +kernel
theorem dX0_findChains_57 : decode cX0_findChains 57 = .ok (.aload_n 0, 1) := by decide +kernel
theorem dX0_findChains_58 : decode cX0_findChains 58 = .ok (.getfield 9, 3) := by decide +kernel
theorem dX0_findChains_61 : decode cX0_findChains 61 = .ok (.iload_n 1, 1) := by decide +kernel
theorem dX0_findChains_62 : decode cX0_findChains 62 = .ok (.baload, 1) := by decide +kernel
theorem dX0_findChains_63 : decode cX0_findChains 63 = .ok (.ifCond .eq 33, 3) := by decide +kernel
theorem dX0_findChains_66 : decode cX0_findChains 66 = .ok (.aload_n 0, 1) := by decide +kernel
theorem dX0_findChains_67 : decode cX0_findChains 67 = .ok (.getfield 22, 3) := by decide +kernel
theorem dX0_findChains_70 : decode cX0_findChains 70 = .ok (.iload_n 1, 1) := by decide +kernel
theorem dX0_findChains_71 : decode cX0_findChains 71 = .ok (.iaload, 1) := by decide +kernel
theorem dX0_findChains_72 : decode cX0_findChains 72 = .ok (.iconst (-1), 1) := by decide +kernel
theorem dX0_findChains_73 : decode cX0_findChains 73 = .ok (.if_icmp .ne 23, 3) := by decide +kernel
theorem dX0_findChains_76 : decode cX0_findChains 76 = .ok (.aload_n 0, 1) := by decide +kernel
theorem dX0_findChains_77 : decode cX0_findChains 77 = .ok (.getfield 25, 3) := by decide +kernel
theorem dX0_findChains_80 : decode cX0_findChains 80 = .ok (.aload_n 0, 1) := by decide +kernel
theorem dX0_findChains_81 : decode cX0_findChains 81 = .ok (.getfield 57, 3) := by decide +kernel
theorem dX0_findChains_84 : decode cX0_findChains 84 = .ok (.iload_n 1, 1) := by decide +kernel
theorem dX0_findChains_85 : decode cX0_findChains 85 = .ok (.iastore, 1) := by decide +kernel
theorem dX0_findChains_86 : decode cX0_findChains 86 = .ok (.aload_n 0, 1) := by decide +kernel
theorem dX0_findChains_87 : decode cX0_findChains 87 = .ok (.dup, 1) := by decide +kernel
theorem dX0_findChains_88 : decode cX0_findChains 88 = .ok (.getfield 57, 3) := by decide +kernel
theorem dX0_findChains_91 : decode cX0_findChains 91 = .ok (.iconst 1, 1) := by decide +kernel
theorem dX0_findChains_92 : decode cX0_findChains 92 = .ok (.iadd, 1) := by decide +kernel
theorem dX0_findChains_93 : decode cX0_findChains 93 = .ok (.putfield 57, 3) := by decide +kernel
theorem dX0_findChains_96 : decode cX0_findChains 96 = .ok (.iinc 1 1, 3) := by decide +kernel
theorem dX0_findChains_99 : decode cX0_findChains 99 = .ok (.goto (-48), 3) := by decide +kernel
theorem dX0_findChains_102 : decode cX0_findChains 102 = .ok (.return_, 1) := by decide +kernel
theorem dX0_findNext_0 : decode cX0_findNext 0 = .ok (.aload_n 0, 1) := by decide +kernel
theorem dX0_findNext_1 : decode cX0_findNext 1 = .ok (.getfield 31, 3) := by decide +kernel
theorem dX0_findNext_4 : decode cX0_findNext 4 = .ok (.iconst (-1), 1) := by decide +kernel
theorem dX0_findNext_5 : decode cX0_findNext 5 = .ok (.invokestatic 47, 3) := by decide +kernel
theorem dX0_findNext_8 : decode cX0_findNext 8 = .ok (.aload_n 0, 1) := by decide +kernel
theorem dX0_findNext_9 : decode cX0_findNext 9 = .ok (.getfield 28, 3) := by decide +kernel
theorem dX0_findNext_12 : decode cX0_findNext 12 = .ok (.iconst 0, 1) := by decide +kernel
theorem dX0_findNext_13 : decode cX0_findNext 13 = .ok (.iload_n 1, 1) := by decide +kernel
theorem dX0_findNext_14 : decode cX0_findNext 14 = .ok (.iastore, 1) := by decide +kernel
theorem dX0_findNext_15 : decode cX0_findNext 15 = .ok (.iconst 1, 1) := by decide +kernel
theorem dX0_findNext_16 : decode cX0_findNext 16 = .ok (.istore_n 2, 1) := by decide +kernel
theorem dX0_findNext_17 : decode cX0_findNext 17 = .ok (.iconst 0, 1) := by decide +kernel
theorem dX0_findNext_18 : decode cX0_findNext 18 = .ok (.istore_n 3, 1) := by decide +kernel
theorem dX0_findNext_19 : decode cX0_findNext 19 = .ok (.iload_n 3, 1) := by decide +kernel
theorem dX0_findNext_20 : decode cX0_findNext 20 = .ok (.iload_n 2, 1) := by decide +kernel
theorem dX0_findNext_21 : decode cX0_findNext 21 = .ok (.if_icmp .ge 126, 3) := by decide +kernel
theorem dX0_findNext_24 : decode cX0_findNext 24 = .ok (.iload_n 3, 1) := by decide +kernel
theorem dX0_findNext_25 : decode cX0_findNext 25 = .ok (.bipush 81, 2) := by decide +kernel
theorem dX0_findNext_27 : decode cX0_findNext 27 = .ok (.if_icmp .ge 120, 3) := by decide +kernel
theorem dX0_findNext_30 : decode cX0_findNext 30 = .ok (.aload_n 0, 1) := by decide +kernel
theorem dX0_findNext_31 : decode cX0_findNext 31 = .ok (.getfield 28, 3) := by decide +kernel
theorem dX0_findNext_34 : decode cX0_findNext 34 = .ok (.iload_n 3, 1) := by decide +kernel
theorem dX0_findNext_35 : decode cX0_findNext 35 = .ok (.iaload, 1) := by decide +kernel
theorem dX0_findNext_36 : decode cX0_findNext 36 = .ok (.istore 4, 2) := by decide +kernel
theorem dX0_findNext_38 : decode cX0_findNext 38 = .ok (.iload 4, 2) := by decide +kernel
theorem dX0_findNext_40 : decode cX0_findNext 40 = .ok (.iconst 1, 1) := by decide +kernel
theorem dX0_findNext_41 : decode cX0_findNext 41 = .ok (.iadd, 1) := by decide +kernel
theorem dX0_findNext_42 : decode cX0_findNext 42 = .ok (.istore 5, 2) := by decide +kernel
theorem dX0_findNext_44 : decode cX0_findNext 44 = .ok (.iload 5, 2) := by decide +kernel
theorem dX0_findNext_46 : decode cX0_findNext 46 = .ok (.bipush 81, 2) := by decide +kernel
theorem dX0_findNext_48 : decode cX0_findNext 48 = .ok (.if_icmp .ge 93, 3) := by decide +kernel
theorem dX0_findNext_51 : decode cX0_findNext 51 = .ok (.aload_n 0, 1) := by decide +kernel
theorem dX0_findNext_52 : decode cX0_findNext 52 = .ok (.getfield 9, 3) := by decide +kernel
theorem dX0_findNext_55 : decode cX0_findNext 55 = .ok (.iload 5, 2) := by decide +kernel
theorem dX0_findNext_57 : decode cX0_findNext 57 = .ok (.baload, 1) := by decide +kernel
theorem dX0_findNext_58 : decode cX0_findNext 58 = .ok (.ifCond .eq 77, 3) := by decide +kernel
theorem dX0_findNext_61 : decode cX0_findNext 61 = .ok (.aload_n 0, 1) := by decide +kernel
theorem dX0_findNext_62 : decode cX0_findNext 62 = .ok (.getfield 31, 3) := by decide +kernel
theorem dX0_findNext_65 : decode cX0_findNext 65 = .ok (.iload 5, 2) := by decide +kernel
theorem dX0_findNext_67 : decode cX0_findNext 67 = .ok (.iaload, 1) := by decide +kernel
theorem dX0_findNext_68 : decode cX0_findNext 68 = .ok (.iconst (-1), 1) := by decide +kernel
theorem dX0_findNext_69 : decode cX0_findNext 69 = .ok (.if_icmp .ne 66, 3) := by decide +kernel
theorem dX0_findNext_72 : decode cX0_findNext 72 = .ok (.aload_n 0, 1) := by decide +kernel
theorem dX0_findNext_73 : decode cX0_findNext 73 = .ok (.getfield 43, 3) := by decide +kernel
theorem dX0_findNext_76 : decode cX0_findNext 76 = .ok (.iload 4, 2) := by decide +kernel
theorem dX0_findNext_78 : decode cX0_findNext 78 = .ok (.iload 5, 2) := by decide +kernel
theorem dX0_findNext_80 : decode cX0_findNext 80 = .ok (.invokevirtual 61, 3) := by decide +kernel
theorem dX0_findNext_83 : decode cX0_findNext 83 = .ok (.ifCond .eq 52, 3) := by decide +kernel
theorem dX0_findNext_86 : decode cX0_findNext 86 = .ok (.aload_n 0, 1) := by decide +kernel
theorem dX0_findNext_87 : decode cX0_findNext 87 = .ok (.getfield 31, 3) := by decide +kernel
theorem dX0_findNext_90 : decode cX0_findNext 90 = .ok (.iload 5, 2) := by decide +kernel
theorem dX0_findNext_92 : decode cX0_findNext 92 = .ok (.iload 4, 2) := by decide +kernel
theorem dX0_findNext_94 : decode cX0_findNext 94 = .ok (.iastore, 1) := by decide +kernel
theorem dX0_findNext_95 : decode cX0_findNext 95 = .ok (.aload_n 0, 1) := by decide +kernel
theorem dX0_findNext_96 : decode cX0_findNext 96 = .ok (.getfield 22, 3) := by decide +kernel
theorem dX0_findNext_99 : decode cX0_findNext 99 = .ok (.iload 5, 2) := by decide +kernel
theorem dX0_findNext_101 : decode cX0_findNext 101 = .ok (.iaload, 1) := by decide +kernel
theorem dX0_findNext_102 : decode cX0_findNext 102 = .ok (.iconst (-1), 1) := by decide +kernel
theorem dX0_findNext_103 : decode cX0_findNext 103 = .ok (.if_icmp .ne 10, 3) := by decide +kernel
theorem dX0_findNext_106 : decode cX0_findNext 106 = .ok (.aload_n 0, 1) := by decide +kernel
theorem dX0_findNext_107 : decode cX0_findNext 107 = .ok (.iload 5, 2) := by decide +kernel
theorem dX0_findNext_109 : decode cX0_findNext 109 = .ok (.invokevirtual 67, 3) := by decide +kernel
theorem dX0_findNext_112 : decode cX0_findNext 112 = .ok (.return_, 1) := by decide +kernel
theorem dX0_findNext_113 : decode cX0_findNext 113 = .ok (.iload_n 2, 1) := by decide +kernel
theorem dX0_findNext_114 : decode cX0_findNext 114 = .ok (.bipush 81, 2) := by decide +kernel
theorem dX0_findNext_116 : decode cX0_findNext 116 = .ok (.if_icmp .ge 19, 3) := by decide +kernel
theorem dX0_findNext_119 : decode cX0_findNext 119 = .ok (.aload_n 0, 1) := by decide +kernel
theorem dX0_findNext_120 : decode cX0_findNext 120 = .ok (.getfield 28, 3) := by decide +kernel
theorem dX0_findNext_123 : decode cX0_findNext 123 = .ok (.iload_n 2, 1) := by decide +kernel
theorem dX0_findNext_124 : decode cX0_findNext 124 = .ok (.aload_n 0, 1) := by decide +kernel
theorem dX0_findNext_125 : decode cX0_findNext 125 = .ok (.getfield 22, 3) := by decide +kernel
theorem dX0_findNext_128 : decode cX0_findNext 128 = .ok (.iload 5, 2) := by decide +kernel
theorem dX0_findNext_130 : decode cX0_findNext 130 = .ok (.iaload, 1) := by decide +kernel
theorem dX0_findNext_131 : decode cX0_findNext 131 = .ok (.iastore, 1) := by decide +kernel
theorem dX0_findNext_132 : decode cX0_findNext 132 = .ok (.iinc 2 1, 3) := by decide +kernel
theorem dX0_findNext_135 : decode cX0_findNext 135 = .ok (.iinc 5 1, 3) := by decide +kernel
theorem dX0_findNext_138 : decode cX0_findNext 138 = .ok (.goto (-94), 3) := by decide +kernel
theorem dX0_findNext_141 : decode cX0_findNext 141 = .ok (.iinc 3 1, 3) := by decide +kernel
theorem dX0_findNext_144 : decode cX0_findNext 144 = .ok (.goto (-125), 3) := by decide +kernel
theorem dX0_findNext_147 : decode cX0_findNext 147 = .ok (.return_, 1) := by decide +kernel
theorem dX0_swapBack_0 : decode cX0_swapBack 0 = .ok (.iload_n 1, 1) := by decide +kernel
theorem dX0_swapBack_1 : decode cX0_swapBack 1 = .ok (.istore_n 2, 1) := by decide +kernel
theorem dX0_swapBack_2 : decode cX0_swapBack 2 = .ok (.iconst 0, 1) := by decide +kernel
theorem dX0_swapBack_3 : decode cX0_swapBack 3 = .ok (.istore_n 3, 1) := by decide +kernel
theorem dX0_swapBack_4 : decode cX0_swapBack 4 = .ok (.iload_n 3, 1) := by decide +kernel
theorem dX0_swapBack_5 : decode cX0_swapBack 5 = .ok (.bipush 81, 2) := by decide +kernel
theorem dX0_swapBack_7 : decode cX0_swapBack 7 = .ok (.if_icmp .ge 57, 3) := by decide +kernel
theorem dX0_swapBack_10 : decode cX0_swapBack 10 = .ok (.iload_n 2, 1) := by decide +kernel
theorem dX0_swapBack_11 : decode cX0_swapBack 11 = .ok (.iconst (-1), 1) := by decide +kernel
theorem dX0_swapBack_12 : decode cX0_swapBack 12 = .ok (.if_icmp .eq 52, 3) := by decide +kernel
theorem dX0_swapBack_15 : decode cX0_swapBack 15 = .ok (.aload_n 0, 1) := by decide +kernel
theorem dX0_swapBack_16 : decode cX0_swapBack 16 = .ok (.getfield 31, 3) := by decide +kernel
theorem dX0_swapBack_19 : decode cX0_swapBack 19 = .ok (.iload_n 2, 1) := by decide +kernel
theorem dX0_swapBack_20 : decode cX0_swapBack 20 = .ok (.iaload, 1) := by decide +kernel
theorem dX0_swapBack_21 : decode cX0_swapBack 21 = .ok (.istore 4, 2) := by decide +kernel
theorem dX0_swapBack_23 : decode cX0_swapBack 23 = .ok (.iload 4, 2) := by decide +kernel
theorem dX0_swapBack_25 : decode cX0_swapBack 25 = .ok (.iconst (-1), 1) := by decide +kernel
theorem dX0_swapBack_26 : decode cX0_swapBack 26 = .ok (.if_icmp .ne 4, 3) := by decide +kernel
theorem dX0_swapBack_29 : decode cX0_swapBack 29 = .ok (.return_, 1) := by decide +kernel
theorem dX0_swapBack_30 : decode cX0_swapBack 30 = .ok (.aload_n 0, 1) := by decide +kernel
theorem dX0_swapBack_31 : decode cX0_swapBack 31 = .ok (.getfield 19, 3) := by decide +kernel
theorem dX0_swapBack_34 : decode cX0_swapBack 34 = .ok (.iload 4, 2) := by decide +kernel
theorem dX0_swapBack_36 : decode cX0_swapBack 36 = .ok (.iaload, 1) := by decide +kernel
theorem dX0_swapBack_37 : decode cX0_swapBack 37 = .ok (.istore 5, 2) := by decide +kernel
theorem dX0_swapBack_39 : decode cX0_swapBack 39 = .ok (.aload_n 0, 1) := by decide +kernel
theorem dX0_swapBack_40 : decode cX0_swapBack 40 = .ok (.getfield 19, 3) := by decide +kernel
theorem dX0_swapBack_43 : decode cX0_swapBack 43 = .ok (.iload 4, 2) := by decide +kernel
theorem dX0_swapBack_45 : decode cX0_swapBack 45 = .ok (.iload_n 2, 1) := by decide +kernel
theorem dX0_swapBack_46 : decode cX0_swapBack 46 = .ok (.iastore, 1) := by decide +kernel
theorem dX0_swapBack_47 : decode cX0_swapBack 47 = .ok (.aload_n 0, 1) := by decide +kernel
theorem dX0_swapBack_48 : decode cX0_swapBack 48 = .ok (.getfield 22, 3) := by decide +kernel
theorem dX0_swapBack_51 : decode cX0_swapBack 51 = .ok (.iload_n 2, 1) := by decide +kernel
theorem dX0_swapBack_52 : decode cX0_swapBack 52 = .ok (.iload 4, 2) := by decide +kernel
theorem dX0_swapBack_54 : decode cX0_swapBack 54 = .ok (.iastore, 1) := by decide +kernel
theorem dX0_swapBack_55 : decode cX0_swapBack 55 = .ok (.iload 5, 2) := by decide +kernel
theorem dX0_swapBack_57 : decode cX0_swapBack 57 = .ok (.istore_n 2, 1) := by decide +kernel
theorem dX0_swapBack_58 : decode cX0_swapBack 58 = .ok (.iinc 3 1, 3) := by decide +kernel
theorem dX0_swapBack_61 : decode cX0_swapBack 61 = .ok (.goto (-57), 3) := by decide +kernel
theorem dX0_swapBack_64 : decode cX0_swapBack 64 = .ok (.return_, 1) := by decide +kernel
theorem dX0_choose_0 : decode cX0_choose 0 = .ok (.aload_n 0, 1) := by decide +kernel
theorem dX0_choose_1 : decode cX0_choose 1 = .ok (.iconst 0, 1) := by decide +kernel
theorem dX0_choose_2 : decode cX0_choose 2 = .ok (.putfield 70, 3) := by decide +kernel
theorem dX0_choose_5 : decode cX0_choose 5 = .ok (.iconst 0, 1) := by decide +kernel
theorem dX0_choose_6 : decode cX0_choose 6 = .ok (.istore_n 1, 1) := by decide +kernel
theorem dX0_choose_7 : decode cX0_choose 7 = .ok (.iload_n 1, 1) := by decide +kernel
theorem dX0_choose_8 : decode cX0_choose 8 = .ok (.bipush 81, 2) := by decide +kernel
theorem dX0_choose_10 : decode cX0_choose 10 = .ok (.if_icmp .ge 21, 3) := by decide +kernel
theorem dX0_choose_13 : decode cX0_choose 13 = .ok (.aload_n 0, 1) := by decide +kernel
theorem dX0_choose_14 : decode cX0_choose 14 = .ok (.getfield 34, 3) := by decide +kernel
theorem dX0_choose_17 : decode cX0_choose 17 = .ok (.iload_n 1, 1) := by decide +kernel
theorem dX0_choose_18 : decode cX0_choose 18 = .ok (.aload_n 0, 1) := by decide +kernel
theorem dX0_choose_19 : decode cX0_choose 19 = .ok (.getfield 9, 3) := by decide +kernel
theorem dX0_choose_22 : decode cX0_choose 22 = .ok (.iload_n 1, 1) := by decide +kernel
theorem dX0_choose_23 : decode cX0_choose 23 = .ok (.baload, 1) := by decide +kernel
theorem dX0_choose_24 : decode cX0_choose 24 = .ok (.bastore, 1) := by decide +kernel
theorem dX0_choose_25 : decode cX0_choose 25 = .ok (.iinc 1 1, 3) := by decide +kernel
theorem dX0_choose_28 : decode cX0_choose 28 = .ok (.goto (-21), 3) := by decide +kernel
theorem dX0_choose_31 : decode cX0_choose 31 = .ok (.iconst 0, 1) := by decide +kernel
theorem dX0_choose_32 : decode cX0_choose 32 = .ok (.istore_n 1, 1) := by decide +kernel
theorem dX0_choose_33 : decode cX0_choose 33 = .ok (.iload_n 1, 1) := by decide +kernel
theorem dX0_choose_34 : decode cX0_choose 34 = .ok (.bipush 81, 2) := by decide +kernel
theorem dX0_choose_36 : decode cX0_choose 36 = .ok (.if_icmp .ge 42, 3) := by decide +kernel
theorem dX0_choose_39 : decode cX0_choose 39 = .ok (.aload_n 0, 1) := by decide +kernel
theorem dX0_choose_40 : decode cX0_choose 40 = .ok (.getfield 70, 3) := by decide +kernel
theorem dX0_choose_43 : decode cX0_choose 43 = .ok (.aload_n 0, 1) := by decide +kernel
theorem dX0_choose_44 : decode cX0_choose 44 = .ok (.getfield 57, 3) := by decide +kernel
theorem dX0_choose_47 : decode cX0_choose 47 = .ok (.if_icmp .ge 31, 3) := by decide +kernel
theorem dX0_choose_50 : decode cX0_choose 50 = .ok (.aload_n 0, 1) := by decide +kernel
theorem dX0_choose_51 : decode cX0_choose 51 = .ok (.getfield 34, 3) := by decide +kernel
theorem dX0_choose_54 : decode cX0_choose 54 = .ok (.iload_n 1, 1) := by decide +kernel
theorem dX0_choose_55 : decode cX0_choose 55 = .ok (.baload, 1) := by decide +kernel
theorem dX0_choose_56 : decode cX0_choose 56 = .ok (.ifCond .eq 16, 3) := by decide +kernel
theorem dX0_choose_59 : decode cX0_choose 59 = .ok (.aload_n 0, 1) := by decide +kernel
theorem dX0_choose_60 : decode cX0_choose 60 = .ok (.iload_n 1, 1) := by decide +kernel
theorem dX0_choose_61 : decode cX0_choose 61 = .ok (.invokevirtual 73, 3) := by decide +kernel
theorem dX0_choose_64 : decode cX0_choose 64 = .ok (.ifCond .eq 8, 3) := by decide +kernel
theorem dX0_choose_67 : decode cX0_choose 67 = .ok (.aload_n 0, 1) := by decide +kernel
theorem dX0_choose_68 : decode cX0_choose 68 = .ok (.iload_n 1, 1) := by decide +kernel
theorem dX0_choose_69 : decode cX0_choose 69 = .ok (.invokevirtual 77, 3) := by decide +kernel
theorem dX0_choose_72 : decode cX0_choose 72 = .ok (.iinc 1 1, 3) := by decide +kernel
theorem dX0_choose_75 : decode cX0_choose 75 = .ok (.goto (-42), 3) := by decide +kernel
theorem dX0_choose_78 : decode cX0_choose 78 = .ok (.return_, 1) := by decide +kernel
theorem dX0_add_0 : decode cX0_add 0 = .ok (.aload_n 0, 1) := by decide +kernel
theorem dX0_add_1 : decode cX0_add 1 = .ok (.getfield 15, 3) := by decide +kernel
theorem dX0_add_4 : decode cX0_add 4 = .ok (.aload_n 0, 1) := by decide +kernel
theorem dX0_add_5 : decode cX0_add 5 = .ok (.getfield 70, 3) := by decide +kernel
theorem dX0_add_8 : decode cX0_add 8 = .ok (.iload_n 1, 1) := by decide +kernel
theorem dX0_add_9 : decode cX0_add 9 = .ok (.iastore, 1) := by decide +kernel
theorem dX0_add_10 : decode cX0_add 10 = .ok (.aload_n 0, 1) := by decide +kernel
theorem dX0_add_11 : decode cX0_add 11 = .ok (.dup, 1) := by decide +kernel
theorem dX0_add_12 : decode cX0_add 12 = .ok (.getfield 70, 3) := by decide +kernel
theorem dX0_add_15 : decode cX0_add 15 = .ok (.iconst 1, 1) := by decide +kernel
theorem dX0_add_16 : decode cX0_add 16 = .ok (.iadd, 1) := by decide +kernel
theorem dX0_add_17 : decode cX0_add 17 = .ok (.putfield 70, 3) := by decide +kernel
theorem dX0_add_20 : decode cX0_add 20 = .ok (.iconst 0, 1) := by decide +kernel
theorem dX0_add_21 : decode cX0_add 21 = .ok (.istore_n 2, 1) := by decide +kernel
theorem dX0_add_22 : decode cX0_add 22 = .ok (.iload_n 2, 1) := by decide +kernel
theorem dX0_add_23 : decode cX0_add 23 = .ok (.bipush 81, 2) := by decide +kernel
theorem dX0_add_25 : decode cX0_add 25 = .ok (.if_icmp .ge 41, 3) := by decide +kernel
theorem dX0_add_28 : decode cX0_add 28 = .ok (.aload_n 0, 1) := by decide +kernel
theorem dX0_add_29 : decode cX0_add 29 = .ok (.getfield 34, 3) := by decide +kernel
theorem dX0_add_32 : decode cX0_add 32 = .ok (.iload_n 2, 1) := by decide +kernel
theorem dX0_add_33 : decode cX0_add 33 = .ok (.aload_n 0, 1) := by decide +kernel
theorem dX0_add_34 : decode cX0_add 34 = .ok (.getfield 34, 3) := by decide +kernel
theorem dX0_add_37 : decode cX0_add 37 = .ok (.iload_n 2, 1) := by decide +kernel
theorem dX0_add_38 : decode cX0_add 38 = .ok (.baload, 1) := by decide +kernel
theorem dX0_add_39 : decode cX0_add 39 = .ok (.ifCond .eq 19, 3) := by decide +kernel
theorem dX0_add_42 : decode cX0_add 42 = .ok (.aload_n 0, 1) := by decide +kernel
theorem dX0_add_43 : decode cX0_add 43 = .ok (.getfield 43, 3) := by decide +kernel
theorem dX0_add_46 : decode cX0_add 46 = .ok (.iload_n 1, 1) := by decide +kernel
theorem dX0_add_47 : decode cX0_add 47 = .ok (.iload_n 2, 1) := by decide +kernel
theorem dX0_add_48 : decode cX0_add 48 = .ok (.invokevirtual 80, 3) := by decide +kernel
theorem dX0_add_51 : decode cX0_add 51 = .ok (.ifCond .ne 7, 3) := by decide +kernel
theorem dX0_add_54 : decode cX0_add 54 = .ok (.iconst 1, 1) := by decide +kernel
theorem dX0_add_55 : decode cX0_add 55 = .ok (.goto 4, 3) := by decide +kernel
theorem dX0_add_58 : decode cX0_add 58 = .ok (.iconst 0, 1) := by decide +kernel
theorem dX0_add_59 : decode cX0_add 59 = .ok (.bastore, 1) := by decide +kernel
theorem dX0_add_60 : decode cX0_add 60 = .ok (.iinc 2 1, 3) := by decide +kernel
theorem dX0_add_63 : decode cX0_add 63 = .ok (.goto (-41), 3) := by decide +kernel
theorem dX0_add_66 : decode cX0_add 66 = .ok (.return_, 1) := by decide +kernel
theorem dX0_leavesFullSet_0 : decode cX0_leavesFullSet 0 = .ok (.iconst 0, 1) := by decide +kernel
theorem dX0_leavesFullSet_1 : decode cX0_leavesFullSet 1 = .ok (.istore_n 2, 1) := by decide +kernel
theorem dX0_leavesFullSet_2 : decode cX0_leavesFullSet 2 = .ok (.iload_n 2, 1) := by decide +kernel
theorem dX0_leavesFullSet_3 : decode cX0_leavesFullSet 3 = .ok (.bipush 81, 2) := by decide +kernel
theorem dX0_leavesFullSet_5 : decode cX0_leavesFullSet 5 = .ok (.if_icmp .ge 41, 3) := by decide +kernel
theorem dX0_leavesFullSet_8 : decode cX0_leavesFullSet 8 = .ok (.aload_n 0, 1) := by decide +kernel
theorem dX0_leavesFullSet_9 : decode cX0_leavesFullSet 9 = .ok (.getfield 37, 3) := by decide +kernel
theorem dX0_leavesFullSet_12 : decode cX0_leavesFullSet 12 = .ok (.iload_n 2, 1) := by decide +kernel
theorem dX0_leavesFullSet_13 : decode cX0_leavesFullSet 13 = .ok (.aload_n 0, 1) := by decide +kernel
theorem dX0_leavesFullSet_14 : decode cX0_leavesFullSet 14 = .ok (.getfield 34, 3) := by decide +kernel
theorem dX0_leavesFullSet_17 : decode cX0_leavesFullSet 17 = .ok (.iload_n 2, 1) := by decide +kernel
theorem dX0_leavesFullSet_18 : decode cX0_leavesFullSet 18 = .ok (.baload, 1) := by decide +kernel
theorem dX0_leavesFullSet_19 : decode cX0_leavesFullSet 19 = .ok (.ifCond .eq 19, 3) := by decide +kernel
theorem dX0_leavesFullSet_22 : decode cX0_leavesFullSet 22 = .ok (.aload_n 0, 1) := by decide +kernel
theorem dX0_leavesFullSet_23 : decode cX0_leavesFullSet 23 = .ok (.getfield 43, 3) := by decide +kernel
theorem dX0_leavesFullSet_26 : decode cX0_leavesFullSet 26 = .ok (.iload_n 1, 1) := by decide +kernel
theorem dX0_leavesFullSet_27 : decode cX0_leavesFullSet 27 = .ok (.iload_n 2, 1) := by decide +kernel
theorem dX0_leavesFullSet_28 : decode cX0_leavesFullSet 28 = .ok (.invokevirtual 80, 3) := by decide +kernel
theorem dX0_leavesFullSet_31 : decode cX0_leavesFullSet 31 = .ok (.ifCond .ne 7, 3) := by decide +kernel
theorem dX0_leavesFullSet_34 : decode cX0_leavesFullSet 34 = .ok (.iconst 1, 1) := by decide +kernel
theorem dX0_leavesFullSet_35 : decode cX0_leavesFullSet 35 = .ok (.goto 4, 3) := by decide +kernel
theorem dX0_leavesFullSet_38 : decode cX0_leavesFullSet 38 = .ok (.iconst 0, 1) := by decide +kernel
theorem dX0_leavesFullSet_39 : decode cX0_leavesFullSet 39 = .ok (.bastore, 1) := by decide +kernel
theorem dX0_leavesFullSet_40 : decode cX0_leavesFullSet 40 = .ok (.iinc 2 1, 3) := by decide +kernel
theorem dX0_leavesFullSet_43 : decode cX0_leavesFullSet 43 = .ok (.goto (-41), 3) := by decide +kernel
theorem dX0_leavesFullSet_46 : decode cX0_leavesFullSet 46 = .ok (.iconst 0, 1) := by decide +kernel
theorem dX0_leavesFullSet_47 : decode cX0_leavesFullSet 47 = .ok (.istore_n 2, 1) := by decide +kernel
theorem dX0_leavesFullSet_48 : decode cX0_leavesFullSet 48 = .ok (.iconst 0, 1) := by decide +kernel
theorem dX0_leavesFullSet_49 : decode cX0_leavesFullSet 49 = .ok (.istore_n 3, 1) := by decide +kernel
theorem dX0_leavesFullSet_50 : decode cX0_leavesFullSet 50 = .ok (.iload_n 3, 1) := by decide +kernel
theorem dX0_leavesFullSet_51 : decode cX0_leavesFullSet 51 = .ok (.aload_n 0, 1) := by decide +kernel
theorem dX0_leavesFullSet_52 : decode cX0_leavesFullSet 52 = .ok (.getfield 57, 3) := by decide +kernel
theorem dX0_leavesFullSet_55 : decode cX0_leavesFullSet 55 = .ok (.if_icmp .ge 44, 3) := by decide +kernel
theorem dX0_leavesFullSet_58 : decode cX0_leavesFullSet 58 = .ok (.iload_n 3, 1) := by decide +kernel
theorem dX0_leavesFullSet_59 : decode cX0_leavesFullSet 59 = .ok (.bipush 81, 2) := by decide +kernel
theorem dX0_leavesFullSet_61 : decode cX0_leavesFullSet 61 = .ok (.if_icmp .ge 38, 3) := by decide +kernel
theorem dX0_leavesFullSet_64 : decode cX0_leavesFullSet 64 = .ok (.aload_n 0, 1) := by decide +kernel
theorem dX0_leavesFullSet_65 : decode cX0_leavesFullSet 65 = .ok (.aload_n 0, 1) := by decide +kernel
theorem dX0_leavesFullSet_66 : decode cX0_leavesFullSet 66 = .ok (.getfield 25, 3) := by decide +kernel
theorem dX0_leavesFullSet_69 : decode cX0_leavesFullSet 69 = .ok (.iload_n 3, 1) := by decide +kernel
theorem dX0_leavesFullSet_70 : decode cX0_leavesFullSet 70 = .ok (.iaload, 1) := by decide +kernel
theorem dX0_leavesFullSet_71 : decode cX0_leavesFullSet 71 = .ok (.invokevirtual 83, 3) := by decide +kernel
theorem dX0_leavesFullSet_74 : decode cX0_leavesFullSet 74 = .ok (.istore 4, 2) := by decide +kernel
theorem dX0_leavesFullSet_76 : decode cX0_leavesFullSet 76 = .ok (.iload 4, 2) := by decide +kernel
theorem dX0_leavesFullSet_78 : decode cX0_leavesFullSet 78 = .ok (.iconst (-1), 1) := by decide +kernel
theorem dX0_leavesFullSet_79 : decode cX0_leavesFullSet 79 = .ok (.if_icmp .eq 14, 3) := by decide +kernel
theorem dX0_leavesFullSet_82 : decode cX0_leavesFullSet 82 = .ok (.aload_n 0, 1) := by decide +kernel
theorem dX0_leavesFullSet_83 : decode cX0_leavesFullSet 83 = .ok (.getfield 40, 3) := by decide +kernel
theorem dX0_leavesFullSet_86 : decode cX0_leavesFullSet 86 = .ok (.iload_n 2, 1) := by decide +kernel
theorem dX0_leavesFullSet_87 : decode cX0_leavesFullSet 87 = .ok (.iload 4, 2) := by decide +kernel
theorem dX0_leavesFullSet_89 : decode cX0_leavesFullSet 89 = .ok (.iastore, 1) := by decide +kernel
theorem dX0_leavesFullSet_90 : decode cX0_leavesFullSet 90 = .ok (.iinc 2 1, 3) := by decide +kernel
theorem dX0_leavesFullSet_93 : decode cX0_leavesFullSet 93 = .ok (.iinc 3 1, 3) := by decide +kernel
theorem dX0_leavesFullSet_96 : decode cX0_leavesFullSet 96 = .ok (.goto (-46), 3) := by decide +kernel
theorem dX0_leavesFullSet_99 : decode cX0_leavesFullSet 99 = .ok (.iload_n 2, 1) := by decide +kernel
theorem dX0_leavesFullSet_100 : decode cX0_leavesFullSet 100 = .ok (.aload_n 0, 1) := by decide +kernel
theorem dX0_leavesFullSet_101 : decode cX0_leavesFullSet 101 = .ok (.getfield 57, 3) := by decide +kernel
theorem dX0_leavesFullSet_104 : decode cX0_leavesFullSet 104 = .ok (.aload_n 0, 1) := by decide +kernel
theorem dX0_leavesFullSet_105 : decode cX0_leavesFullSet 105 = .ok (.getfield 70, 3) := by decide +kernel
theorem dX0_leavesFullSet_108 : decode cX0_leavesFullSet 108 = .ok (.isub, 1) := by decide +kernel
theorem dX0_leavesFullSet_109 : decode cX0_leavesFullSet 109 = .ok (.iconst 1, 1) := by decide +kernel
theorem dX0_leavesFullSet_110 : decode cX0_leavesFullSet 110 = .ok (.isub, 1) := by decide +kernel
theorem dX0_leavesFullSet_111 : decode cX0_leavesFullSet 111 = .ok (.if_icmp .ne 15, 3) := by decide +kernel
theorem dX0_leavesFullSet_114 : decode cX0_leavesFullSet 114 = .ok (.aload_n 0, 1) := by decide +kernel
theorem dX0_leavesFullSet_115 : decode cX0_leavesFullSet 115 = .ok (.iload_n 2, 1) := by decide +kernel
theorem dX0_leavesFullSet_116 : decode cX0_leavesFullSet 116 = .ok (.invokevirtual 87, 3) := by decide +kernel
theorem dX0_leavesFullSet_119 : decode cX0_leavesFullSet 119 = .ok (.ifCond .eq 7, 3) := by decide +kernel
theorem dX0_leavesFullSet_122 : decode cX0_leavesFullSet 122 = .ok (.iconst 1, 1) := by decide +kernel
theorem dX0_leavesFullSet_123 : decode cX0_leavesFullSet 123 = .ok (.goto 4, 3) := by decide +kernel
theorem dX0_leavesFullSet_126 : decode cX0_leavesFullSet 126 = .ok (.iconst 0, 1) := by decide +kernel
theorem dX0_leavesFullSet_127 : decode cX0_leavesFullSet 127 = .ok (.ireturn, 1) := by decide +kernel
theorem dX0_leftFrom_0 : decode cX0_leftFrom 0 = .ok (.iload_n 1, 1) := by decide +kernel
theorem dX0_leftFrom_1 : decode cX0_leftFrom 1 = .ok (.istore_n 2, 1) := by decide +kernel
theorem dX0_leftFrom_2 : decode cX0_leftFrom 2 = .ok (.iconst 0, 1) := by decide +kernel
theorem dX0_leftFrom_3 : decode cX0_leftFrom 3 = .ok (.istore_n 3, 1) := by decide +kernel
theorem dX0_leftFrom_4 : decode cX0_leftFrom 4 = .ok (.iload_n 3, 1) := by decide +kernel
theorem dX0_leftFrom_5 : decode cX0_leftFrom 5 = .ok (.bipush 81, 2) := by decide +kernel
theorem dX0_leftFrom_7 : decode cX0_leftFrom 7 = .ok (.if_icmp .ge 30, 3) := by decide +kernel
theorem dX0_leftFrom_10 : decode cX0_leftFrom 10 = .ok (.iload_n 2, 1) := by decide +kernel
theorem dX0_leftFrom_11 : decode cX0_leftFrom 11 = .ok (.iconst (-1), 1) := by decide +kernel
theorem dX0_leftFrom_12 : decode cX0_leftFrom 12 = .ok (.if_icmp .eq 25, 3) := by decide +kernel
theorem dX0_leftFrom_15 : decode cX0_leftFrom 15 = .ok (.aload_n 0, 1) := by decide +kernel
theorem dX0_leftFrom_16 : decode cX0_leftFrom 16 = .ok (.getfield 37, 3) := by decide +kernel
theorem dX0_leftFrom_19 : decode cX0_leftFrom 19 = .ok (.iload_n 2, 1) := by decide +kernel
theorem dX0_leftFrom_20 : decode cX0_leftFrom 20 = .ok (.baload, 1) := by decide +kernel
theorem dX0_leftFrom_21 : decode cX0_leftFrom 21 = .ok (.ifCond .ne 16, 3) := by decide +kernel
theorem dX0_leftFrom_24 : decode cX0_leftFrom 24 = .ok (.aload_n 0, 1) := by decide +kernel
theorem dX0_leftFrom_25 : decode cX0_leftFrom 25 = .ok (.getfield 19, 3) := by decide +kernel
theorem dX0_leftFrom_28 : decode cX0_leftFrom 28 = .ok (.iload_n 2, 1) := by decide +kernel
theorem dX0_leftFrom_29 : decode cX0_leftFrom 29 = .ok (.iaload, 1) := by decide +kernel
theorem dX0_leftFrom_30 : decode cX0_leftFrom 30 = .ok (.istore_n 2, 1) := by decide +kernel
theorem dX0_leftFrom_31 : decode cX0_leftFrom 31 = .ok (.iinc 3 1, 3) := by decide +kernel
theorem dX0_leftFrom_34 : decode cX0_leftFrom 34 = .ok (.goto (-30), 3) := by decide +kernel
theorem dX0_leftFrom_37 : decode cX0_leftFrom 37 = .ok (.iload_n 2, 1) := by decide +kernel
theorem dX0_leftFrom_38 : decode cX0_leftFrom 38 = .ok (.ireturn, 1) := by decide +kernel
theorem dX0_canBeApart_0 : decode cX0_canBeApart 0 = .ok (.iconst 1, 1) := by decide +kernel
theorem dX0_canBeApart_1 : decode cX0_canBeApart 1 = .ok (.istore_n 2, 1) := by decide +kernel
theorem dX0_canBeApart_2 : decode cX0_canBeApart 2 = .ok (.iconst 0, 1) := by decide +kernel
theorem dX0_canBeApart_3 : decode cX0_canBeApart 3 = .ok (.istore_n 3, 1) := by decide +kernel
theorem dX0_canBeApart_4 : decode cX0_canBeApart 4 = .ok (.iload_n 2, 1) := by decide +kernel
theorem dX0_canBeApart_5 : decode cX0_canBeApart 5 = .ok (.ifCond .eq 108, 3) := by decide +kernel
theorem dX0_canBeApart_8 : decode cX0_canBeApart 8 = .ok (.iload_n 3, 1) := by decide +kernel
theorem dX0_canBeApart_9 : decode cX0_canBeApart 9 = .ok (.bipush 81, 2) := by decide +kernel
theorem dX0_canBeApart_11 : decode cX0_canBeApart 11 = .ok (.if_icmp .gt 102, 3) := by decide +kernel
theorem dX0_canBeApart_14 : decode cX0_canBeApart 14 = .ok (.iconst 0, 1) := by decide +kernel
theorem dX0_canBeApart_15 : decode cX0_canBeApart 15 = .ok (.istore_n 2, 1) := by decide +kernel
theorem dX0_canBeApart_16 : decode cX0_canBeApart 16 = .ok (.iconst 0, 1) := by decide +kernel
theorem dX0_canBeApart_17 : decode cX0_canBeApart 17 = .ok (.istore 4, 2) := by decide +kernel
theorem dX0_canBeApart_19 : decode cX0_canBeApart 19 = .ok (.iload 4, 2) := by decide +kernel
theorem dX0_canBeApart_21 : decode cX0_canBeApart 21 = .ok (.iload_n 1, 1) := by decide +kernel
theorem dX0_canBeApart_22 : decode cX0_canBeApart 22 = .ok (.if_icmp .ge 85, 3) := by decide +kernel
theorem dX0_canBeApart_25 : decode cX0_canBeApart 25 = .ok (.iconst 0, 1) := by decide +kernel
theorem dX0_canBeApart_26 : decode cX0_canBeApart 26 = .ok (.istore 5, 2) := by decide +kernel
theorem dX0_canBeApart_28 : decode cX0_canBeApart 28 = .ok (.iload 5, 2) := by decide +kernel
theorem dX0_canBeApart_30 : decode cX0_canBeApart 30 = .ok (.iload_n 1, 1) := by decide +kernel
theorem dX0_canBeApart_31 : decode cX0_canBeApart 31 = .ok (.if_icmp .ge 70, 3) := by decide +kernel
theorem dX0_canBeApart_34 : decode cX0_canBeApart 34 = .ok (.aload_n 0, 1) := by decide +kernel
theorem dX0_canBeApart_35 : decode cX0_canBeApart 35 = .ok (.getfield 43, 3) := by decide +kernel
theorem dX0_canBeApart_38 : decode cX0_canBeApart 38 = .ok (.aload_n 0, 1) := by decide +kernel
theorem dX0_canBeApart_39 : decode cX0_canBeApart 39 = .ok (.getfield 40, 3) := by decide +kernel
theorem dX0_canBeApart_42 : decode cX0_canBeApart 42 = .ok (.iload 4, 2) := by decide +kernel
theorem dX0_canBeApart_44 : decode cX0_canBeApart 44 = .ok (.iaload, 1) := by decide +kernel
theorem dX0_canBeApart_45 : decode cX0_canBeApart 45 = .ok (.aload_n 0, 1) := by decide +kernel
theorem dX0_canBeApart_46 : decode cX0_canBeApart 46 = .ok (.getfield 40, 3) := by decide +kernel
theorem dX0_canBeApart_49 : decode cX0_canBeApart 49 = .ok (.iload 5, 2) := by decide +kernel
theorem dX0_canBeApart_51 : decode cX0_canBeApart 51 = .ok (.iaload, 1) := by decide +kernel
theorem dX0_canBeApart_52 : decode cX0_canBeApart 52 = .ok (.invokevirtual 61, 3) := by decide +kernel
theorem dX0_canBeApart_55 : decode cX0_canBeApart 55 = .ok (.ifCond .eq 40, 3) := by decide +kernel
theorem dX0_canBeApart_58 : decode cX0_canBeApart 58 = .ok (.aload_n 0, 1) := by decide +kernel
theorem dX0_canBeApart_59 : decode cX0_canBeApart 59 = .ok (.aload_n 0, 1) := by decide +kernel
theorem dX0_canBeApart_60 : decode cX0_canBeApart 60 = .ok (.getfield 19, 3) := by decide +kernel
theorem dX0_canBeApart_63 : decode cX0_canBeApart 63 = .ok (.aload_n 0, 1) := by decide +kernel
theorem dX0_canBeApart_64 : decode cX0_canBeApart 64 = .ok (.getfield 40, 3) := by decide +kernel
theorem dX0_canBeApart_67 : decode cX0_canBeApart 67 = .ok (.iload 4, 2) := by decide +kernel
theorem dX0_canBeApart_69 : decode cX0_canBeApart 69 = .ok (.iaload, 1) := by decide +kernel
theorem dX0_canBeApart_70 : decode cX0_canBeApart 70 = .ok (.iaload, 1) := by decide +kernel
theorem dX0_canBeApart_71 : decode cX0_canBeApart 71 = .ok (.invokevirtual 83, 3) := by decide +kernel
theorem dX0_canBeApart_74 : decode cX0_canBeApart 74 = .ok (.istore 6, 2) := by decide +kernel
theorem dX0_canBeApart_76 : decode cX0_canBeApart 76 = .ok (.iload 6, 2) := by decide +kernel
theorem dX0_canBeApart_78 : decode cX0_canBeApart 78 = .ok (.iconst (-1), 1) := by decide +kernel
theorem dX0_canBeApart_79 : decode cX0_canBeApart 79 = .ok (.if_icmp .ne 5, 3) := by decide +kernel
theorem dX0_canBeApart_82 : decode cX0_canBeApart 82 = .ok (.iconst 0, 1) := by decide +kernel
theorem dX0_canBeApart_83 : decode cX0_canBeApart 83 = .ok (.ireturn, 1) := by decide +kernel
theorem dX0_canBeApart_84 : decode cX0_canBeApart 84 = .ok (.aload_n 0, 1) := by decide +kernel
theorem dX0_canBeApart_85 : decode cX0_canBeApart 85 = .ok (.getfield 40, 3) := by decide +kernel
theorem dX0_canBeApart_88 : decode cX0_canBeApart 88 = .ok (.iload 4, 2) := by decide +kernel
theorem dX0_canBeApart_90 : decode cX0_canBeApart 90 = .ok (.iload 6, 2) := by decide +kernel
theorem dX0_canBeApart_92 : decode cX0_canBeApart 92 = .ok (.iastore, 1) := by decide +kernel
theorem dX0_canBeApart_93 : decode cX0_canBeApart 93 = .ok (.iconst 1, 1) := by decide +kernel
theorem dX0_canBeApart_94 : decode cX0_canBeApart 94 = .ok (.istore_n 2, 1) := by decide +kernel
theorem dX0_canBeApart_95 : decode cX0_canBeApart 95 = .ok (.iinc 5 1, 3) := by decide +kernel
theorem dX0_canBeApart_98 : decode cX0_canBeApart 98 = .ok (.goto (-70), 3) := by decide +kernel
theorem dX0_canBeApart_101 : decode cX0_canBeApart 101 = .ok (.iinc 4 1, 3) := by decide +kernel
theorem dX0_canBeApart_104 : decode cX0_canBeApart 104 = .ok (.goto (-85), 3) := by decide +kernel
theorem dX0_canBeApart_107 : decode cX0_canBeApart 107 = .ok (.iinc 3 1, 3) := by decide +kernel
theorem dX0_canBeApart_110 : decode cX0_canBeApart 110 = .ok (.goto (-106), 3) := by decide +kernel
theorem dX0_canBeApart_113 : decode cX0_canBeApart 113 = .ok (.iload_n 2, 1) := by decide +kernel
theorem dX0_canBeApart_114 : decode cX0_canBeApart 114 = .ok (.ifCond .ne 7, 3) := by decide +kernel
theorem dX0_canBeApart_117 : decode cX0_canBeApart 117 = .ok (.iconst 1, 1) := by decide +kernel
theorem dX0_canBeApart_118 : decode cX0_canBeApart 118 = .ok (.goto 4, 3) := by decide +kernel
theorem dX0_canBeApart_121 : decode cX0_canBeApart 121 = .ok (.iconst 0, 1) := by decide +kernel
theorem dX0_canBeApart_122 : decode cX0_canBeApart 122 = .ok (.ireturn, 1) := by decide +kernel
theorem dX1_init_0 : decode cX1_init 0 = .ok (.aload_n 0, 1) := by decide +kernel
theorem dX1_init_1 : decode cX1_init 1 = .ok (.invokespecial 3, 3) := by decide +kernel
theorem dX1_init_4 : decode cX1_init 4 = .ok (.aload_n 0, 1) := by decide +kernel
theorem dX1_init_5 : decode cX1_init 5 = .ok (.bipush 81, 2) := by decide +kernel
theorem dX1_init_7 : decode cX1_init 7 = .ok (.newarray .int, 2) := by decide +kernel
theorem dX1_init_9 : decode cX1_init 9 = .ok (.putfield 9, 3) := by decide +kernel
theorem dX1_init_12 : decode cX1_init 12 = .ok (.aload_n 0, 1) := by decide +kernel
theorem dX1_init_13 : decode cX1_init 13 = .ok (.bipush 81, 2) := by decide +kernel
theorem dX1_init_15 : decode cX1_init 15 = .ok (.newarray .int, 2) := by decide +kernel
theorem dX1_init_17 : decode cX1_init 17 = .ok (.putfield 15, 3) := by decide +kernel
theorem dX1_init_20 : decode cX1_init 20 = .ok (.aload_n 0, 1) := by decide +kernel
theorem dX1_init_21 : decode cX1_init 21 = .ok (.bipush 81, 2) := by decide +kernel
theorem dX1_init_23 : decode cX1_init 23 = .ok (.newarray .int, 2) := by decide +kernel
theorem dX1_init_25 : decode cX1_init 25 = .ok (.putfield 18, 3) := by decide +kernel
theorem dX1_init_28 : decode cX1_init 28 = .ok (.aload_n 0, 1) := by decide +kernel
theorem dX1_init_29 : decode cX1_init 29 = .ok (.bipush 81, 2) := by decide +kernel
theorem dX1_init_31 : decode cX1_init 31 = .ok (.newarray .int, 2) := by decide +kernel
theorem dX1_init_33 : decode cX1_init 33 = .ok (.putfield 21, 3) := by decide +kernel
theorem dX1_init_36 : decode cX1_init 36 = .ok (.iconst 0, 1) := by decide +kernel
theorem dX1_init_37 : decode cX1_init 37 = .ok (.istore_n 1, 1) := by decide +kernel
theorem dX1_init_38 : decode cX1_init 38 = .ok (.iload_n 1, 1) := by decide +kernel
theorem dX1_init_39 : decode cX1_init 39 = .ok (.bipush 81, 2) := by decide +kernel
theorem dX1_init_41 : decode cX1_init 41 = .ok (.if_icmp .ge 100, 3) := by decide +kernel
theorem dX1_init_44 : decode cX1_init 44 = .ok (.iload_n 1, 1) := by decide +kernel
theorem dX1_init_45 : decode cX1_init 45 = .ok (.iconst 0, 1) := by decide +kernel
theorem dX1_init_46 : decode cX1_init 46 = .ok (.invokestatic 24, 3) := by decide +kernel
theorem dX1_init_49 : decode cX1_init 49 = .ok (.istore_n 2, 1) := by decide +kernel
theorem dX1_init_50 : decode cX1_init 50 = .ok (.iconst 0, 1) := by decide +kernel
theorem dX1_init_51 : decode cX1_init 51 = .ok (.istore_n 3, 1) := by decide +kernel
theorem dX1_init_52 : decode cX1_init 52 = .ok (.iload_n 3, 1) := by decide +kernel
theorem dX1_init_53 : decode cX1_init 53 = .ok (.iconst 4, 1) := by decide +kernel
theorem dX1_init_54 : decode cX1_init 54 = .ok (.if_icmp .ge 71, 3) := by decide +kernel
theorem dX1_init_57 : decode cX1_init 57 = .ok (.iload_n 1, 1) := by decide +kernel
theorem dX1_init_58 : decode cX1_init 58 = .ok (.iload_n 3, 1) := by decide +kernel
theorem dX1_init_59 : decode cX1_init 59 = .ok (.invokestatic 24, 3) := by decide +kernel
theorem dX1_init_62 : decode cX1_init 62 = .ok (.istore 4, 2) := by decide +kernel
theorem dX1_init_64 : decode cX1_init 64 = .ok (.aload_n 0, 1) := by decide +kernel
theorem dX1_init_65 : decode cX1_init 65 = .ok (.getfield 9, 3) := by decide +kernel
theorem dX1_init_68 : decode cX1_init 68 = .ok (.iload_n 1, 1) := by decide +kernel
theorem dX1_init_69 : decode cX1_init 69 = .ok (.dup2, 1) := by decide +kernel
theorem dX1_init_70 : decode cX1_init 70 = .ok (.iaload, 1) := by decide +kernel
theorem dX1_init_71 : decode cX1_init 71 = .ok (.iconst 1, 1) := by decide +kernel
theorem dX1_init_72 : decode cX1_init 72 = .ok (.iload 4, 2) := by decide +kernel
theorem dX1_init_74 : decode cX1_init 74 = .ok (.ishl, 1) := by decide +kernel
theorem dX1_init_75 : decode cX1_init 75 = .ok (.iconst 1, 1) := by decide +kernel
theorem dX1_init_76 : decode cX1_init 76 = .ok (.isub, 1) := by decide +kernel
theorem dX1_init_77 : decode cX1_init 77 = .ok (.iconst 2, 1) := by decide +kernel
theorem dX1_init_78 : decode cX1_init 78 = .ok (.iload_n 3, 1) := by decide +kernel
theorem dX1_init_79 : decode cX1_init 79 = .ok (.imul, 1) := by decide +kernel
theorem dX1_init_80 : decode cX1_init 80 = .ok (.ishl, 1) := by decide +kernel
theorem dX1_init_81 : decode cX1_init 81 = .ok (.ior, 1) := by decide +kernel
theorem dX1_init_82 : decode cX1_init 82 = .ok (.iastore, 1) := by decide +kernel
theorem dX1_init_83 : decode cX1_init 83 = .ok (.aload_n 0, 1) := by decide +kernel
theorem dX1_init_84 : decode cX1_init 84 = .ok (.getfield 15, 3) := by decide +kernel
theorem dX1_init_87 : decode cX1_init 87 = .ok (.iload_n 1, 1) := by decide +kernel
theorem dX1_init_88 : decode cX1_init 88 = .ok (.dup2, 1) := by decide +kernel
theorem dX1_init_89 : decode cX1_init 89 = .ok (.iaload, 1) := by decide +kernel
theorem dX1_init_90 : decode cX1_init 90 = .ok (.iload 4, 2) := by decide +kernel
theorem dX1_init_92 : decode cX1_init 92 = .ok (.iadd, 1) := by decide +kernel
theorem dX1_init_93 : decode cX1_init 93 = .ok (.iastore, 1) := by decide +kernel
theorem dX1_init_94 : decode cX1_init 94 = .ok (.aload_n 0, 1) := by decide +kernel
theorem dX1_init_95 : decode cX1_init 95 = .ok (.getfield 18, 3) := by decide +kernel
theorem dX1_init_98 : decode cX1_init 98 = .ok (.iload_n 1, 1) := by decide +kernel
theorem dX1_init_99 : decode cX1_init 99 = .ok (.aload_n 0, 1) := by decide +kernel
theorem dX1_init_100 : decode cX1_init 100 = .ok (.getfield 18, 3) := by decide +kernel
theorem dX1_init_103 : decode cX1_init 103 = .ok (.iload_n 1, 1) := by decide +kernel
theorem dX1_init_104 : decode cX1_init 104 = .ok (.iaload, 1) := by decide +kernel
theorem dX1_init_105 : decode cX1_init 105 = .ok (.iload 4, 2) := by decide +kernel
theorem dX1_init_107 : decode cX1_init 107 = .ok (.iload_n 2, 1) := by decide +kernel
theorem dX1_init_108 : decode cX1_init 108 = .ok (.isub, 1) := by decide +kernel
theorem dX1_init_109 : decode cX1_init 109 = .ok (.invokestatic 28, 3) := by decide +kernel
theorem dX1_init_112 : decode cX1_init 112 = .ok (.invokestatic 34, 3) := by decide +kernel
theorem dX1_init_115 : decode cX1_init 115 = .ok (.iastore, 1) := by decide +kernel
theorem dX1_init_116 : decode cX1_init 116 = .ok (.iload 4, 2) := by decide +kernel
theorem dX1_init_118 : decode cX1_init 118 = .ok (.istore_n 2, 1) := by decide +kernel
theorem dX1_init_119 : decode cX1_init 119 = .ok (.iinc 3 1, 3) := by decide +kernel
theorem dX1_init_122 : decode cX1_init 122 = .ok (.goto (-70), 3) := by decide +kernel
theorem dX1_init_125 : decode cX1_init 125 = .ok (.aload_n 0, 1) := by decide +kernel
theorem dX1_init_126 : decode cX1_init 126 = .ok (.getfield 21, 3) := by decide +kernel
theorem dX1_init_129 : decode cX1_init 129 = .ok (.iload_n 1, 1) := by decide +kernel
theorem dX1_init_130 : decode cX1_init 130 = .ok (.iload_n 1, 1) := by decide +kernel
theorem dX1_init_131 : decode cX1_init 131 = .ok (.invokestatic 37, 3) := by decide +kernel
theorem dX1_init_134 : decode cX1_init 134 = .ok (.iastore, 1) := by decide +kernel
theorem dX1_init_135 : decode cX1_init 135 = .ok (.iinc 1 1, 3) := by decide +kernel
theorem dX1_init_138 : decode cX1_init 138 = .ok (.goto (-100), 3) := by decide +kernel
theorem dX1_init_141 : decode cX1_init 141 = .ok (.return_, 1) := by decide +kernel
theorem dX1_depthOf_0 : decode cX1_depthOf 0 = .ok (.iload_n 0, 1) := by decide +kernel
theorem dX1_depthOf_1 : decode cX1_depthOf 1 = .ok (.getstatic 40, 3) := by decide +kernel
theorem dX1_depthOf_4 : decode cX1_depthOf 4 = .ok (.iload_n 1, 1) := by decide +kernel
theorem dX1_depthOf_5 : decode cX1_depthOf 5 = .ok (.iaload, 1) := by decide +kernel
theorem dX1_depthOf_6 : decode cX1_depthOf 6 = .ok (.idiv, 1) := by decide +kernel
theorem dX1_depthOf_7 : decode cX1_depthOf 7 = .ok (.iconst 3, 1) := by decide +kernel
theorem dX1_depthOf_8 : decode cX1_depthOf 8 = .ok (.irem, 1) := by decide +kernel
theorem dX1_depthOf_9 : decode cX1_depthOf 9 = .ok (.ireturn, 1) := by decide +kernel
theorem dX1_wornOnce_0 : decode cX1_wornOnce 0 = .ok (.iconst 0, 1) := by decide +kernel
theorem dX1_wornOnce_1 : decode cX1_wornOnce 1 = .ok (.istore_n 1, 1) := by decide +kernel
theorem dX1_wornOnce_2 : decode cX1_wornOnce 2 = .ok (.iconst 1, 1) := by decide +kernel
theorem dX1_wornOnce_3 : decode cX1_wornOnce 3 = .ok (.istore_n 2, 1) := by decide +kernel
theorem dX1_wornOnce_4 : decode cX1_wornOnce 4 = .ok (.iload_n 2, 1) := by decide +kernel
theorem dX1_wornOnce_5 : decode cX1_wornOnce 5 = .ok (.iconst 4, 1) := by decide +kernel
theorem dX1_wornOnce_6 : decode cX1_wornOnce 6 = .ok (.if_icmp .ge 24, 3) := by decide +kernel
theorem dX1_wornOnce_9 : decode cX1_wornOnce 9 = .ok (.iload_n 0, 1) := by decide +kernel
theorem dX1_wornOnce_10 : decode cX1_wornOnce 10 = .ok (.iload_n 2, 1) := by decide +kernel
theorem dX1_wornOnce_11 : decode cX1_wornOnce 11 = .ok (.invokestatic 24, 3) := by decide +kernel
theorem dX1_wornOnce_14 : decode cX1_wornOnce 14 = .ok (.iload_n 0, 1) := by decide +kernel
theorem dX1_wornOnce_15 : decode cX1_wornOnce 15 = .ok (.iload_n 1, 1) := by decide +kernel
theorem dX1_wornOnce_16 : decode cX1_wornOnce 16 = .ok (.invokestatic 24, 3) := by decide +kernel
theorem dX1_wornOnce_19 : decode cX1_wornOnce 19 = .ok (.if_icmp .ge 5, 3) := by decide +kernel
theorem dX1_wornOnce_22 : decode cX1_wornOnce 22 = .ok (.iload_n 2, 1) := by decide +kernel
theorem dX1_wornOnce_23 : decode cX1_wornOnce 23 = .ok (.istore_n 1, 1) := by decide +kernel
theorem dX1_wornOnce_24 : decode cX1_wornOnce 24 = .ok (.iinc 2 1, 3) := by decide +kernel
theorem dX1_wornOnce_27 : decode cX1_wornOnce 27 = .ok (.goto (-23), 3) := by decide +kernel
theorem dX1_wornOnce_30 : decode cX1_wornOnce 30 = .ok (.iload_n 0, 1) := by decide +kernel
theorem dX1_wornOnce_31 : decode cX1_wornOnce 31 = .ok (.iload_n 1, 1) := by decide +kernel
theorem dX1_wornOnce_32 : decode cX1_wornOnce 32 = .ok (.invokestatic 24, 3) := by decide +kernel
theorem dX1_wornOnce_35 : decode cX1_wornOnce 35 = .ok (.iconst 2, 1) := by decide +kernel
theorem dX1_wornOnce_36 : decode cX1_wornOnce 36 = .ok (.if_icmp .ge 7, 3) := by decide +kernel
theorem dX1_wornOnce_39 : decode cX1_wornOnce 39 = .ok (.iconst 1, 1) := by decide +kernel
theorem dX1_wornOnce_40 : decode cX1_wornOnce 40 = .ok (.goto 4, 3) := by decide +kernel
theorem dX1_wornOnce_43 : decode cX1_wornOnce 43 = .ok (.iconst 0, 1) := by decide +kernel
theorem dX1_wornOnce_44 : decode cX1_wornOnce 44 = .ok (.istore_n 2, 1) := by decide +kernel
theorem dX1_wornOnce_45 : decode cX1_wornOnce 45 = .ok (.iload_n 2, 1) := by decide +kernel
theorem dX1_wornOnce_46 : decode cX1_wornOnce 46 = .ok (.ifCond .eq 13, 3) := by decide +kernel
theorem dX1_wornOnce_49 : decode cX1_wornOnce 49 = .ok (.iload_n 0, 1) := by decide +kernel
theorem dX1_wornOnce_50 : decode cX1_wornOnce 50 = .ok (.getstatic 40, 3) := by decide +kernel
theorem dX1_wornOnce_53 : decode cX1_wornOnce 53 = .ok (.iload_n 1, 1) := by decide +kernel
theorem dX1_wornOnce_54 : decode cX1_wornOnce 54 = .ok (.iaload, 1) := by decide +kernel
theorem dX1_wornOnce_55 : decode cX1_wornOnce 55 = .ok (.iadd, 1) := by decide +kernel
theorem dX1_wornOnce_56 : decode cX1_wornOnce 56 = .ok (.goto 4, 3) := by decide +kernel
theorem dX1_wornOnce_59 : decode cX1_wornOnce 59 = .ok (.iload_n 0, 1) := by decide +kernel
theorem dX1_wornOnce_60 : decode cX1_wornOnce 60 = .ok (.ireturn, 1) := by decide +kernel
theorem dX1_isUnderOrLike_0 : decode cX1_isUnderOrLike 0 = .ok (.aload_n 0, 1) := by decide +kernel
theorem dX1_isUnderOrLike_1 : decode cX1_isUnderOrLike 1 = .ok (.getfield 9, 3) := by decide +kernel
theorem dX1_isUnderOrLike_4 : decode cX1_isUnderOrLike 4 = .ok (.iload_n 1, 1) := by decide +kernel
theorem dX1_isUnderOrLike_5 : decode cX1_isUnderOrLike 5 = .ok (.iaload, 1) := by decide +kernel
theorem dX1_isUnderOrLike_6 : decode cX1_isUnderOrLike 6 = .ok (.aload_n 0, 1) := by decide +kernel
theorem dX1_isUnderOrLike_7 : decode cX1_isUnderOrLike 7 = .ok (.getfield 9, 3) := by decide +kernel
theorem dX1_isUnderOrLike_10 : decode cX1_isUnderOrLike 10 = .ok (.iload_n 2, 1) := by decide +kernel
theorem dX1_isUnderOrLike_11 : decode cX1_isUnderOrLike 11 = .ok (.iaload, 1) := by decide +kernel
theorem dX1_isUnderOrLike_12 : decode cX1_isUnderOrLike 12 = .ok (.iconst (-1), 1) := by decide +kernel
theorem dX1_isUnderOrLike_13 : decode cX1_isUnderOrLike 13 = .ok (.ixor, 1) := by decide +kernel
theorem dX1_isUnderOrLike_14 : decode cX1_isUnderOrLike 14 = .ok (.iand, 1) := by decide +kernel
theorem dX1_isUnderOrLike_15 : decode cX1_isUnderOrLike 15 = .ok (.ifCond .ne 7, 3) := by decide +kernel
theorem dX1_isUnderOrLike_18 : decode cX1_isUnderOrLike 18 = .ok (.iconst 1, 1) := by decide +kernel
theorem dX1_isUnderOrLike_19 : decode cX1_isUnderOrLike 19 = .ok (.goto 4, 3) := by decide +kernel
theorem dX1_isUnderOrLike_22 : decode cX1_isUnderOrLike 22 = .ok (.iconst 0, 1) := by decide +kernel
theorem dX1_isUnderOrLike_23 : decode cX1_isUnderOrLike 23 = .ok (.ireturn, 1) := by decide +kernel
theorem dX1_liesUnder_0 : decode cX1_liesUnder 0 = .ok (.iload_n 1, 1) := by decide +kernel
theorem dX1_liesUnder_1 : decode cX1_liesUnder 1 = .ok (.iload_n 2, 1) := by decide +kernel
theorem dX1_liesUnder_2 : decode cX1_liesUnder 2 = .ok (.if_icmp .eq 25, 3) := by decide +kernel
theorem dX1_liesUnder_5 : decode cX1_liesUnder 5 = .ok (.aload_n 0, 1) := by decide +kernel
theorem dX1_liesUnder_6 : decode cX1_liesUnder 6 = .ok (.getfield 9, 3) := by decide +kernel
theorem dX1_liesUnder_9 : decode cX1_liesUnder 9 = .ok (.iload_n 1, 1) := by decide +kernel
theorem dX1_liesUnder_10 : decode cX1_liesUnder 10 = .ok (.iaload, 1) := by decide +kernel
theorem dX1_liesUnder_11 : decode cX1_liesUnder 11 = .ok (.aload_n 0, 1) := by decide +kernel
theorem dX1_liesUnder_12 : decode cX1_liesUnder 12 = .ok (.getfield 9, 3) := by decide +kernel
theorem dX1_liesUnder_15 : decode cX1_liesUnder 15 = .ok (.iload_n 2, 1) := by decide +kernel
theorem dX1_liesUnder_16 : decode cX1_liesUnder 16 = .ok (.iaload, 1) := by decide +kernel
theorem dX1_liesUnder_17 : decode cX1_liesUnder 17 = .ok (.iconst (-1), 1) := by decide +kernel
theorem dX1_liesUnder_18 : decode cX1_liesUnder 18 = .ok (.ixor, 1) := by decide +kernel
theorem dX1_liesUnder_19 : decode cX1_liesUnder 19 = .ok (.iand, 1) := by decide +kernel
theorem dX1_liesUnder_20 : decode cX1_liesUnder 20 = .ok (.ifCond .ne 7, 3) := by decide +kernel
theorem dX1_liesUnder_23 : decode cX1_liesUnder 23 = .ok (.iconst 1, 1) := by decide +kernel
theorem dX1_liesUnder_24 : decode cX1_liesUnder 24 = .ok (.goto 4, 3) := by decide +kernel
theorem dX1_liesUnder_27 : decode cX1_liesUnder 27 = .ok (.iconst 0, 1) := by decide +kernel
theorem dX1_liesUnder_28 : decode cX1_liesUnder 28 = .ok (.ireturn, 1) := by decide +kernel
theorem dX1_areCrossed_0 : decode cX1_areCrossed 0 = .ok (.aload_n 0, 1) := by decide +kernel
theorem dX1_areCrossed_1 : decode cX1_areCrossed 1 = .ok (.getfield 9, 3) := by decide +kernel
theorem dX1_areCrossed_4 : decode cX1_areCrossed 4 = .ok (.iload_n 1, 1) := by decide +kernel
theorem dX1_areCrossed_5 : decode cX1_areCrossed 5 = .ok (.iaload, 1) := by decide +kernel
theorem dX1_areCrossed_6 : decode cX1_areCrossed 6 = .ok (.aload_n 0, 1) := by decide +kernel
theorem dX1_areCrossed_7 : decode cX1_areCrossed 7 = .ok (.getfield 9, 3) := by decide +kernel
theorem dX1_areCrossed_10 : decode cX1_areCrossed 10 = .ok (.iload_n 2, 1) := by decide +kernel
theorem dX1_areCrossed_11 : decode cX1_areCrossed 11 = .ok (.iaload, 1) := by decide +kernel
theorem dX1_areCrossed_12 : decode cX1_areCrossed 12 = .ok (.iand, 1) := by decide +kernel
theorem dX1_areCrossed_13 : decode cX1_areCrossed 13 = .ok (.istore_n 3, 1) := by decide +kernel
theorem dX1_areCrossed_14 : decode cX1_areCrossed 14 = .ok (.iload_n 3, 1) := by decide +kernel
theorem dX1_areCrossed_15 : decode cX1_areCrossed 15 = .ok (.aload_n 0, 1) := by decide +kernel
theorem dX1_areCrossed_16 : decode cX1_areCrossed 16 = .ok (.getfield 9, 3) := by decide +kernel
theorem dX1_areCrossed_19 : decode cX1_areCrossed 19 = .ok (.iload_n 1, 1) := by decide +kernel
theorem dX1_areCrossed_20 : decode cX1_areCrossed 20 = .ok (.iaload, 1) := by decide +kernel
theorem dX1_areCrossed_21 : decode cX1_areCrossed 21 = .ok (.if_icmp .eq 13, 3) := by decide +kernel
theorem dX1_areCrossed_24 : decode cX1_areCrossed 24 = .ok (.iload_n 3, 1) := by decide +kernel
theorem dX1_areCrossed_25 : decode cX1_areCrossed 25 = .ok (.aload_n 0, 1) := by decide +kernel
theorem dX1_areCrossed_26 : decode cX1_areCrossed 26 = .ok (.getfield 9, 3) := by decide +kernel
theorem dX1_areCrossed_29 : decode cX1_areCrossed 29 = .ok (.iload_n 2, 1) := by decide +kernel
theorem dX1_areCrossed_30 : decode cX1_areCrossed 30 = .ok (.iaload, 1) := by decide +kernel
theorem dX1_areCrossed_31 : decode cX1_areCrossed 31 = .ok (.if_icmp .ne 7, 3) := by decide +kernel
theorem dX1_areCrossed_34 : decode cX1_areCrossed 34 = .ok (.iconst 1, 1) := by decide +kernel
theorem dX1_areCrossed_35 : decode cX1_areCrossed 35 = .ok (.goto 4, 3) := by decide +kernel
theorem dX1_areCrossed_38 : decode cX1_areCrossed 38 = .ok (.iconst 0, 1) := by decide +kernel
theorem dX1_areCrossed_39 : decode cX1_areCrossed 39 = .ok (.ireturn, 1) := by decide +kernel
theorem dX2_init_0 : decode cX2_init 0 = .ok (.aload_n 0, 1) := by decide +kernel
theorem dX2_init_1 : decode cX2_init 1 = .ok (.invokespecial 1, 3) := by decide +kernel
theorem dX2_init_4 : decode cX2_init 4 = .ok (.return_, 1) := by decide +kernel
theorem dX2_startWith_0 : decode cX2_startWith 0 = .ok (.aload_n 0, 1) := by decide +kernel
theorem dX2_startWith_1 : decode cX2_startWith 1 = .ok (.iload_n 1, 1) := by decide +kernel
theorem dX2_startWith_2 : decode cX2_startWith 2 = .ok (.putfield 7, 3) := by decide +kernel
theorem dX2_startWith_5 : decode cX2_startWith 5 = .ok (.aload_n 0, 1) := by decide +kernel
theorem dX2_startWith_6 : decode cX2_startWith 6 = .ok (.iload_n 1, 1) := by decide +kernel
theorem dX2_startWith_7 : decode cX2_startWith 7 = .ok (.putfield 13, 3) := by decide +kernel
theorem dX2_startWith_10 : decode cX2_startWith 10 = .ok (.aload_n 0, 1) := by decide +kernel
theorem dX2_startWith_11 : decode cX2_startWith 11 = .ok (.iconst 0, 1) := by decide +kernel
theorem dX2_startWith_12 : decode cX2_startWith 12 = .ok (.putfield 16, 3) := by decide +kernel
theorem dX2_startWith_15 : decode cX2_startWith 15 = .ok (.aload_n 0, 1) := by decide +kernel
theorem dX2_startWith_16 : decode cX2_startWith 16 = .ok (.iload_n 2, 1) := by decide +kernel
theorem dX2_startWith_17 : decode cX2_startWith 17 = .ok (.putfield 19, 3) := by decide +kernel
theorem dX2_startWith_20 : decode cX2_startWith 20 = .ok (.aload_n 0, 1) := by decide +kernel
theorem dX2_startWith_21 : decode cX2_startWith 21 = .ok (.iconst 0, 1) := by decide +kernel
theorem dX2_startWith_22 : decode cX2_startWith 22 = .ok (.putfield 22, 3) := by decide +kernel
theorem dX2_startWith_25 : decode cX2_startWith 25 = .ok (.aload_n 0, 1) := by decide +kernel
theorem dX2_startWith_26 : decode cX2_startWith 26 = .ok (.iconst 0, 1) := by decide +kernel
theorem dX2_startWith_27 : decode cX2_startWith 27 = .ok (.putfield 25, 3) := by decide +kernel
theorem dX2_startWith_30 : decode cX2_startWith 30 = .ok (.return_, 1) := by decide +kernel
theorem dX2_copyFrom_0 : decode cX2_copyFrom 0 = .ok (.aload_n 0, 1) := by decide +kernel
theorem dX2_copyFrom_1 : decode cX2_copyFrom 1 = .ok (.aload_n 1, 1) := by decide +kernel
theorem dX2_copyFrom_2 : decode cX2_copyFrom 2 = .ok (.getfield 7, 3) := by decide +kernel
theorem dX2_copyFrom_5 : decode cX2_copyFrom 5 = .ok (.putfield 7, 3) := by decide +kernel
theorem dX2_copyFrom_8 : decode cX2_copyFrom 8 = .ok (.aload_n 0, 1) := by decide +kernel
theorem dX2_copyFrom_9 : decode cX2_copyFrom 9 = .ok (.aload_n 1, 1) := by decide +kernel
theorem dX2_copyFrom_10 : decode cX2_copyFrom 10 = .ok (.getfield 13, 3) := by decide +kernel
theorem dX2_copyFrom_13 : decode cX2_copyFrom 13 = .ok (.putfield 13, 3) := by decide +kernel
theorem dX2_copyFrom_16 : decode cX2_copyFrom 16 = .ok (.aload_n 0, 1) := by decide +kernel
theorem dX2_copyFrom_17 : decode cX2_copyFrom 17 = .ok (.aload_n 1, 1) := by decide +kernel
theorem dX2_copyFrom_18 : decode cX2_copyFrom 18 = .ok (.getfield 16, 3) := by decide +kernel
theorem dX2_copyFrom_21 : decode cX2_copyFrom 21 = .ok (.putfield 16, 3) := by decide +kernel
theorem dX2_copyFrom_24 : decode cX2_copyFrom 24 = .ok (.aload_n 0, 1) := by decide +kernel
theorem dX2_copyFrom_25 : decode cX2_copyFrom 25 = .ok (.aload_n 1, 1) := by decide +kernel
theorem dX2_copyFrom_26 : decode cX2_copyFrom 26 = .ok (.getfield 19, 3) := by decide +kernel
theorem dX2_copyFrom_29 : decode cX2_copyFrom 29 = .ok (.putfield 19, 3) := by decide +kernel
theorem dX2_copyFrom_32 : decode cX2_copyFrom 32 = .ok (.aload_n 0, 1) := by decide +kernel
theorem dX2_copyFrom_33 : decode cX2_copyFrom 33 = .ok (.aload_n 1, 1) := by decide +kernel
theorem dX2_copyFrom_34 : decode cX2_copyFrom 34 = .ok (.getfield 22, 3) := by decide +kernel
theorem dX2_copyFrom_37 : decode cX2_copyFrom 37 = .ok (.putfield 22, 3) := by decide +kernel
theorem dX2_copyFrom_40 : decode cX2_copyFrom 40 = .ok (.aload_n 0, 1) := by decide +kernel
theorem dX2_copyFrom_41 : decode cX2_copyFrom 41 = .ok (.aload_n 1, 1) := by decide +kernel
theorem dX2_copyFrom_42 : decode cX2_copyFrom 42 = .ok (.getfield 25, 3) := by decide +kernel
theorem dX2_copyFrom_45 : decode cX2_copyFrom 45 = .ok (.putfield 25, 3) := by decide +kernel
theorem dX2_copyFrom_48 : decode cX2_copyFrom 48 = .ok (.return_, 1) := by decide +kernel
theorem dX3_init_0 : decode cX3_init 0 = .ok (.aload_n 0, 1) := by decide +kernel
theorem dX3_init_1 : decode cX3_init 1 = .ok (.invokespecial 3, 3) := by decide +kernel
theorem dX3_init_4 : decode cX3_init 4 = .ok (.aload_n 0, 1) := by decide +kernel
theorem dX3_init_5 : decode cX3_init 5 = .ok (.iconst (-1), 1) := by decide +kernel
theorem dX3_init_6 : decode cX3_init 6 = .ok (.putfield 9, 3) := by decide +kernel
theorem dX3_init_9 : decode cX3_init 9 = .ok (.aload_n 0, 1) := by decide +kernel
theorem dX3_init_10 : decode cX3_init 10 = .ok (.iconst (-1), 1) := by decide +kernel
theorem dX3_init_11 : decode cX3_init 11 = .ok (.putfield 15, 3) := by decide +kernel
theorem dX3_init_14 : decode cX3_init 14 = .ok (.return_, 1) := by decide +kernel
theorem dX3_clear_0 : decode cX3_clear 0 = .ok (.aload_n 0, 1) := by decide +kernel
theorem dX3_clear_1 : decode cX3_clear 1 = .ok (.iconst (-1), 1) := by decide +kernel
theorem dX3_clear_2 : decode cX3_clear 2 = .ok (.putfield 9, 3) := by decide +kernel
theorem dX3_clear_5 : decode cX3_clear 5 = .ok (.aload_n 0, 1) := by decide +kernel
theorem dX3_clear_6 : decode cX3_clear 6 = .ok (.iconst (-1), 1) := by decide +kernel
theorem dX3_clear_7 : decode cX3_clear 7 = .ok (.putfield 15, 3) := by decide +kernel
theorem dX3_clear_10 : decode cX3_clear 10 = .ok (.aload_n 0, 1) := by decide +kernel
theorem dX3_clear_11 : decode cX3_clear 11 = .ok (.iconst 0, 1) := by decide +kernel
theorem dX3_clear_12 : decode cX3_clear 12 = .ok (.putfield 18, 3) := by decide +kernel
theorem dX3_clear_15 : decode cX3_clear 15 = .ok (.aload_n 0, 1) := by decide +kernel
theorem dX3_clear_16 : decode cX3_clear 16 = .ok (.iconst 0, 1) := by decide +kernel
theorem dX3_clear_17 : decode cX3_clear 17 = .ok (.putfield 21, 3) := by decide +kernel
theorem dX3_clear_20 : decode cX3_clear 20 = .ok (.return_, 1) := by decide +kernel
theorem dX3_copyFrom_0 : decode cX3_copyFrom 0 = .ok (.aload_n 0, 1) := by decide +kernel
theorem dX3_copyFrom_1 : decode cX3_copyFrom 1 = .ok (.aload_n 1, 1) := by decide +kernel
theorem dX3_copyFrom_2 : decode cX3_copyFrom 2 = .ok (.getfield 9, 3) := by decide +kernel
theorem dX3_copyFrom_5 : decode cX3_copyFrom 5 = .ok (.putfield 9, 3) := by decide +kernel
theorem dX3_copyFrom_8 : decode cX3_copyFrom 8 = .ok (.aload_n 0, 1) := by decide +kernel
theorem dX3_copyFrom_9 : decode cX3_copyFrom 9 = .ok (.aload_n 1, 1) := by decide +kernel
theorem dX3_copyFrom_10 : decode cX3_copyFrom 10 = .ok (.getfield 15, 3) := by decide +kernel
theorem dX3_copyFrom_13 : decode cX3_copyFrom 13 = .ok (.putfield 15, 3) := by decide +kernel
theorem dX3_copyFrom_16 : decode cX3_copyFrom 16 = .ok (.aload_n 0, 1) := by decide +kernel
theorem dX3_copyFrom_17 : decode cX3_copyFrom 17 = .ok (.aload_n 1, 1) := by decide +kernel
theorem dX3_copyFrom_18 : decode cX3_copyFrom 18 = .ok (.getfield 18, 3) := by decide +kernel
theorem dX3_copyFrom_21 : decode cX3_copyFrom 21 = .ok (.putfield 18, 3) := by decide +kernel
theorem dX3_copyFrom_24 : decode cX3_copyFrom 24 = .ok (.aload_n 0, 1) := by decide +kernel
theorem dX3_copyFrom_25 : decode cX3_copyFrom 25 = .ok (.aload_n 1, 1) := by decide +kernel
theorem dX3_copyFrom_26 : decode cX3_copyFrom 26 = .ok (.getfield 21, 3) := by decide +kernel
theorem dX3_copyFrom_29 : decode cX3_copyFrom 29 = .ok (.putfield 21, 3) := by decide +kernel
theorem dX3_copyFrom_32 : decode cX3_copyFrom 32 = .ok (.return_, 1) := by decide +kernel
theorem dX4_init_0 : decode cX4_init 0 = .ok (.aload_n 0, 1) := by decide +kernel
theorem dX4_init_1 : decode cX4_init 1 = .ok (.invokespecial 3, 3) := by decide +kernel
theorem dX4_init_4 : decode cX4_init 4 = .ok (.aload_n 0, 1) := by decide +kernel
theorem dX4_init_5 : decode cX4_init 5 = .ok (.bipush 60, 2) := by decide +kernel
theorem dX4_init_7 : decode cX4_init 7 = .ok (.newarray .char, 2) := by decide +kernel
theorem dX4_init_9 : decode cX4_init 9 = .ok (.putfield 9, 3) := by decide +kernel
theorem dX4_init_12 : decode cX4_init 12 = .ok (.return_, 1) := by decide +kernel
theorem dX5_init_0 : decode cX5_init 0 = .ok (.aload_n 0, 1) := by decide +kernel
theorem dX5_init_1 : decode cX5_init 1 = .ok (.invokespecial 3, 3) := by decide +kernel
theorem dX5_init_4 : decode cX5_init 4 = .ok (.aload_n 0, 1) := by decide +kernel
theorem dX5_init_5 : decode cX5_init 5 = .ok (.bipush 12, 2) := by decide +kernel
theorem dX5_init_7 : decode cX5_init 7 = .ok (.anewarray 9, 3) := by decide +kernel
theorem dX5_init_10 : decode cX5_init 10 = .ok (.putfield 11, 3) := by decide +kernel
theorem dX5_init_13 : decode cX5_init 13 = .ok (.aload_n 0, 1) := by decide +kernel
theorem dX5_init_14 : decode cX5_init 14 = .ok (.bipush 6, 2) := by decide +kernel
theorem dX5_init_16 : decode cX5_init 16 = .ok (.anewarray 17, 3) := by decide +kernel
theorem dX5_init_19 : decode cX5_init 19 = .ok (.putfield 19, 3) := by decide +kernel
theorem dX5_init_22 : decode cX5_init 22 = .ok (.aload_n 0, 1) := by decide +kernel
theorem dX5_init_23 : decode cX5_init 23 = .ok (.iconst 4, 1) := by decide +kernel
theorem dX5_init_24 : decode cX5_init 24 = .ok (.newarray .int, 2) := by decide +kernel
theorem dX5_init_26 : decode cX5_init 26 = .ok (.putfield 23, 3) := by decide +kernel
theorem dX5_init_29 : decode cX5_init 29 = .ok (.aload_n 0, 1) := by decide +kernel
theorem dX5_init_30 : decode cX5_init 30 = .ok (.iconst 4, 1) := by decide +kernel
theorem dX5_init_31 : decode cX5_init 31 = .ok (.newarray .int, 2) := by decide +kernel
theorem dX5_init_33 : decode cX5_init 33 = .ok (.dup, 1) := by decide +kernel
theorem dX5_init_34 : decode cX5_init 34 = .ok (.iconst 0, 1) := by decide +kernel
theorem dX5_init_35 : decode cX5_init 35 = .ok (.iconst 2, 1) := by decide +kernel
theorem dX5_init_36 : decode cX5_init 36 = .ok (.iastore, 1) := by decide +kernel
theorem dX5_init_37 : decode cX5_init 37 = .ok (.dup, 1) := by decide +kernel
theorem dX5_init_38 : decode cX5_init 38 = .ok (.iconst 1, 1) := by decide +kernel
theorem dX5_init_39 : decode cX5_init 39 = .ok (.iconst 2, 1) := by decide +kernel
theorem dX5_init_40 : decode cX5_init 40 = .ok (.iastore, 1) := by decide +kernel
theorem dX5_init_41 : decode cX5_init 41 = .ok (.dup, 1) := by decide +kernel
theorem dX5_init_42 : decode cX5_init 42 = .ok (.iconst 2, 1) := by decide +kernel
theorem dX5_init_43 : decode cX5_init 43 = .ok (.iconst 4, 1) := by decide +kernel
theorem dX5_init_44 : decode cX5_init 44 = .ok (.iastore, 1) := by decide +kernel
theorem dX5_init_45 : decode cX5_init 45 = .ok (.dup, 1) := by decide +kernel
theorem dX5_init_46 : decode cX5_init 46 = .ok (.iconst 3, 1) := by decide +kernel
theorem dX5_init_47 : decode cX5_init 47 = .ok (.iconst 1, 1) := by decide +kernel
theorem dX5_init_48 : decode cX5_init 48 = .ok (.iastore, 1) := by decide +kernel
theorem dX5_init_49 : decode cX5_init 49 = .ok (.putfield 27, 3) := by decide +kernel
theorem dX5_init_52 : decode cX5_init 52 = .ok (.aload_n 0, 1) := by decide +kernel
theorem dX5_init_53 : decode cX5_init 53 = .ok (.iconst (-1), 1) := by decide +kernel
theorem dX5_init_54 : decode cX5_init 54 = .ok (.putfield 30, 3) := by decide +kernel
theorem dX5_init_57 : decode cX5_init 57 = .ok (.aload_n 0, 1) := by decide +kernel
theorem dX5_init_58 : decode cX5_init 58 = .ok (.iconst (-1), 1) := by decide +kernel
theorem dX5_init_59 : decode cX5_init 59 = .ok (.putfield 34, 3) := by decide +kernel
theorem dX5_init_62 : decode cX5_init 62 = .ok (.iconst 0, 1) := by decide +kernel
theorem dX5_init_63 : decode cX5_init 63 = .ok (.istore_n 1, 1) := by decide +kernel
theorem dX5_init_64 : decode cX5_init 64 = .ok (.iload_n 1, 1) := by decide +kernel
theorem dX5_init_65 : decode cX5_init 65 = .ok (.bipush 12, 2) := by decide +kernel
theorem dX5_init_67 : decode cX5_init 67 = .ok (.if_icmp .ge 22, 3) := by decide +kernel
theorem dX5_init_70 : decode cX5_init 70 = .ok (.aload_n 0, 1) := by decide +kernel
theorem dX5_init_71 : decode cX5_init 71 = .ok (.getfield 11, 3) := by decide +kernel
theorem dX5_init_74 : decode cX5_init 74 = .ok (.iload_n 1, 1) := by decide +kernel
theorem dX5_init_75 : decode cX5_init 75 = .ok (.new 9, 3) := by decide +kernel
theorem dX5_init_78 : decode cX5_init 78 = .ok (.dup, 1) := by decide +kernel
theorem dX5_init_79 : decode cX5_init 79 = .ok (.invokespecial 37, 3) := by decide +kernel
theorem dX5_init_82 : decode cX5_init 82 = .ok (.aastore, 1) := by decide +kernel
theorem dX5_init_83 : decode cX5_init 83 = .ok (.iinc 1 1, 3) := by decide +kernel
theorem dX5_init_86 : decode cX5_init 86 = .ok (.goto (-22), 3) := by decide +kernel
theorem dX5_init_89 : decode cX5_init 89 = .ok (.iconst 0, 1) := by decide +kernel
theorem dX5_init_90 : decode cX5_init 90 = .ok (.istore_n 1, 1) := by decide +kernel
theorem dX5_init_91 : decode cX5_init 91 = .ok (.iload_n 1, 1) := by decide +kernel
theorem dX5_init_92 : decode cX5_init 92 = .ok (.bipush 6, 2) := by decide +kernel
theorem dX5_init_94 : decode cX5_init 94 = .ok (.if_icmp .ge 22, 3) := by decide +kernel
theorem dX5_init_97 : decode cX5_init 97 = .ok (.aload_n 0, 1) := by decide +kernel
theorem dX5_init_98 : decode cX5_init 98 = .ok (.getfield 19, 3) := by decide +kernel
theorem dX5_init_101 : decode cX5_init 101 = .ok (.iload_n 1, 1) := by decide +kernel
theorem dX5_init_102 : decode cX5_init 102 = .ok (.new 17, 3) := by decide +kernel
theorem dX5_init_105 : decode cX5_init 105 = .ok (.dup, 1) := by decide +kernel
theorem dX5_init_106 : decode cX5_init 106 = .ok (.invokespecial 38, 3) := by decide +kernel
theorem dX5_init_109 : decode cX5_init 109 = .ok (.aastore, 1) := by decide +kernel
theorem dX5_init_110 : decode cX5_init 110 = .ok (.iinc 1 1, 3) := by decide +kernel
theorem dX5_init_113 : decode cX5_init 113 = .ok (.goto (-22), 3) := by decide +kernel
theorem dX5_init_116 : decode cX5_init 116 = .ok (.return_, 1) := by decide +kernel
theorem dX5_copyFrom_0 : decode cX5_copyFrom 0 = .ok (.aload_n 0, 1) := by decide +kernel
theorem dX5_copyFrom_1 : decode cX5_copyFrom 1 = .ok (.aload_n 1, 1) := by decide +kernel
theorem dX5_copyFrom_2 : decode cX5_copyFrom 2 = .ok (.getfield 39, 3) := by decide +kernel
theorem dX5_copyFrom_5 : decode cX5_copyFrom 5 = .ok (.putfield 39, 3) := by decide +kernel
theorem dX5_copyFrom_8 : decode cX5_copyFrom 8 = .ok (.iconst 0, 1) := by decide +kernel
theorem dX5_copyFrom_9 : decode cX5_copyFrom 9 = .ok (.istore_n 2, 1) := by decide +kernel
theorem dX5_copyFrom_10 : decode cX5_copyFrom 10 = .ok (.iload_n 2, 1) := by decide +kernel
theorem dX5_copyFrom_11 : decode cX5_copyFrom 11 = .ok (.aload_n 0, 1) := by decide +kernel
theorem dX5_copyFrom_12 : decode cX5_copyFrom 12 = .ok (.getfield 39, 3) := by decide +kernel
theorem dX5_copyFrom_15 : decode cX5_copyFrom 15 = .ok (.if_icmp .ge 30, 3) := by decide +kernel
theorem dX5_copyFrom_18 : decode cX5_copyFrom 18 = .ok (.iload_n 2, 1) := by decide +kernel
theorem dX5_copyFrom_19 : decode cX5_copyFrom 19 = .ok (.bipush 12, 2) := by decide +kernel
theorem dX5_copyFrom_21 : decode cX5_copyFrom 21 = .ok (.if_icmp .ge 24, 3) := by decide +kernel
theorem dX5_copyFrom_24 : decode cX5_copyFrom 24 = .ok (.aload_n 0, 1) := by decide +kernel
theorem dX5_copyFrom_25 : decode cX5_copyFrom 25 = .ok (.getfield 11, 3) := by decide +kernel
theorem dX5_copyFrom_28 : decode cX5_copyFrom 28 = .ok (.iload_n 2, 1) := by decide +kernel
theorem dX5_copyFrom_29 : decode cX5_copyFrom 29 = .ok (.aaload, 1) := by decide +kernel
theorem dX5_copyFrom_30 : decode cX5_copyFrom 30 = .ok (.aload_n 1, 1) := by decide +kernel
theorem dX5_copyFrom_31 : decode cX5_copyFrom 31 = .ok (.getfield 11, 3) := by decide +kernel
theorem dX5_copyFrom_34 : decode cX5_copyFrom 34 = .ok (.iload_n 2, 1) := by decide +kernel
theorem dX5_copyFrom_35 : decode cX5_copyFrom 35 = .ok (.aaload, 1) := by decide +kernel
theorem dX5_copyFrom_36 : decode cX5_copyFrom 36 = .ok (.invokevirtual 42, 3) := by decide +kernel
theorem dX5_copyFrom_39 : decode cX5_copyFrom 39 = .ok (.iinc 2 1, 3) := by decide +kernel
theorem dX5_copyFrom_42 : decode cX5_copyFrom 42 = .ok (.goto (-32), 3) := by decide +kernel
theorem dX5_copyFrom_45 : decode cX5_copyFrom 45 = .ok (.iconst 0, 1) := by decide +kernel
theorem dX5_copyFrom_46 : decode cX5_copyFrom 46 = .ok (.istore_n 2, 1) := by decide +kernel
theorem dX5_copyFrom_47 : decode cX5_copyFrom 47 = .ok (.iload_n 2, 1) := by decide +kernel
theorem dX5_copyFrom_48 : decode cX5_copyFrom 48 = .ok (.bipush 6, 2) := by decide +kernel
theorem dX5_copyFrom_50 : decode cX5_copyFrom 50 = .ok (.if_icmp .ge 24, 3) := by decide +kernel
theorem dX5_copyFrom_53 : decode cX5_copyFrom 53 = .ok (.aload_n 0, 1) := by decide +kernel
theorem dX5_copyFrom_54 : decode cX5_copyFrom 54 = .ok (.getfield 19, 3) := by decide +kernel
theorem dX5_copyFrom_57 : decode cX5_copyFrom 57 = .ok (.iload_n 2, 1) := by decide +kernel
theorem dX5_copyFrom_58 : decode cX5_copyFrom 58 = .ok (.aaload, 1) := by decide +kernel
theorem dX5_copyFrom_59 : decode cX5_copyFrom 59 = .ok (.aload_n 1, 1) := by decide +kernel
theorem dX5_copyFrom_60 : decode cX5_copyFrom 60 = .ok (.getfield 19, 3) := by decide +kernel
theorem dX5_copyFrom_63 : decode cX5_copyFrom 63 = .ok (.iload_n 2, 1) := by decide +kernel
theorem dX5_copyFrom_64 : decode cX5_copyFrom 64 = .ok (.aaload, 1) := by decide +kernel
theorem dX5_copyFrom_65 : decode cX5_copyFrom 65 = .ok (.invokevirtual 46, 3) := by decide +kernel
theorem dX5_copyFrom_68 : decode cX5_copyFrom 68 = .ok (.iinc 2 1, 3) := by decide +kernel
theorem dX5_copyFrom_71 : decode cX5_copyFrom 71 = .ok (.goto (-24), 3) := by decide +kernel
theorem dX5_copyFrom_74 : decode cX5_copyFrom 74 = .ok (.aload_n 1, 1) := by decide +kernel
theorem dX5_copyFrom_75 : decode cX5_copyFrom 75 = .ok (.getfield 23, 3) := by decide +kernel
theorem dX5_copyFrom_78 : decode cX5_copyFrom 78 = .ok (.iconst 0, 1) := by decide +kernel
theorem dX5_copyFrom_79 : decode cX5_copyFrom 79 = .ok (.aload_n 0, 1) := by decide +kernel
theorem dX5_copyFrom_80 : decode cX5_copyFrom 80 = .ok (.getfield 23, 3) := by decide +kernel
theorem dX5_copyFrom_83 : decode cX5_copyFrom 83 = .ok (.iconst 0, 1) := by decide +kernel
theorem dX5_copyFrom_84 : decode cX5_copyFrom 84 = .ok (.iconst 4, 1) := by decide +kernel
theorem dX5_copyFrom_85 : decode cX5_copyFrom 85 = .ok (.invokestatic 49, 3) := by decide +kernel
theorem dX5_copyFrom_88 : decode cX5_copyFrom 88 = .ok (.aload_n 1, 1) := by decide +kernel
theorem dX5_copyFrom_89 : decode cX5_copyFrom 89 = .ok (.getfield 27, 3) := by decide +kernel
theorem dX5_copyFrom_92 : decode cX5_copyFrom 92 = .ok (.iconst 0, 1) := by decide +kernel
theorem dX5_copyFrom_93 : decode cX5_copyFrom 93 = .ok (.aload_n 0, 1) := by decide +kernel
theorem dX5_copyFrom_94 : decode cX5_copyFrom 94 = .ok (.getfield 27, 3) := by decide +kernel
theorem dX5_copyFrom_97 : decode cX5_copyFrom 97 = .ok (.iconst 0, 1) := by decide +kernel
theorem dX5_copyFrom_98 : decode cX5_copyFrom 98 = .ok (.iconst 4, 1) := by decide +kernel
theorem dX5_copyFrom_99 : decode cX5_copyFrom 99 = .ok (.invokestatic 49, 3) := by decide +kernel
theorem dX5_copyFrom_102 : decode cX5_copyFrom 102 = .ok (.aload_n 0, 1) := by decide +kernel
theorem dX5_copyFrom_103 : decode cX5_copyFrom 103 = .ok (.aload_n 1, 1) := by decide +kernel
theorem dX5_copyFrom_104 : decode cX5_copyFrom 104 = .ok (.getfield 55, 3) := by decide +kernel
theorem dX5_copyFrom_107 : decode cX5_copyFrom 107 = .ok (.putfield 55, 3) := by decide +kernel
theorem dX5_copyFrom_110 : decode cX5_copyFrom 110 = .ok (.aload_n 0, 1) := by decide +kernel
theorem dX5_copyFrom_111 : decode cX5_copyFrom 111 = .ok (.aload_n 1, 1) := by decide +kernel
theorem dX5_copyFrom_112 : decode cX5_copyFrom 112 = .ok (.getfield 58, 3) := by decide +kernel
theorem dX5_copyFrom_115 : decode cX5_copyFrom 115 = .ok (.putfield 58, 3) := by decide +kernel
theorem dX5_copyFrom_118 : decode cX5_copyFrom 118 = .ok (.aload_n 0, 1) := by decide +kernel
theorem dX5_copyFrom_119 : decode cX5_copyFrom 119 = .ok (.aload_n 1, 1) := by decide +kernel
theorem dX5_copyFrom_120 : decode cX5_copyFrom 120 = .ok (.getfield 61, 3) := by decide +kernel
theorem dX5_copyFrom_123 : decode cX5_copyFrom 123 = .ok (.putfield 61, 3) := by decide +kernel
theorem dX5_copyFrom_126 : decode cX5_copyFrom 126 = .ok (.aload_n 0, 1) := by decide +kernel
theorem dX5_copyFrom_127 : decode cX5_copyFrom 127 = .ok (.aload_n 1, 1) := by decide +kernel
theorem dX5_copyFrom_128 : decode cX5_copyFrom 128 = .ok (.getfield 64, 3) := by decide +kernel
theorem dX5_copyFrom_131 : decode cX5_copyFrom 131 = .ok (.putfield 64, 3) := by decide +kernel
theorem dX5_copyFrom_134 : decode cX5_copyFrom 134 = .ok (.aload_n 0, 1) := by decide +kernel
theorem dX5_copyFrom_135 : decode cX5_copyFrom 135 = .ok (.aload_n 1, 1) := by decide +kernel
theorem dX5_copyFrom_136 : decode cX5_copyFrom 136 = .ok (.getfield 67, 3) := by decide +kernel
theorem dX5_copyFrom_139 : decode cX5_copyFrom 139 = .ok (.putfield 67, 3) := by decide +kernel
theorem dX5_copyFrom_142 : decode cX5_copyFrom 142 = .ok (.aload_n 0, 1) := by decide +kernel
theorem dX5_copyFrom_143 : decode cX5_copyFrom 143 = .ok (.aload_n 1, 1) := by decide +kernel
theorem dX5_copyFrom_144 : decode cX5_copyFrom 144 = .ok (.getfield 30, 3) := by decide +kernel
theorem dX5_copyFrom_147 : decode cX5_copyFrom 147 = .ok (.putfield 30, 3) := by decide +kernel
theorem dX5_copyFrom_150 : decode cX5_copyFrom 150 = .ok (.aload_n 0, 1) := by decide +kernel
theorem dX5_copyFrom_151 : decode cX5_copyFrom 151 = .ok (.aload_n 1, 1) := by decide +kernel
theorem dX5_copyFrom_152 : decode cX5_copyFrom 152 = .ok (.getfield 34, 3) := by decide +kernel
theorem dX5_copyFrom_155 : decode cX5_copyFrom 155 = .ok (.putfield 34, 3) := by decide +kernel
theorem dX5_copyFrom_158 : decode cX5_copyFrom 158 = .ok (.return_, 1) := by decide +kernel
theorem dJ6_bitCount_0f7a4_0 : decode cJ6_bitCount_0f7a4 0 = .ok (.iload_n 0, 1) := by decide +kernel
theorem dJ6_bitCount_0f7a4_1 : decode cJ6_bitCount_0f7a4 1 = .ok (.iload_n 0, 1) := by decide +kernel
theorem dJ6_bitCount_0f7a4_2 : decode cJ6_bitCount_0f7a4 2 = .ok (.iconst 1, 1) := by decide +kernel
theorem dJ6_bitCount_0f7a4_3 : decode cJ6_bitCount_0f7a4 3 = .ok (.iushr, 1) := by decide +kernel
theorem dJ6_bitCount_0f7a4_4 : decode cJ6_bitCount_0f7a4 4 = .ok (.ldc_w 265, 3) := by decide +kernel
theorem dJ6_bitCount_0f7a4_7 : decode cJ6_bitCount_0f7a4 7 = .ok (.iand, 1) := by decide +kernel
theorem dJ6_bitCount_0f7a4_8 : decode cJ6_bitCount_0f7a4 8 = .ok (.isub, 1) := by decide +kernel
theorem dJ6_bitCount_0f7a4_9 : decode cJ6_bitCount_0f7a4 9 = .ok (.istore_n 0, 1) := by decide +kernel
theorem dJ6_bitCount_0f7a4_10 : decode cJ6_bitCount_0f7a4 10 = .ok (.iload_n 0, 1) := by decide +kernel
theorem dJ6_bitCount_0f7a4_11 : decode cJ6_bitCount_0f7a4 11 = .ok (.ldc_w 266, 3) := by decide +kernel
theorem dJ6_bitCount_0f7a4_14 : decode cJ6_bitCount_0f7a4 14 = .ok (.iand, 1) := by decide +kernel
theorem dJ6_bitCount_0f7a4_15 : decode cJ6_bitCount_0f7a4 15 = .ok (.iload_n 0, 1) := by decide +kernel
theorem dJ6_bitCount_0f7a4_16 : decode cJ6_bitCount_0f7a4 16 = .ok (.iconst 2, 1) := by decide +kernel
theorem dJ6_bitCount_0f7a4_17 : decode cJ6_bitCount_0f7a4 17 = .ok (.iushr, 1) := by decide +kernel
theorem dJ6_bitCount_0f7a4_18 : decode cJ6_bitCount_0f7a4 18 = .ok (.ldc_w 266, 3) := by decide +kernel
theorem dJ6_bitCount_0f7a4_21 : decode cJ6_bitCount_0f7a4 21 = .ok (.iand, 1) := by decide +kernel
theorem dJ6_bitCount_0f7a4_22 : decode cJ6_bitCount_0f7a4 22 = .ok (.iadd, 1) := by decide +kernel
theorem dJ6_bitCount_0f7a4_23 : decode cJ6_bitCount_0f7a4 23 = .ok (.istore_n 0, 1) := by decide +kernel
theorem dJ6_bitCount_0f7a4_24 : decode cJ6_bitCount_0f7a4 24 = .ok (.iload_n 0, 1) := by decide +kernel
theorem dJ6_bitCount_0f7a4_25 : decode cJ6_bitCount_0f7a4 25 = .ok (.iload_n 0, 1) := by decide +kernel
theorem dJ6_bitCount_0f7a4_26 : decode cJ6_bitCount_0f7a4 26 = .ok (.iconst 4, 1) := by decide +kernel
theorem dJ6_bitCount_0f7a4_27 : decode cJ6_bitCount_0f7a4 27 = .ok (.iushr, 1) := by decide +kernel
theorem dJ6_bitCount_0f7a4_28 : decode cJ6_bitCount_0f7a4 28 = .ok (.iadd, 1) := by decide +kernel
theorem dJ6_bitCount_0f7a4_29 : decode cJ6_bitCount_0f7a4 29 = .ok (.ldc_w 267, 3) := by decide +kernel
theorem dJ6_bitCount_0f7a4_32 : decode cJ6_bitCount_0f7a4 32 = .ok (.iand, 1) := by decide +kernel
theorem dJ6_bitCount_0f7a4_33 : decode cJ6_bitCount_0f7a4 33 = .ok (.istore_n 0, 1) := by decide +kernel
theorem dJ6_bitCount_0f7a4_34 : decode cJ6_bitCount_0f7a4 34 = .ok (.iload_n 0, 1) := by decide +kernel
theorem dJ6_bitCount_0f7a4_35 : decode cJ6_bitCount_0f7a4 35 = .ok (.iload_n 0, 1) := by decide +kernel
theorem dJ6_bitCount_0f7a4_36 : decode cJ6_bitCount_0f7a4 36 = .ok (.bipush 8, 2) := by decide +kernel
theorem dJ6_bitCount_0f7a4_38 : decode cJ6_bitCount_0f7a4 38 = .ok (.iushr, 1) := by decide +kernel
theorem dJ6_bitCount_0f7a4_39 : decode cJ6_bitCount_0f7a4 39 = .ok (.iadd, 1) := by decide +kernel
theorem dJ6_bitCount_0f7a4_40 : decode cJ6_bitCount_0f7a4 40 = .ok (.istore_n 0, 1) := by decide +kernel
theorem dJ6_bitCount_0f7a4_41 : decode cJ6_bitCount_0f7a4 41 = .ok (.iload_n 0, 1) := by decide +kernel
theorem dJ6_bitCount_0f7a4_42 : decode cJ6_bitCount_0f7a4 42 = .ok (.iload_n 0, 1) := by decide +kernel
theorem dJ6_bitCount_0f7a4_43 : decode cJ6_bitCount_0f7a4 43 = .ok (.bipush 16, 2) := by decide +kernel
theorem dJ6_bitCount_0f7a4_45 : decode cJ6_bitCount_0f7a4 45 = .ok (.iushr, 1) := by decide +kernel
theorem dJ6_bitCount_0f7a4_46 : decode cJ6_bitCount_0f7a4 46 = .ok (.iadd, 1) := by decide +kernel
theorem dJ6_bitCount_0f7a4_47 : decode cJ6_bitCount_0f7a4 47 = .ok (.istore_n 0, 1) := by decide +kernel
theorem dJ6_bitCount_0f7a4_48 : decode cJ6_bitCount_0f7a4 48 = .ok (.iload_n 0, 1) := by decide +kernel
theorem dJ6_bitCount_0f7a4_49 : decode cJ6_bitCount_0f7a4 49 = .ok (.bipush 63, 2) := by decide +kernel
theorem dJ6_bitCount_0f7a4_51 : decode cJ6_bitCount_0f7a4 51 = .ok (.iand, 1) := by decide +kernel
theorem dJ6_bitCount_0f7a4_52 : decode cJ6_bitCount_0f7a4 52 = .ok (.ireturn, 1) := by decide +kernel
theorem dJ9_abs_0f7a4_0 : decode cJ9_abs_0f7a4 0 = .ok (.iload_n 0, 1) := by decide +kernel
theorem dJ9_abs_0f7a4_1 : decode cJ9_abs_0f7a4 1 = .ok (.ifCond .ge 8, 3) := by decide +kernel
theorem dJ9_abs_0f7a4_4 : decode cJ9_abs_0f7a4 4 = .ok (.iload_n 0, 1) := by decide +kernel
theorem dJ9_abs_0f7a4_5 : decode cJ9_abs_0f7a4 5 = .ok (.ineg, 1) := by decide +kernel
theorem dJ9_abs_0f7a4_6 : decode cJ9_abs_0f7a4 6 = .ok (.goto 4, 3) := by decide +kernel
theorem dJ9_abs_0f7a4_9 : decode cJ9_abs_0f7a4 9 = .ok (.iload_n 0, 1) := by decide +kernel
theorem dJ9_abs_0f7a4_10 : decode cJ9_abs_0f7a4 10 = .ok (.ireturn, 1) := by decide +kernel
theorem dJ9_max_7cf53_0 : decode cJ9_max_7cf53 0 = .ok (.iload_n 0, 1) := by decide +kernel
theorem dJ9_max_7cf53_1 : decode cJ9_max_7cf53 1 = .ok (.iload_n 1, 1) := by decide +kernel
theorem dJ9_max_7cf53_2 : decode cJ9_max_7cf53 2 = .ok (.if_icmp .lt 7, 3) := by decide +kernel
theorem dJ9_max_7cf53_5 : decode cJ9_max_7cf53 5 = .ok (.iload_n 0, 1) := by decide +kernel
theorem dJ9_max_7cf53_6 : decode cJ9_max_7cf53 6 = .ok (.goto 4, 3) := by decide +kernel
theorem dJ9_max_7cf53_9 : decode cJ9_max_7cf53 9 = .ok (.iload_n 1, 1) := by decide +kernel
theorem dJ9_max_7cf53_10 : decode cJ9_max_7cf53 10 = .ok (.ireturn, 1) := by decide +kernel
theorem dJ7_fill_53178_0 : decode cJ7_fill_53178 0 = .ok (.iconst 0, 1) := by decide +kernel
theorem dJ7_fill_53178_1 : decode cJ7_fill_53178 1 = .ok (.istore_n 2, 1) := by decide +kernel
theorem dJ7_fill_53178_2 : decode cJ7_fill_53178 2 = .ok (.aload_n 0, 1) := by decide +kernel
theorem dJ7_fill_53178_3 : decode cJ7_fill_53178 3 = .ok (.arraylength, 1) := by decide +kernel
theorem dJ7_fill_53178_4 : decode cJ7_fill_53178 4 = .ok (.istore_n 3, 1) := by decide +kernel
theorem dJ7_fill_53178_5 : decode cJ7_fill_53178 5 = .ok (.iload_n 2, 1) := by decide +kernel
theorem dJ7_fill_53178_6 : decode cJ7_fill_53178 6 = .ok (.iload_n 3, 1) := by decide +kernel
theorem dJ7_fill_53178_7 : decode cJ7_fill_53178 7 = .ok (.if_icmp .ge 13, 3) := by decide +kernel
theorem dJ7_fill_53178_10 : decode cJ7_fill_53178 10 = .ok (.aload_n 0, 1) := by decide +kernel
theorem dJ7_fill_53178_11 : decode cJ7_fill_53178 11 = .ok (.iload_n 2, 1) := by decide +kernel
theorem dJ7_fill_53178_12 : decode cJ7_fill_53178 12 = .ok (.iload_n 1, 1) := by decide +kernel
theorem dJ7_fill_53178_13 : decode cJ7_fill_53178 13 = .ok (.iastore, 1) := by decide +kernel
theorem dJ7_fill_53178_14 : decode cJ7_fill_53178 14 = .ok (.iinc 2 1, 3) := by decide +kernel
theorem dJ7_fill_53178_17 : decode cJ7_fill_53178 17 = .ok (.goto (-12), 3) := by decide +kernel
theorem dJ7_fill_53178_20 : decode cJ7_fill_53178 20 = .ok (.return_, 1) := by decide +kernel
