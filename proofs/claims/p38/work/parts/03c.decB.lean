theorem dX6_init_0 : decode cX6_init 0 = .ok (.aload_n 0, 1) := by decide +kernel
theorem dX6_init_1 : decode cX6_init 1 = .ok (.invokespecial 1, 3) := by decide +kernel
theorem dX6_init_4 : decode cX6_init 4 = .ok (.aload_n 0, 1) := by decide +kernel
theorem dX6_init_5 : decode cX6_init 5 = .ok (.new 7, 3) := by decide +kernel
theorem dX6_init_8 : decode cX6_init 8 = .ok (.dup, 1) := by decide +kernel
theorem dX6_init_9 : decode cX6_init 9 = .ok (.invokespecial 9, 3) := by decide +kernel
theorem dX6_init_12 : decode cX6_init 12 = .ok (.putfield 10, 3) := by decide +kernel
theorem dX6_init_15 : decode cX6_init 15 = .ok (.aload_n 0, 1) := by decide +kernel
theorem dX6_init_16 : decode cX6_init 16 = .ok (.new 16, 3) := by decide +kernel
theorem dX6_init_19 : decode cX6_init 19 = .ok (.dup, 1) := by decide +kernel
theorem dX6_init_20 : decode cX6_init 20 = .ok (.invokespecial 18, 3) := by decide +kernel
theorem dX6_init_23 : decode cX6_init 23 = .ok (.putfield 19, 3) := by decide +kernel
theorem dX6_init_26 : decode cX6_init 26 = .ok (.aload_n 0, 1) := by decide +kernel
theorem dX6_init_27 : decode cX6_init 27 = .ok (.new 16, 3) := by decide +kernel
theorem dX6_init_30 : decode cX6_init 30 = .ok (.dup, 1) := by decide +kernel
theorem dX6_init_31 : decode cX6_init 31 = .ok (.invokespecial 18, 3) := by decide +kernel
theorem dX6_init_34 : decode cX6_init 34 = .ok (.putfield 23, 3) := by decide +kernel
theorem dX6_init_37 : decode cX6_init 37 = .ok (.aload_n 0, 1) := by decide +kernel
theorem dX6_init_38 : decode cX6_init 38 = .ok (.bipush 6, 2) := by decide +kernel
theorem dX6_init_40 : decode cX6_init 40 = .ok (.anewarray 16, 3) := by decide +kernel
theorem dX6_init_43 : decode cX6_init 43 = .ok (.putfield 26, 3) := by decide +kernel
theorem dX6_init_46 : decode cX6_init 46 = .ok (.aload_n 0, 1) := by decide +kernel
theorem dX6_init_47 : decode cX6_init 47 = .ok (.iconst 5, 1) := by decide +kernel
theorem dX6_init_48 : decode cX6_init 48 = .ok (.putfield 30, 3) := by decide +kernel
theorem dX6_init_51 : decode cX6_init 51 = .ok (.aload_n 0, 1) := by decide +kernel
theorem dX6_init_52 : decode cX6_init 52 = .ok (.new 34, 3) := by decide +kernel
theorem dX6_init_55 : decode cX6_init 55 = .ok (.dup, 1) := by decide +kernel
theorem dX6_init_56 : decode cX6_init 56 = .ok (.invokespecial 36, 3) := by decide +kernel
theorem dX6_init_59 : decode cX6_init 59 = .ok (.putfield 37, 3) := by decide +kernel
theorem dX6_init_62 : decode cX6_init 62 = .ok (.aload_n 0, 1) := by decide +kernel
theorem dX6_init_63 : decode cX6_init 63 = .ok (.new 41, 3) := by decide +kernel
theorem dX6_init_66 : decode cX6_init 66 = .ok (.dup, 1) := by decide +kernel
theorem dX6_init_67 : decode cX6_init 67 = .ok (.aload_n 0, 1) := by decide +kernel
theorem dX6_init_68 : decode cX6_init 68 = .ok (.getfield 37, 3) := by decide +kernel
theorem dX6_init_71 : decode cX6_init 71 = .ok (.invokespecial 43, 3) := by decide +kernel
theorem dX6_init_74 : decode cX6_init 74 = .ok (.putfield 46, 3) := by decide +kernel
theorem dX6_init_77 : decode cX6_init 77 = .ok (.iconst 0, 1) := by decide +kernel
theorem dX6_init_78 : decode cX6_init 78 = .ok (.istore_n 1, 1) := by decide +kernel
theorem dX6_init_79 : decode cX6_init 79 = .ok (.iload_n 1, 1) := by decide +kernel
theorem dX6_init_80 : decode cX6_init 80 = .ok (.bipush 6, 2) := by decide +kernel
theorem dX6_init_82 : decode cX6_init 82 = .ok (.if_icmp .ge 22, 3) := by decide +kernel
theorem dX6_init_85 : decode cX6_init 85 = .ok (.aload_n 0, 1) := by decide +kernel
theorem dX6_init_86 : decode cX6_init 86 = .ok (.getfield 26, 3) := by decide +kernel
theorem dX6_init_89 : decode cX6_init 89 = .ok (.iload_n 1, 1) := by decide +kernel
theorem dX6_init_90 : decode cX6_init 90 = .ok (.new 16, 3) := by decide +kernel
theorem dX6_init_93 : decode cX6_init 93 = .ok (.dup, 1) := by decide +kernel
theorem dX6_init_94 : decode cX6_init 94 = .ok (.invokespecial 18, 3) := by decide +kernel
theorem dX6_init_97 : decode cX6_init 97 = .ok (.aastore, 1) := by decide +kernel
theorem dX6_init_98 : decode cX6_init 98 = .ok (.iinc 1 1, 3) := by decide +kernel
theorem dX6_init_101 : decode cX6_init 101 = .ok (.goto (-22), 3) := by decide +kernel
theorem dX6_init_104 : decode cX6_init 104 = .ok (.return_, 1) := by decide +kernel
theorem dX6_cut_0 : decode cX6_cut 0 = .ok (.iload_n 1, 1) := by decide +kernel
theorem dX6_cut_1 : decode cX6_cut 1 = .ok (.invokestatic 50, 3) := by decide +kernel
theorem dX6_cut_4 : decode cX6_cut 4 = .ok (.ifCond .eq 10, 3) := by decide +kernel
theorem dX6_cut_7 : decode cX6_cut 7 = .ok (.iload_n 2, 1) := by decide +kernel
theorem dX6_cut_8 : decode cX6_cut 8 = .ok (.invokestatic 54, 3) := by decide +kernel
theorem dX6_cut_11 : decode cX6_cut 11 = .ok (.ifCond .ne 13, 3) := by decide +kernel
theorem dX6_cut_14 : decode cX6_cut 14 = .ok (.new 57, 3) := by decide +kernel
theorem dX6_cut_17 : decode cX6_cut 17 = .ok (.dup, 1) := by decide +kernel
theorem dX6_cut_18 : decode cX6_cut 18 = .ok (.ldc 59, 2) := by decide +kernel
theorem dX6_cut_20 : decode cX6_cut 20 = .ok (.invokespecial 61, 3) := by decide +kernel
theorem dX6_cut_23 : decode cX6_cut 23 = .ok (.athrow, 1) := by decide +kernel
theorem dX6_cut_24 : decode cX6_cut 24 = .ok (.aload_n 0, 1) := by decide +kernel
theorem dX6_cut_25 : decode cX6_cut 25 = .ok (.iload_n 1, 1) := by decide +kernel
theorem dX6_cut_26 : decode cX6_cut 26 = .ok (.invokevirtual 64, 3) := by decide +kernel
theorem dX6_cut_29 : decode cX6_cut 29 = .ok (.ifCond .eq 13, 3) := by decide +kernel
theorem dX6_cut_32 : decode cX6_cut 32 = .ok (.new 68, 3) := by decide +kernel
theorem dX6_cut_35 : decode cX6_cut 35 = .ok (.dup, 1) := by decide +kernel
theorem dX6_cut_36 : decode cX6_cut 36 = .ok (.ldc 70, 2) := by decide +kernel
theorem dX6_cut_38 : decode cX6_cut 38 = .ok (.invokespecial 72, 3) := by decide +kernel
theorem dX6_cut_41 : decode cX6_cut 41 = .ok (.athrow, 1) := by decide +kernel
theorem dX6_cut_42 : decode cX6_cut 42 = .ok (.aload_n 0, 1) := by decide +kernel
theorem dX6_cut_43 : decode cX6_cut 43 = .ok (.invokevirtual 73, 3) := by decide +kernel
theorem dX6_cut_46 : decode cX6_cut 46 = .ok (.aload_n 0, 1) := by decide +kernel
theorem dX6_cut_47 : decode cX6_cut 47 = .ok (.iload_n 1, 1) := by decide +kernel
theorem dX6_cut_48 : decode cX6_cut 48 = .ok (.iload_n 2, 1) := by decide +kernel
theorem dX6_cut_49 : decode cX6_cut 49 = .ok (.invokevirtual 76, 3) := by decide +kernel
theorem dX6_cut_52 : decode cX6_cut 52 = .ok (.aload_n 0, 1) := by decide +kernel
theorem dX6_cut_53 : decode cX6_cut 53 = .ok (.getfield 19, 3) := by decide +kernel
theorem dX6_cut_56 : decode cX6_cut 56 = .ok (.getfield 80, 3) := by decide +kernel
theorem dX6_cut_59 : decode cX6_cut 59 = .ok (.iconst 1, 1) := by decide +kernel
theorem dX6_cut_60 : decode cX6_cut 60 = .ok (.isub, 1) := by decide +kernel
theorem dX6_cut_61 : decode cX6_cut 61 = .ok (.ireturn, 1) := by decide +kernel
theorem dX6_deepen_0 : decode cX6_deepen 0 = .ok (.aload_n 0, 1) := by decide +kernel
theorem dX6_deepen_1 : decode cX6_deepen 1 = .ok (.iload_n 1, 1) := by decide +kernel
theorem dX6_deepen_2 : decode cX6_deepen 2 = .ok (.invokevirtual 83, 3) := by decide +kernel
theorem dX6_deepen_5 : decode cX6_deepen 5 = .ok (.ifCond .eq 10, 3) := by decide +kernel
theorem dX6_deepen_8 : decode cX6_deepen 8 = .ok (.iload_n 2, 1) := by decide +kernel
theorem dX6_deepen_9 : decode cX6_deepen 9 = .ok (.invokestatic 86, 3) := by decide +kernel
theorem dX6_deepen_12 : decode cX6_deepen 12 = .ok (.ifCond .ne 13, 3) := by decide +kernel
theorem dX6_deepen_15 : decode cX6_deepen 15 = .ok (.new 89, 3) := by decide +kernel
theorem dX6_deepen_18 : decode cX6_deepen 18 = .ok (.dup, 1) := by decide +kernel
theorem dX6_deepen_19 : decode cX6_deepen 19 = .ok (.ldc 91, 2) := by decide +kernel
theorem dX6_deepen_21 : decode cX6_deepen 21 = .ok (.invokespecial 93, 3) := by decide +kernel
theorem dX6_deepen_24 : decode cX6_deepen 24 = .ok (.athrow, 1) := by decide +kernel
theorem dX6_deepen_25 : decode cX6_deepen 25 = .ok (.aload_n 0, 1) := by decide +kernel
theorem dX6_deepen_26 : decode cX6_deepen 26 = .ok (.iload_n 1, 1) := by decide +kernel
theorem dX6_deepen_27 : decode cX6_deepen 27 = .ok (.iload_n 2, 1) := by decide +kernel
theorem dX6_deepen_28 : decode cX6_deepen 28 = .ok (.invokevirtual 94, 3) := by decide +kernel
theorem dX6_deepen_31 : decode cX6_deepen 31 = .ok (.ifCond .eq 13, 3) := by decide +kernel
theorem dX6_deepen_34 : decode cX6_deepen 34 = .ok (.new 68, 3) := by decide +kernel
theorem dX6_deepen_37 : decode cX6_deepen 37 = .ok (.dup, 1) := by decide +kernel
theorem dX6_deepen_38 : decode cX6_deepen 38 = .ok (.ldc 98, 2) := by decide +kernel
theorem dX6_deepen_40 : decode cX6_deepen 40 = .ok (.invokespecial 72, 3) := by decide +kernel
theorem dX6_deepen_43 : decode cX6_deepen 43 = .ok (.athrow, 1) := by decide +kernel
theorem dX6_deepen_44 : decode cX6_deepen 44 = .ok (.aload_n 0, 1) := by decide +kernel
theorem dX6_deepen_45 : decode cX6_deepen 45 = .ok (.invokevirtual 73, 3) := by decide +kernel
theorem dX6_deepen_48 : decode cX6_deepen 48 = .ok (.aload_n 0, 1) := by decide +kernel
theorem dX6_deepen_49 : decode cX6_deepen 49 = .ok (.iload_n 1, 1) := by decide +kernel
theorem dX6_deepen_50 : decode cX6_deepen 50 = .ok (.iload_n 2, 1) := by decide +kernel
theorem dX6_deepen_51 : decode cX6_deepen 51 = .ok (.invokevirtual 100, 3) := by decide +kernel
theorem dX6_deepen_54 : decode cX6_deepen 54 = .ok (.aload_n 0, 1) := by decide +kernel
theorem dX6_deepen_55 : decode cX6_deepen 55 = .ok (.getfield 19, 3) := by decide +kernel
theorem dX6_deepen_58 : decode cX6_deepen 58 = .ok (.getfield 103, 3) := by decide +kernel
theorem dX6_deepen_61 : decode cX6_deepen 61 = .ok (.iload_n 1, 1) := by decide +kernel
theorem dX6_deepen_62 : decode cX6_deepen 62 = .ok (.aaload, 1) := by decide +kernel
theorem dX6_deepen_63 : decode cX6_deepen 63 = .ok (.getfield 107, 3) := by decide +kernel
theorem dX6_deepen_66 : decode cX6_deepen 66 = .ok (.ireturn, 1) := by decide +kernel
theorem dX6_retire_0 : decode cX6_retire 0 = .ok (.aload_n 0, 1) := by decide +kernel
theorem dX6_retire_1 : decode cX6_retire 1 = .ok (.iload_n 1, 1) := by decide +kernel
theorem dX6_retire_2 : decode cX6_retire 2 = .ok (.invokevirtual 83, 3) := by decide +kernel
theorem dX6_retire_5 : decode cX6_retire 5 = .ok (.ifCond .ne 13, 3) := by decide +kernel
theorem dX6_retire_8 : decode cX6_retire 8 = .ok (.new 89, 3) := by decide +kernel
theorem dX6_retire_11 : decode cX6_retire 11 = .ok (.dup, 1) := by decide +kernel
theorem dX6_retire_12 : decode cX6_retire 12 = .ok (.ldc 112, 2) := by decide +kernel
theorem dX6_retire_14 : decode cX6_retire 14 = .ok (.invokespecial 93, 3) := by decide +kernel
theorem dX6_retire_17 : decode cX6_retire 17 = .ok (.athrow, 1) := by decide +kernel
theorem dX6_retire_18 : decode cX6_retire 18 = .ok (.aload_n 0, 1) := by decide +kernel
theorem dX6_retire_19 : decode cX6_retire 19 = .ok (.invokevirtual 73, 3) := by decide +kernel
theorem dX6_retire_22 : decode cX6_retire 22 = .ok (.iload_n 1, 1) := by decide +kernel
theorem dX6_retire_23 : decode cX6_retire 23 = .ok (.istore_n 2, 1) := by decide +kernel
theorem dX6_retire_24 : decode cX6_retire 24 = .ok (.iload_n 2, 1) := by decide +kernel
theorem dX6_retire_25 : decode cX6_retire 25 = .ok (.iconst 1, 1) := by decide +kernel
theorem dX6_retire_26 : decode cX6_retire 26 = .ok (.iadd, 1) := by decide +kernel
theorem dX6_retire_27 : decode cX6_retire 27 = .ok (.aload_n 0, 1) := by decide +kernel
theorem dX6_retire_28 : decode cX6_retire 28 = .ok (.getfield 19, 3) := by decide +kernel
theorem dX6_retire_31 : decode cX6_retire 31 = .ok (.getfield 80, 3) := by decide +kernel
theorem dX6_retire_34 : decode cX6_retire 34 = .ok (.if_icmp .ge 40, 3) := by decide +kernel
theorem dX6_retire_37 : decode cX6_retire 37 = .ok (.iload_n 2, 1) := by decide +kernel
theorem dX6_retire_38 : decode cX6_retire 38 = .ok (.iconst 1, 1) := by decide +kernel
theorem dX6_retire_39 : decode cX6_retire 39 = .ok (.iadd, 1) := by decide +kernel
theorem dX6_retire_40 : decode cX6_retire 40 = .ok (.bipush 12, 2) := by decide +kernel
theorem dX6_retire_42 : decode cX6_retire 42 = .ok (.if_icmp .ge 32, 3) := by decide +kernel
theorem dX6_retire_45 : decode cX6_retire 45 = .ok (.aload_n 0, 1) := by decide +kernel
theorem dX6_retire_46 : decode cX6_retire 46 = .ok (.getfield 19, 3) := by decide +kernel
theorem dX6_retire_49 : decode cX6_retire 49 = .ok (.getfield 103, 3) := by decide +kernel
theorem dX6_retire_52 : decode cX6_retire 52 = .ok (.iload_n 2, 1) := by decide +kernel
theorem dX6_retire_53 : decode cX6_retire 53 = .ok (.aaload, 1) := by decide +kernel
theorem dX6_retire_54 : decode cX6_retire 54 = .ok (.aload_n 0, 1) := by decide +kernel
theorem dX6_retire_55 : decode cX6_retire 55 = .ok (.getfield 19, 3) := by decide +kernel
theorem dX6_retire_58 : decode cX6_retire 58 = .ok (.getfield 103, 3) := by decide +kernel
theorem dX6_retire_61 : decode cX6_retire 61 = .ok (.iload_n 2, 1) := by decide +kernel
theorem dX6_retire_62 : decode cX6_retire 62 = .ok (.iconst 1, 1) := by decide +kernel
theorem dX6_retire_63 : decode cX6_retire 63 = .ok (.iadd, 1) := by decide +kernel
theorem dX6_retire_64 : decode cX6_retire 64 = .ok (.aaload, 1) := by decide +kernel
theorem dX6_retire_65 : decode cX6_retire 65 = .ok (.invokevirtual 114, 3) := by decide +kernel
theorem dX6_retire_68 : decode cX6_retire 68 = .ok (.iinc 2 1, 3) := by decide +kernel
theorem dX6_retire_71 : decode cX6_retire 71 = .ok (.goto (-47), 3) := by decide +kernel
theorem dX6_retire_74 : decode cX6_retire 74 = .ok (.aload_n 0, 1) := by decide +kernel
theorem dX6_retire_75 : decode cX6_retire 75 = .ok (.getfield 19, 3) := by decide +kernel
theorem dX6_retire_78 : decode cX6_retire 78 = .ok (.dup, 1) := by decide +kernel
theorem dX6_retire_79 : decode cX6_retire 79 = .ok (.getfield 80, 3) := by decide +kernel
theorem dX6_retire_82 : decode cX6_retire 82 = .ok (.iconst 1, 1) := by decide +kernel
theorem dX6_retire_83 : decode cX6_retire 83 = .ok (.isub, 1) := by decide +kernel
theorem dX6_retire_84 : decode cX6_retire 84 = .ok (.putfield 80, 3) := by decide +kernel
theorem dX6_retire_87 : decode cX6_retire 87 = .ok (.aload_n 0, 1) := by decide +kernel
theorem dX6_retire_88 : decode cX6_retire 88 = .ok (.getfield 19, 3) := by decide +kernel
theorem dX6_retire_91 : decode cX6_retire 91 = .ok (.dup, 1) := by decide +kernel
theorem dX6_retire_92 : decode cX6_retire 92 = .ok (.getfield 118, 3) := by decide +kernel
theorem dX6_retire_95 : decode cX6_retire 95 = .ok (.iconst 1, 1) := by decide +kernel
theorem dX6_retire_96 : decode cX6_retire 96 = .ok (.iadd, 1) := by decide +kernel
theorem dX6_retire_97 : decode cX6_retire 97 = .ok (.putfield 118, 3) := by decide +kernel
theorem dX6_retire_100 : decode cX6_retire 100 = .ok (.aload_n 0, 1) := by decide +kernel
theorem dX6_retire_101 : decode cX6_retire 101 = .ok (.getfield 19, 3) := by decide +kernel
theorem dX6_retire_104 : decode cX6_retire 104 = .ok (.getfield 80, 3) := by decide +kernel
theorem dX6_retire_107 : decode cX6_retire 107 = .ok (.ireturn, 1) := by decide +kernel
theorem dX6_give_0 : decode cX6_give 0 = .ok (.aload_n 0, 1) := by decide +kernel
theorem dX6_give_1 : decode cX6_give 1 = .ok (.iload_n 1, 1) := by decide +kernel
theorem dX6_give_2 : decode cX6_give 2 = .ok (.invokevirtual 83, 3) := by decide +kernel
theorem dX6_give_5 : decode cX6_give 5 = .ok (.ifCond .ne 13, 3) := by decide +kernel
theorem dX6_give_8 : decode cX6_give 8 = .ok (.new 89, 3) := by decide +kernel
theorem dX6_give_11 : decode cX6_give 11 = .ok (.dup, 1) := by decide +kernel
theorem dX6_give_12 : decode cX6_give 12 = .ok (.ldc 112, 2) := by decide +kernel
theorem dX6_give_14 : decode cX6_give 14 = .ok (.invokespecial 93, 3) := by decide +kernel
theorem dX6_give_17 : decode cX6_give 17 = .ok (.athrow, 1) := by decide +kernel
theorem dX6_give_18 : decode cX6_give 18 = .ok (.iload_n 2, 1) := by decide +kernel
theorem dX6_give_19 : decode cX6_give 19 = .ok (.invokestatic 54, 3) := by decide +kernel
theorem dX6_give_22 : decode cX6_give 22 = .ok (.ifCond .ne 13, 3) := by decide +kernel
theorem dX6_give_25 : decode cX6_give 25 = .ok (.new 57, 3) := by decide +kernel
theorem dX6_give_28 : decode cX6_give 28 = .ok (.dup, 1) := by decide +kernel
theorem dX6_give_29 : decode cX6_give 29 = .ok (.ldc 121, 2) := by decide +kernel
theorem dX6_give_31 : decode cX6_give 31 = .ok (.invokespecial 61, 3) := by decide +kernel
theorem dX6_give_34 : decode cX6_give 34 = .ok (.athrow, 1) := by decide +kernel
theorem dX6_give_35 : decode cX6_give 35 = .ok (.aload_n 0, 1) := by decide +kernel
theorem dX6_give_36 : decode cX6_give 36 = .ok (.invokevirtual 73, 3) := by decide +kernel
theorem dX6_give_39 : decode cX6_give 39 = .ok (.aload_n 0, 1) := by decide +kernel
theorem dX6_give_40 : decode cX6_give 40 = .ok (.getfield 19, 3) := by decide +kernel
theorem dX6_give_43 : decode cX6_give 43 = .ok (.getfield 103, 3) := by decide +kernel
theorem dX6_give_46 : decode cX6_give 46 = .ok (.iload_n 1, 1) := by decide +kernel
theorem dX6_give_47 : decode cX6_give 47 = .ok (.aaload, 1) := by decide +kernel
theorem dX6_give_48 : decode cX6_give 48 = .ok (.astore_n 3, 1) := by decide +kernel
theorem dX6_give_49 : decode cX6_give 49 = .ok (.aload_n 3, 1) := by decide +kernel
theorem dX6_give_50 : decode cX6_give 50 = .ok (.getfield 123, 3) := by decide +kernel
theorem dX6_give_53 : decode cX6_give 53 = .ok (.istore 4, 2) := by decide +kernel
theorem dX6_give_55 : decode cX6_give 55 = .ok (.aload_n 3, 1) := by decide +kernel
theorem dX6_give_56 : decode cX6_give 56 = .ok (.iload_n 2, 1) := by decide +kernel
theorem dX6_give_57 : decode cX6_give 57 = .ok (.putfield 123, 3) := by decide +kernel
theorem dX6_give_60 : decode cX6_give 60 = .ok (.iload 4, 2) := by decide +kernel
theorem dX6_give_62 : decode cX6_give 62 = .ok (.ireturn, 1) := by decide +kernel
theorem dX6_lose_0 : decode cX6_lose 0 = .ok (.aload_n 0, 1) := by decide +kernel
theorem dX6_lose_1 : decode cX6_lose 1 = .ok (.iload_n 1, 1) := by decide +kernel
theorem dX6_lose_2 : decode cX6_lose 2 = .ok (.invokevirtual 83, 3) := by decide +kernel
theorem dX6_lose_5 : decode cX6_lose 5 = .ok (.ifCond .ne 13, 3) := by decide +kernel
theorem dX6_lose_8 : decode cX6_lose 8 = .ok (.new 89, 3) := by decide +kernel
theorem dX6_lose_11 : decode cX6_lose 11 = .ok (.dup, 1) := by decide +kernel
theorem dX6_lose_12 : decode cX6_lose 12 = .ok (.ldc 112, 2) := by decide +kernel
theorem dX6_lose_14 : decode cX6_lose 14 = .ok (.invokespecial 93, 3) := by decide +kernel
theorem dX6_lose_17 : decode cX6_lose 17 = .ok (.athrow, 1) := by decide +kernel
theorem dX6_lose_18 : decode cX6_lose 18 = .ok (.aload_n 0, 1) := by decide +kernel
theorem dX6_lose_19 : decode cX6_lose 19 = .ok (.getfield 19, 3) := by decide +kernel
theorem dX6_lose_22 : decode cX6_lose 22 = .ok (.getfield 103, 3) := by decide +kernel
theorem dX6_lose_25 : decode cX6_lose 25 = .ok (.iload_n 1, 1) := by decide +kernel
theorem dX6_lose_26 : decode cX6_lose 26 = .ok (.aaload, 1) := by decide +kernel
theorem dX6_lose_27 : decode cX6_lose 27 = .ok (.getfield 126, 3) := by decide +kernel
theorem dX6_lose_30 : decode cX6_lose 30 = .ok (.ifCond .eq 13, 3) := by decide +kernel
theorem dX6_lose_33 : decode cX6_lose 33 = .ok (.new 68, 3) := by decide +kernel
theorem dX6_lose_36 : decode cX6_lose 36 = .ok (.dup, 1) := by decide +kernel
theorem dX6_lose_37 : decode cX6_lose 37 = .ok (.ldc 130, 2) := by decide +kernel
theorem dX6_lose_39 : decode cX6_lose 39 = .ok (.invokespecial 72, 3) := by decide +kernel
theorem dX6_lose_42 : decode cX6_lose 42 = .ok (.athrow, 1) := by decide +kernel
theorem dX6_lose_43 : decode cX6_lose 43 = .ok (.aload_n 0, 1) := by decide +kernel
theorem dX6_lose_44 : decode cX6_lose 44 = .ok (.invokevirtual 73, 3) := by decide +kernel
theorem dX6_lose_47 : decode cX6_lose 47 = .ok (.aload_n 0, 1) := by decide +kernel
theorem dX6_lose_48 : decode cX6_lose 48 = .ok (.getfield 19, 3) := by decide +kernel
theorem dX6_lose_51 : decode cX6_lose 51 = .ok (.getfield 103, 3) := by decide +kernel
theorem dX6_lose_54 : decode cX6_lose 54 = .ok (.iload_n 1, 1) := by decide +kernel
theorem dX6_lose_55 : decode cX6_lose 55 = .ok (.aaload, 1) := by decide +kernel
theorem dX6_lose_56 : decode cX6_lose 56 = .ok (.iconst 1, 1) := by decide +kernel
theorem dX6_lose_57 : decode cX6_lose 57 = .ok (.putfield 126, 3) := by decide +kernel
theorem dX6_lose_60 : decode cX6_lose 60 = .ok (.aload_n 0, 1) := by decide +kernel
theorem dX6_lose_61 : decode cX6_lose 61 = .ok (.iload_n 1, 1) := by decide +kernel
theorem dX6_lose_62 : decode cX6_lose 62 = .ok (.invokevirtual 132, 3) := by decide +kernel
theorem dX6_lose_65 : decode cX6_lose 65 = .ok (.invokestatic 135, 3) := by decide +kernel
theorem dX6_lose_68 : decode cX6_lose 68 = .ok (.ireturn, 1) := by decide +kernel
theorem dX6_find_0 : decode cX6_find 0 = .ok (.aload_n 0, 1) := by decide +kernel
theorem dX6_find_1 : decode cX6_find 1 = .ok (.iload_n 1, 1) := by decide +kernel
theorem dX6_find_2 : decode cX6_find 2 = .ok (.invokevirtual 83, 3) := by decide +kernel
theorem dX6_find_5 : decode cX6_find 5 = .ok (.ifCond .ne 13, 3) := by decide +kernel
theorem dX6_find_8 : decode cX6_find 8 = .ok (.new 89, 3) := by decide +kernel
theorem dX6_find_11 : decode cX6_find 11 = .ok (.dup, 1) := by decide +kernel
theorem dX6_find_12 : decode cX6_find 12 = .ok (.ldc 112, 2) := by decide +kernel
theorem dX6_find_14 : decode cX6_find 14 = .ok (.invokespecial 93, 3) := by decide +kernel
theorem dX6_find_17 : decode cX6_find 17 = .ok (.athrow, 1) := by decide +kernel
theorem dX6_find_18 : decode cX6_find 18 = .ok (.aload_n 0, 1) := by decide +kernel
theorem dX6_find_19 : decode cX6_find 19 = .ok (.getfield 19, 3) := by decide +kernel
theorem dX6_find_22 : decode cX6_find 22 = .ok (.getfield 103, 3) := by decide +kernel
theorem dX6_find_25 : decode cX6_find 25 = .ok (.iload_n 1, 1) := by decide +kernel
theorem dX6_find_26 : decode cX6_find 26 = .ok (.aaload, 1) := by decide +kernel
theorem dX6_find_27 : decode cX6_find 27 = .ok (.getfield 126, 3) := by decide +kernel
theorem dX6_find_30 : decode cX6_find 30 = .ok (.ifCond .ne 13, 3) := by decide +kernel
theorem dX6_find_33 : decode cX6_find 33 = .ok (.new 68, 3) := by decide +kernel
theorem dX6_find_36 : decode cX6_find 36 = .ok (.dup, 1) := by decide +kernel
theorem dX6_find_37 : decode cX6_find 37 = .ok (.ldc 140, 2) := by decide +kernel
theorem dX6_find_39 : decode cX6_find 39 = .ok (.invokespecial 72, 3) := by decide +kernel
theorem dX6_find_42 : decode cX6_find 42 = .ok (.athrow, 1) := by decide +kernel
theorem dX6_find_43 : decode cX6_find 43 = .ok (.aload_n 0, 1) := by decide +kernel
theorem dX6_find_44 : decode cX6_find 44 = .ok (.invokevirtual 73, 3) := by decide +kernel
theorem dX6_find_47 : decode cX6_find 47 = .ok (.aload_n 0, 1) := by decide +kernel
theorem dX6_find_48 : decode cX6_find 48 = .ok (.getfield 19, 3) := by decide +kernel
theorem dX6_find_51 : decode cX6_find 51 = .ok (.getfield 103, 3) := by decide +kernel
theorem dX6_find_54 : decode cX6_find 54 = .ok (.iload_n 1, 1) := by decide +kernel
theorem dX6_find_55 : decode cX6_find 55 = .ok (.aaload, 1) := by decide +kernel
theorem dX6_find_56 : decode cX6_find 56 = .ok (.iconst 0, 1) := by decide +kernel
theorem dX6_find_57 : decode cX6_find 57 = .ok (.putfield 126, 3) := by decide +kernel
theorem dX6_find_60 : decode cX6_find 60 = .ok (.aload_n 0, 1) := by decide +kernel
theorem dX6_find_61 : decode cX6_find 61 = .ok (.iload_n 1, 1) := by decide +kernel
theorem dX6_find_62 : decode cX6_find 62 = .ok (.invokevirtual 132, 3) := by decide +kernel
theorem dX6_find_65 : decode cX6_find 65 = .ok (.invokestatic 135, 3) := by decide +kernel
theorem dX6_find_68 : decode cX6_find 68 = .ok (.ireturn, 1) := by decide +kernel
theorem dX6_ward_0 : decode cX6_ward 0 = .ok (.iload_n 1, 1) := by decide +kernel
theorem dX6_ward_1 : decode cX6_ward 1 = .ok (.invokestatic 142, 3) := by decide +kernel
theorem dX6_ward_4 : decode cX6_ward 4 = .ok (.ifCond .ne 13, 3) := by decide +kernel
theorem dX6_ward_7 : decode cX6_ward 7 = .ok (.new 89, 3) := by decide +kernel
theorem dX6_ward_10 : decode cX6_ward 10 = .ok (.dup, 1) := by decide +kernel
theorem dX6_ward_11 : decode cX6_ward 11 = .ok (.ldc 145, 2) := by decide +kernel
theorem dX6_ward_13 : decode cX6_ward 13 = .ok (.invokespecial 93, 3) := by decide +kernel
theorem dX6_ward_16 : decode cX6_ward 16 = .ok (.athrow, 1) := by decide +kernel
theorem dX6_ward_17 : decode cX6_ward 17 = .ok (.iload_n 2, 1) := by decide +kernel
theorem dX6_ward_18 : decode cX6_ward 18 = .ok (.invokestatic 50, 3) := by decide +kernel
theorem dX6_ward_21 : decode cX6_ward 21 = .ok (.ifCond .ne 13, 3) := by decide +kernel
theorem dX6_ward_24 : decode cX6_ward 24 = .ok (.new 57, 3) := by decide +kernel
theorem dX6_ward_27 : decode cX6_ward 27 = .ok (.dup, 1) := by decide +kernel
theorem dX6_ward_28 : decode cX6_ward 28 = .ok (.ldc 147, 2) := by decide +kernel
theorem dX6_ward_30 : decode cX6_ward 30 = .ok (.invokespecial 61, 3) := by decide +kernel
theorem dX6_ward_33 : decode cX6_ward 33 = .ok (.athrow, 1) := by decide +kernel
theorem dX6_ward_34 : decode cX6_ward 34 = .ok (.aload_n 0, 1) := by decide +kernel
theorem dX6_ward_35 : decode cX6_ward 35 = .ok (.invokevirtual 73, 3) := by decide +kernel
theorem dX6_ward_38 : decode cX6_ward 38 = .ok (.aload_n 0, 1) := by decide +kernel
theorem dX6_ward_39 : decode cX6_ward 39 = .ok (.getfield 19, 3) := by decide +kernel
theorem dX6_ward_42 : decode cX6_ward 42 = .ok (.getfield 149, 3) := by decide +kernel
theorem dX6_ward_45 : decode cX6_ward 45 = .ok (.iload_n 1, 1) := by decide +kernel
theorem dX6_ward_46 : decode cX6_ward 46 = .ok (.aaload, 1) := by decide +kernel
theorem dX6_ward_47 : decode cX6_ward 47 = .ok (.getfield 153, 3) := by decide +kernel
theorem dX6_ward_50 : decode cX6_ward 50 = .ok (.istore_n 3, 1) := by decide +kernel
theorem dX6_ward_51 : decode cX6_ward 51 = .ok (.aload_n 0, 1) := by decide +kernel
theorem dX6_ward_52 : decode cX6_ward 52 = .ok (.getfield 19, 3) := by decide +kernel
theorem dX6_ward_55 : decode cX6_ward 55 = .ok (.getfield 149, 3) := by decide +kernel
theorem dX6_ward_58 : decode cX6_ward 58 = .ok (.iload_n 1, 1) := by decide +kernel
theorem dX6_ward_59 : decode cX6_ward 59 = .ok (.aaload, 1) := by decide +kernel
theorem dX6_ward_60 : decode cX6_ward 60 = .ok (.iload_n 2, 1) := by decide +kernel
theorem dX6_ward_61 : decode cX6_ward 61 = .ok (.putfield 153, 3) := by decide +kernel
theorem dX6_ward_64 : decode cX6_ward 64 = .ok (.iload_n 3, 1) := by decide +kernel
theorem dX6_ward_65 : decode cX6_ward 65 = .ok (.ireturn, 1) := by decide +kernel
theorem dX6_guest_0 : decode cX6_guest 0 = .ok (.iload_n 1, 1) := by decide +kernel
theorem dX6_guest_1 : decode cX6_guest 1 = .ok (.invokestatic 142, 3) := by decide +kernel
theorem dX6_guest_4 : decode cX6_guest 4 = .ok (.ifCond .ne 13, 3) := by decide +kernel
theorem dX6_guest_7 : decode cX6_guest 7 = .ok (.new 89, 3) := by decide +kernel
theorem dX6_guest_10 : decode cX6_guest 10 = .ok (.dup, 1) := by decide +kernel
theorem dX6_guest_11 : decode cX6_guest 11 = .ok (.ldc 145, 2) := by decide +kernel
theorem dX6_guest_13 : decode cX6_guest 13 = .ok (.invokespecial 93, 3) := by decide +kernel
theorem dX6_guest_16 : decode cX6_guest 16 = .ok (.athrow, 1) := by decide +kernel
theorem dX6_guest_17 : decode cX6_guest 17 = .ok (.iload_n 2, 1) := by decide +kernel
theorem dX6_guest_18 : decode cX6_guest 18 = .ok (.iconst (-1), 1) := by decide +kernel
theorem dX6_guest_19 : decode cX6_guest 19 = .ok (.if_icmp .eq 20, 3) := by decide +kernel
theorem dX6_guest_22 : decode cX6_guest 22 = .ok (.iload_n 2, 1) := by decide +kernel
theorem dX6_guest_23 : decode cX6_guest 23 = .ok (.invokestatic 50, 3) := by decide +kernel
theorem dX6_guest_26 : decode cX6_guest 26 = .ok (.ifCond .ne 13, 3) := by decide +kernel
theorem dX6_guest_29 : decode cX6_guest 29 = .ok (.new 57, 3) := by decide +kernel
theorem dX6_guest_32 : decode cX6_guest 32 = .ok (.dup, 1) := by decide +kernel
theorem dX6_guest_33 : decode cX6_guest 33 = .ok (.ldc 147, 2) := by decide +kernel
theorem dX6_guest_35 : decode cX6_guest 35 = .ok (.invokespecial 61, 3) := by decide +kernel
theorem dX6_guest_38 : decode cX6_guest 38 = .ok (.athrow, 1) := by decide +kernel
theorem dX6_guest_39 : decode cX6_guest 39 = .ok (.aload_n 0, 1) := by decide +kernel
theorem dX6_guest_40 : decode cX6_guest 40 = .ok (.iload_n 1, 1) := by decide +kernel
theorem dX6_guest_41 : decode cX6_guest 41 = .ok (.invokevirtual 158, 3) := by decide +kernel
theorem dX6_guest_44 : decode cX6_guest 44 = .ok (.ifCond .ne 13, 3) := by decide +kernel
theorem dX6_guest_47 : decode cX6_guest 47 = .ok (.new 68, 3) := by decide +kernel
theorem dX6_guest_50 : decode cX6_guest 50 = .ok (.dup, 1) := by decide +kernel
theorem dX6_guest_51 : decode cX6_guest 51 = .ok (.ldc 161, 2) := by decide +kernel
theorem dX6_guest_53 : decode cX6_guest 53 = .ok (.invokespecial 72, 3) := by decide +kernel
theorem dX6_guest_56 : decode cX6_guest 56 = .ok (.athrow, 1) := by decide +kernel
theorem dX6_guest_57 : decode cX6_guest 57 = .ok (.aload_n 0, 1) := by decide +kernel
theorem dX6_guest_58 : decode cX6_guest 58 = .ok (.invokevirtual 73, 3) := by decide +kernel
theorem dX6_guest_61 : decode cX6_guest 61 = .ok (.aload_n 0, 1) := by decide +kernel
theorem dX6_guest_62 : decode cX6_guest 62 = .ok (.getfield 19, 3) := by decide +kernel
theorem dX6_guest_65 : decode cX6_guest 65 = .ok (.getfield 149, 3) := by decide +kernel
theorem dX6_guest_68 : decode cX6_guest 68 = .ok (.iload_n 1, 1) := by decide +kernel
theorem dX6_guest_69 : decode cX6_guest 69 = .ok (.aaload, 1) := by decide +kernel
theorem dX6_guest_70 : decode cX6_guest 70 = .ok (.getfield 163, 3) := by decide +kernel
theorem dX6_guest_73 : decode cX6_guest 73 = .ok (.istore_n 3, 1) := by decide +kernel
theorem dX6_guest_74 : decode cX6_guest 74 = .ok (.aload_n 0, 1) := by decide +kernel
theorem dX6_guest_75 : decode cX6_guest 75 = .ok (.getfield 19, 3) := by decide +kernel
theorem dX6_guest_78 : decode cX6_guest 78 = .ok (.getfield 149, 3) := by decide +kernel
theorem dX6_guest_81 : decode cX6_guest 81 = .ok (.iload_n 1, 1) := by decide +kernel
theorem dX6_guest_82 : decode cX6_guest 82 = .ok (.aaload, 1) := by decide +kernel
theorem dX6_guest_83 : decode cX6_guest 83 = .ok (.iload_n 2, 1) := by decide +kernel
theorem dX6_guest_84 : decode cX6_guest 84 = .ok (.putfield 163, 3) := by decide +kernel
theorem dX6_guest_87 : decode cX6_guest 87 = .ok (.iload_n 3, 1) := by decide +kernel
theorem dX6_guest_88 : decode cX6_guest 88 = .ok (.ireturn, 1) := by decide +kernel
theorem dX6_take_0 : decode cX6_take 0 = .ok (.iload_n 1, 1) := by decide +kernel
theorem dX6_take_1 : decode cX6_take 1 = .ok (.invokestatic 142, 3) := by decide +kernel
theorem dX6_take_4 : decode cX6_take 4 = .ok (.ifCond .ne 13, 3) := by decide +kernel
theorem dX6_take_7 : decode cX6_take 7 = .ok (.new 89, 3) := by decide +kernel
theorem dX6_take_10 : decode cX6_take 10 = .ok (.dup, 1) := by decide +kernel
theorem dX6_take_11 : decode cX6_take 11 = .ok (.ldc 145, 2) := by decide +kernel
theorem dX6_take_13 : decode cX6_take 13 = .ok (.invokespecial 93, 3) := by decide +kernel
theorem dX6_take_16 : decode cX6_take 16 = .ok (.athrow, 1) := by decide +kernel
theorem dX6_take_17 : decode cX6_take 17 = .ok (.aload_n 0, 1) := by decide +kernel
theorem dX6_take_18 : decode cX6_take 18 = .ok (.iload_n 1, 1) := by decide +kernel
theorem dX6_take_19 : decode cX6_take 19 = .ok (.invokevirtual 158, 3) := by decide +kernel
theorem dX6_take_22 : decode cX6_take 22 = .ok (.ifCond .ne 13, 3) := by decide +kernel
theorem dX6_take_25 : decode cX6_take 25 = .ok (.new 68, 3) := by decide +kernel
theorem dX6_take_28 : decode cX6_take 28 = .ok (.dup, 1) := by decide +kernel
theorem dX6_take_29 : decode cX6_take 29 = .ok (.ldc 161, 2) := by decide +kernel
theorem dX6_take_31 : decode cX6_take 31 = .ok (.invokespecial 72, 3) := by decide +kernel
theorem dX6_take_34 : decode cX6_take 34 = .ok (.athrow, 1) := by decide +kernel
theorem dX6_take_35 : decode cX6_take 35 = .ok (.aload_n 0, 1) := by decide +kernel
theorem dX6_take_36 : decode cX6_take 36 = .ok (.invokevirtual 73, 3) := by decide +kernel
theorem dX6_take_39 : decode cX6_take 39 = .ok (.aload_n 0, 1) := by decide +kernel
theorem dX6_take_40 : decode cX6_take 40 = .ok (.iload_n 1, 1) := by decide +kernel
theorem dX6_take_41 : decode cX6_take 41 = .ok (.invokevirtual 166, 3) := by decide +kernel
theorem dX6_take_44 : decode cX6_take 44 = .ok (.invokestatic 135, 3) := by decide +kernel
theorem dX6_take_47 : decode cX6_take 47 = .ok (.istore_n 2, 1) := by decide +kernel
theorem dX6_take_48 : decode cX6_take 48 = .ok (.aload_n 0, 1) := by decide +kernel
theorem dX6_take_49 : decode cX6_take 49 = .ok (.getfield 19, 3) := by decide +kernel
theorem dX6_take_52 : decode cX6_take 52 = .ok (.getfield 149, 3) := by decide +kernel
theorem dX6_take_55 : decode cX6_take 55 = .ok (.iload_n 1, 1) := by decide +kernel
theorem dX6_take_56 : decode cX6_take 56 = .ok (.aaload, 1) := by decide +kernel
theorem dX6_take_57 : decode cX6_take 57 = .ok (.invokevirtual 169, 3) := by decide +kernel
theorem dX6_take_60 : decode cX6_take 60 = .ok (.iload_n 2, 1) := by decide +kernel
theorem dX6_take_61 : decode cX6_take 61 = .ok (.ireturn, 1) := by decide +kernel
theorem dX6_turn_0 : decode cX6_turn 0 = .ok (.aload_n 0, 1) := by decide +kernel
theorem dX6_turn_1 : decode cX6_turn 1 = .ok (.iload_n 1, 1) := by decide +kernel
theorem dX6_turn_2 : decode cX6_turn 2 = .ok (.invokevirtual 83, 3) := by decide +kernel
theorem dX6_turn_5 : decode cX6_turn 5 = .ok (.ifCond .eq 10, 3) := by decide +kernel
theorem dX6_turn_8 : decode cX6_turn 8 = .ok (.iload_n 2, 1) := by decide +kernel
theorem dX6_turn_9 : decode cX6_turn 9 = .ok (.invokestatic 142, 3) := by decide +kernel
theorem dX6_turn_12 : decode cX6_turn 12 = .ok (.ifCond .ne 13, 3) := by decide +kernel
theorem dX6_turn_15 : decode cX6_turn 15 = .ok (.new 89, 3) := by decide +kernel
theorem dX6_turn_18 : decode cX6_turn 18 = .ok (.dup, 1) := by decide +kernel
theorem dX6_turn_19 : decode cX6_turn 19 = .ok (.ldc 172, 2) := by decide +kernel
theorem dX6_turn_21 : decode cX6_turn 21 = .ok (.invokespecial 93, 3) := by decide +kernel
theorem dX6_turn_24 : decode cX6_turn 24 = .ok (.athrow, 1) := by decide +kernel
theorem dX6_turn_25 : decode cX6_turn 25 = .ok (.aload_n 0, 1) := by decide +kernel
theorem dX6_turn_26 : decode cX6_turn 26 = .ok (.getfield 19, 3) := by decide +kernel
theorem dX6_turn_29 : decode cX6_turn 29 = .ok (.getfield 103, 3) := by decide +kernel
theorem dX6_turn_32 : decode cX6_turn 32 = .ok (.iload_n 1, 1) := by decide +kernel
theorem dX6_turn_33 : decode cX6_turn 33 = .ok (.aaload, 1) := by decide +kernel
theorem dX6_turn_34 : decode cX6_turn 34 = .ok (.getfield 126, 3) := by decide +kernel
theorem dX6_turn_37 : decode cX6_turn 37 = .ok (.ifCond .ne 11, 3) := by decide +kernel
theorem dX6_turn_40 : decode cX6_turn 40 = .ok (.aload_n 0, 1) := by decide +kernel
theorem dX6_turn_41 : decode cX6_turn 41 = .ok (.iload_n 2, 1) := by decide +kernel
theorem dX6_turn_42 : decode cX6_turn 42 = .ok (.invokevirtual 158, 3) := by decide +kernel
theorem dX6_turn_45 : decode cX6_turn 45 = .ok (.ifCond .ne 13, 3) := by decide +kernel
theorem dX6_turn_48 : decode cX6_turn 48 = .ok (.new 68, 3) := by decide +kernel
theorem dX6_turn_51 : decode cX6_turn 51 = .ok (.dup, 1) := by decide +kernel
theorem dX6_turn_52 : decode cX6_turn 52 = .ok (.ldc 174, 2) := by decide +kernel
theorem dX6_turn_54 : decode cX6_turn 54 = .ok (.invokespecial 72, 3) := by decide +kernel
theorem dX6_turn_57 : decode cX6_turn 57 = .ok (.athrow, 1) := by decide +kernel
theorem dX6_turn_58 : decode cX6_turn 58 = .ok (.aload_n 0, 1) := by decide +kernel
theorem dX6_turn_59 : decode cX6_turn 59 = .ok (.invokevirtual 73, 3) := by decide +kernel
theorem dX6_turn_62 : decode cX6_turn 62 = .ok (.aload_n 0, 1) := by decide +kernel
theorem dX6_turn_63 : decode cX6_turn 63 = .ok (.iload_n 1, 1) := by decide +kernel
theorem dX6_turn_64 : decode cX6_turn 64 = .ok (.iload_n 2, 1) := by decide +kernel
theorem dX6_turn_65 : decode cX6_turn 65 = .ok (.invokevirtual 176, 3) := by decide +kernel
theorem dX6_turn_68 : decode cX6_turn 68 = .ok (.ifCond .eq 7, 3) := by decide +kernel
theorem dX6_turn_71 : decode cX6_turn 71 = .ok (.iconst 1, 1) := by decide +kernel
theorem dX6_turn_72 : decode cX6_turn 72 = .ok (.goto 4, 3) := by decide +kernel
theorem dX6_turn_75 : decode cX6_turn 75 = .ok (.iconst 0, 1) := by decide +kernel
theorem dX6_turn_76 : decode cX6_turn 76 = .ok (.ireturn, 1) := by decide +kernel
theorem dX6_set_0 : decode cX6_set 0 = .ok (.iload_n 1, 1) := by decide +kernel
theorem dX6_set_1 : decode cX6_set 1 = .ok (.invokestatic 180, 3) := by decide +kernel
theorem dX6_set_4 : decode cX6_set 4 = .ok (.ifCond .ne 13, 3) := by decide +kernel
theorem dX6_set_7 : decode cX6_set 7 = .ok (.new 89, 3) := by decide +kernel
theorem dX6_set_10 : decode cX6_set 10 = .ok (.dup, 1) := by decide +kernel
theorem dX6_set_11 : decode cX6_set 11 = .ok (.ldc 183, 2) := by decide +kernel
theorem dX6_set_13 : decode cX6_set 13 = .ok (.invokespecial 93, 3) := by decide +kernel
theorem dX6_set_16 : decode cX6_set 16 = .ok (.athrow, 1) := by decide +kernel
theorem dX6_set_17 : decode cX6_set 17 = .ok (.iload_n 2, 1) := by decide +kernel
theorem dX6_set_18 : decode cX6_set 18 = .ok (.getstatic 185, 3) := by decide +kernel
theorem dX6_set_21 : decode cX6_set 21 = .ok (.iload_n 1, 1) := by decide +kernel
theorem dX6_set_22 : decode cX6_set 22 = .ok (.iaload, 1) := by decide +kernel
theorem dX6_set_23 : decode cX6_set 23 = .ok (.if_icmp .lt 12, 3) := by decide +kernel
theorem dX6_set_26 : decode cX6_set 26 = .ok (.iload_n 2, 1) := by decide +kernel
theorem dX6_set_27 : decode cX6_set 27 = .ok (.getstatic 189, 3) := by decide +kernel
theorem dX6_set_30 : decode cX6_set 30 = .ok (.iload_n 1, 1) := by decide +kernel
theorem dX6_set_31 : decode cX6_set 31 = .ok (.iaload, 1) := by decide +kernel
theorem dX6_set_32 : decode cX6_set 32 = .ok (.if_icmp .le 13, 3) := by decide +kernel
theorem dX6_set_35 : decode cX6_set 35 = .ok (.new 57, 3) := by decide +kernel
theorem dX6_set_38 : decode cX6_set 38 = .ok (.dup, 1) := by decide +kernel
theorem dX6_set_39 : decode cX6_set 39 = .ok (.ldc 192, 2) := by decide +kernel
theorem dX6_set_41 : decode cX6_set 41 = .ok (.invokespecial 61, 3) := by decide +kernel
theorem dX6_set_44 : decode cX6_set 44 = .ok (.athrow, 1) := by decide +kernel
theorem dX6_set_45 : decode cX6_set 45 = .ok (.aload_n 0, 1) := by decide +kernel
theorem dX6_set_46 : decode cX6_set 46 = .ok (.invokevirtual 73, 3) := by decide +kernel
theorem dX6_set_49 : decode cX6_set 49 = .ok (.aload_n 0, 1) := by decide +kernel
theorem dX6_set_50 : decode cX6_set 50 = .ok (.getfield 19, 3) := by decide +kernel
theorem dX6_set_53 : decode cX6_set 53 = .ok (.getfield 194, 3) := by decide +kernel
theorem dX6_set_56 : decode cX6_set 56 = .ok (.iload_n 1, 1) := by decide +kernel
theorem dX6_set_57 : decode cX6_set 57 = .ok (.iaload, 1) := by decide +kernel
theorem dX6_set_58 : decode cX6_set 58 = .ok (.istore_n 3, 1) := by decide +kernel
theorem dX6_set_59 : decode cX6_set 59 = .ok (.aload_n 0, 1) := by decide +kernel
theorem dX6_set_60 : decode cX6_set 60 = .ok (.getfield 19, 3) := by decide +kernel
theorem dX6_set_63 : decode cX6_set 63 = .ok (.getfield 194, 3) := by decide +kernel
theorem dX6_set_66 : decode cX6_set 66 = .ok (.iload_n 1, 1) := by decide +kernel
theorem dX6_set_67 : decode cX6_set 67 = .ok (.iload_n 2, 1) := by decide +kernel
theorem dX6_set_68 : decode cX6_set 68 = .ok (.iastore, 1) := by decide +kernel
theorem dX6_set_69 : decode cX6_set 69 = .ok (.iload_n 3, 1) := by decide +kernel
theorem dX6_set_70 : decode cX6_set 70 = .ok (.ireturn, 1) := by decide +kernel
theorem dX6_undo_0 : decode cX6_undo 0 = .ok (.aload_n 0, 1) := by decide +kernel
theorem dX6_undo_1 : decode cX6_undo 1 = .ok (.getfield 235, 3) := by decide +kernel
theorem dX6_undo_4 : decode cX6_undo 4 = .ok (.ifCond .gt 13, 3) := by decide +kernel
theorem dX6_undo_7 : decode cX6_undo 7 = .ok (.new 68, 3) := by decide +kernel
theorem dX6_undo_10 : decode cX6_undo 10 = .ok (.dup, 1) := by decide +kernel
theorem dX6_undo_11 : decode cX6_undo 11 = .ok (.ldc 238, 2) := by decide +kernel
theorem dX6_undo_13 : decode cX6_undo 13 = .ok (.invokespecial 72, 3) := by decide +kernel
theorem dX6_undo_16 : decode cX6_undo 16 = .ok (.athrow, 1) := by decide +kernel
theorem dX6_undo_17 : decode cX6_undo 17 = .ok (.aload_n 0, 1) := by decide +kernel
theorem dX6_undo_18 : decode cX6_undo 18 = .ok (.getfield 19, 3) := by decide +kernel
theorem dX6_undo_21 : decode cX6_undo 21 = .ok (.aload_n 0, 1) := by decide +kernel
theorem dX6_undo_22 : decode cX6_undo 22 = .ok (.getfield 26, 3) := by decide +kernel
theorem dX6_undo_25 : decode cX6_undo 25 = .ok (.aload_n 0, 1) := by decide +kernel
theorem dX6_undo_26 : decode cX6_undo 26 = .ok (.getfield 30, 3) := by decide +kernel
theorem dX6_undo_29 : decode cX6_undo 29 = .ok (.aaload, 1) := by decide +kernel
theorem dX6_undo_30 : decode cX6_undo 30 = .ok (.invokevirtual 227, 3) := by decide +kernel
theorem dX6_undo_33 : decode cX6_undo 33 = .ok (.aload_n 0, 1) := by decide +kernel
theorem dX6_undo_34 : decode cX6_undo 34 = .ok (.aload_n 0, 1) := by decide +kernel
theorem dX6_undo_35 : decode cX6_undo 35 = .ok (.getfield 30, 3) := by decide +kernel
theorem dX6_undo_38 : decode cX6_undo 38 = .ok (.ifCond .le 12, 3) := by decide +kernel
theorem dX6_undo_41 : decode cX6_undo 41 = .ok (.aload_n 0, 1) := by decide +kernel
theorem dX6_undo_42 : decode cX6_undo 42 = .ok (.getfield 30, 3) := by decide +kernel
theorem dX6_undo_45 : decode cX6_undo 45 = .ok (.iconst 1, 1) := by decide +kernel
theorem dX6_undo_46 : decode cX6_undo 46 = .ok (.isub, 1) := by decide +kernel
theorem dX6_undo_47 : decode cX6_undo 47 = .ok (.goto 4, 3) := by decide +kernel
theorem dX6_undo_50 : decode cX6_undo 50 = .ok (.iconst 5, 1) := by decide +kernel
theorem dX6_undo_51 : decode cX6_undo 51 = .ok (.putfield 30, 3) := by decide +kernel
theorem dX6_undo_54 : decode cX6_undo 54 = .ok (.aload_n 0, 1) := by decide +kernel
theorem dX6_undo_55 : decode cX6_undo 55 = .ok (.dup, 1) := by decide +kernel
theorem dX6_undo_56 : decode cX6_undo 56 = .ok (.getfield 235, 3) := by decide +kernel
theorem dX6_undo_59 : decode cX6_undo 59 = .ok (.iconst 1, 1) := by decide +kernel
theorem dX6_undo_60 : decode cX6_undo 60 = .ok (.isub, 1) := by decide +kernel
theorem dX6_undo_61 : decode cX6_undo 61 = .ok (.putfield 235, 3) := by decide +kernel
theorem dX6_undo_64 : decode cX6_undo 64 = .ok (.aload_n 0, 1) := by decide +kernel
theorem dX6_undo_65 : decode cX6_undo 65 = .ok (.getfield 235, 3) := by decide +kernel
theorem dX6_undo_68 : decode cX6_undo 68 = .ok (.ireturn, 1) := by decide +kernel
theorem dX6_key_0 : decode cX6_key 0 = .ok (.aload_n 0, 1) := by decide +kernel
theorem dX6_key_1 : decode cX6_key 1 = .ok (.iload_n 1, 1) := by decide +kernel
theorem dX6_key_2 : decode cX6_key 2 = .ok (.invokevirtual 83, 3) := by decide +kernel
theorem dX6_key_5 : decode cX6_key 5 = .ok (.ifCond .ne 13, 3) := by decide +kernel
theorem dX6_key_8 : decode cX6_key 8 = .ok (.new 89, 3) := by decide +kernel
theorem dX6_key_11 : decode cX6_key 11 = .ok (.dup, 1) := by decide +kernel
theorem dX6_key_12 : decode cX6_key 12 = .ok (.ldc 112, 2) := by decide +kernel
theorem dX6_key_14 : decode cX6_key 14 = .ok (.invokespecial 93, 3) := by decide +kernel
theorem dX6_key_17 : decode cX6_key 17 = .ok (.athrow, 1) := by decide +kernel
theorem dX6_key_18 : decode cX6_key 18 = .ok (.aload_n 0, 1) := by decide +kernel
theorem dX6_key_19 : decode cX6_key 19 = .ok (.getfield 19, 3) := by decide +kernel
theorem dX6_key_22 : decode cX6_key 22 = .ok (.getfield 103, 3) := by decide +kernel
theorem dX6_key_25 : decode cX6_key 25 = .ok (.iload_n 1, 1) := by decide +kernel
theorem dX6_key_26 : decode cX6_key 26 = .ok (.aaload, 1) := by decide +kernel
theorem dX6_key_27 : decode cX6_key 27 = .ok (.astore_n 3, 1) := by decide +kernel
theorem dX6_key_28 : decode cX6_key 28 = .ok (.iload_n 2, 1) := by decide +kernel
theorem dX6_key_29 : decode cX6_key 29 = .ok (.tableswitch 130 0 9 #[55, 60, 73, 78, 83, 88, 101, 107, 116, 125], 55) := by decide +kernel
theorem dX6_key_84 : decode cX6_key 84 = .ok (.aload_n 3, 1) := by decide +kernel
theorem dX6_key_85 : decode cX6_key 85 = .ok (.getfield 107, 3) := by decide +kernel
theorem dX6_key_88 : decode cX6_key 88 = .ok (.ireturn, 1) := by decide +kernel
theorem dX6_key_89 : decode cX6_key 89 = .ok (.aload_n 0, 1) := by decide +kernel
theorem dX6_key_90 : decode cX6_key 90 = .ok (.getfield 37, 3) := by decide +kernel
theorem dX6_key_93 : decode cX6_key 93 = .ok (.getfield 240, 3) := by decide +kernel
theorem dX6_key_96 : decode cX6_key 96 = .ok (.aload_n 3, 1) := by decide +kernel
theorem dX6_key_97 : decode cX6_key 97 = .ok (.getfield 107, 3) := by decide +kernel
theorem dX6_key_100 : decode cX6_key 100 = .ok (.iaload, 1) := by decide +kernel
theorem dX6_key_101 : decode cX6_key 101 = .ok (.ireturn, 1) := by decide +kernel
theorem dX6_key_102 : decode cX6_key 102 = .ok (.aload_n 3, 1) := by decide +kernel
theorem dX6_key_103 : decode cX6_key 103 = .ok (.getfield 243, 3) := by decide +kernel
theorem dX6_key_106 : decode cX6_key 106 = .ok (.ireturn, 1) := by decide +kernel
theorem dX6_key_107 : decode cX6_key 107 = .ok (.aload_n 3, 1) := by decide +kernel
theorem dX6_key_108 : decode cX6_key 108 = .ok (.getfield 246, 3) := by decide +kernel
theorem dX6_key_111 : decode cX6_key 111 = .ok (.ireturn, 1) := by decide +kernel
theorem dX6_key_112 : decode cX6_key 112 = .ok (.aload_n 3, 1) := by decide +kernel
theorem dX6_key_113 : decode cX6_key 113 = .ok (.getfield 123, 3) := by decide +kernel
theorem dX6_key_116 : decode cX6_key 116 = .ok (.ireturn, 1) := by decide +kernel
theorem dX6_key_117 : decode cX6_key 117 = .ok (.aload_n 3, 1) := by decide +kernel
theorem dX6_key_118 : decode cX6_key 118 = .ok (.getfield 126, 3) := by decide +kernel
theorem dX6_key_121 : decode cX6_key 121 = .ok (.ifCond .eq 7, 3) := by decide +kernel
theorem dX6_key_124 : decode cX6_key 124 = .ok (.iconst 1, 1) := by decide +kernel
theorem dX6_key_125 : decode cX6_key 125 = .ok (.goto 4, 3) := by decide +kernel
theorem dX6_key_128 : decode cX6_key 128 = .ok (.iconst 0, 1) := by decide +kernel
theorem dX6_key_129 : decode cX6_key 129 = .ok (.ireturn, 1) := by decide +kernel
theorem dX6_key_130 : decode cX6_key 130 = .ok (.aload_n 0, 1) := by decide +kernel
theorem dX6_key_131 : decode cX6_key 131 = .ok (.iload_n 1, 1) := by decide +kernel
theorem dX6_key_132 : decode cX6_key 132 = .ok (.invokevirtual 132, 3) := by decide +kernel
theorem dX6_key_135 : decode cX6_key 135 = .ok (.ireturn, 1) := by decide +kernel
theorem dX6_key_136 : decode cX6_key 136 = .ok (.aload_n 0, 1) := by decide +kernel
theorem dX6_key_137 : decode cX6_key 137 = .ok (.aload_n 3, 1) := by decide +kernel
theorem dX6_key_138 : decode cX6_key 138 = .ok (.getfield 107, 3) := by decide +kernel
theorem dX6_key_141 : decode cX6_key 141 = .ok (.invokevirtual 249, 3) := by decide +kernel
theorem dX6_key_144 : decode cX6_key 144 = .ok (.ireturn, 1) := by decide +kernel
theorem dX6_key_145 : decode cX6_key 145 = .ok (.aload_n 0, 1) := by decide +kernel
theorem dX6_key_146 : decode cX6_key 146 = .ok (.aload_n 3, 1) := by decide +kernel
theorem dX6_key_147 : decode cX6_key 147 = .ok (.getfield 107, 3) := by decide +kernel
theorem dX6_key_150 : decode cX6_key 150 = .ok (.invokevirtual 252, 3) := by decide +kernel
theorem dX6_key_153 : decode cX6_key 153 = .ok (.ireturn, 1) := by decide +kernel
theorem dX6_key_154 : decode cX6_key 154 = .ok (.aload_n 3, 1) := by decide +kernel
theorem dX6_key_155 : decode cX6_key 155 = .ok (.getfield 255, 3) := by decide +kernel
theorem dX6_key_158 : decode cX6_key 158 = .ok (.ireturn, 1) := by decide +kernel
theorem dX6_key_159 : decode cX6_key 159 = .ok (.new 57, 3) := by decide +kernel
theorem dX6_key_162 : decode cX6_key 162 = .ok (.dup, 1) := by decide +kernel
theorem dX6_key_163 : decode cX6_key 163 = .ok (.ldc_w 258, 3) := by decide +kernel
theorem dX6_key_166 : decode cX6_key 166 = .ok (.invokespecial 61, 3) := by decide +kernel
theorem dX6_key_169 : decode cX6_key 169 = .ok (.athrow, 1) := by decide +kernel
theorem dX6_lock_0 : decode cX6_lock 0 = .ok (.iload_n 1, 1) := by decide +kernel
theorem dX6_lock_1 : decode cX6_lock 1 = .ok (.invokestatic 142, 3) := by decide +kernel
theorem dX6_lock_4 : decode cX6_lock 4 = .ok (.ifCond .ne 13, 3) := by decide +kernel
theorem dX6_lock_7 : decode cX6_lock 7 = .ok (.new 89, 3) := by decide +kernel
theorem dX6_lock_10 : decode cX6_lock 10 = .ok (.dup, 1) := by decide +kernel
theorem dX6_lock_11 : decode cX6_lock 11 = .ok (.ldc 145, 2) := by decide +kernel
theorem dX6_lock_13 : decode cX6_lock 13 = .ok (.invokespecial 93, 3) := by decide +kernel
theorem dX6_lock_16 : decode cX6_lock 16 = .ok (.athrow, 1) := by decide +kernel
theorem dX6_lock_17 : decode cX6_lock 17 = .ok (.iload_n 2, 1) := by decide +kernel
theorem dX6_lock_18 : decode cX6_lock 18 = .ok (.ifCond .lt 8, 3) := by decide +kernel
theorem dX6_lock_21 : decode cX6_lock 21 = .ok (.iload_n 2, 1) := by decide +kernel
theorem dX6_lock_22 : decode cX6_lock 22 = .ok (.iconst 5, 1) := by decide +kernel
theorem dX6_lock_23 : decode cX6_lock 23 = .ok (.if_icmp .le 14, 3) := by decide +kernel
theorem dX6_lock_26 : decode cX6_lock 26 = .ok (.new 57, 3) := by decide +kernel
theorem dX6_lock_29 : decode cX6_lock 29 = .ok (.dup, 1) := by decide +kernel
theorem dX6_lock_30 : decode cX6_lock 30 = .ok (.ldc_w 260, 3) := by decide +kernel
theorem dX6_lock_33 : decode cX6_lock 33 = .ok (.invokespecial 61, 3) := by decide +kernel
theorem dX6_lock_36 : decode cX6_lock 36 = .ok (.athrow, 1) := by decide +kernel
theorem dX6_lock_37 : decode cX6_lock 37 = .ok (.aload_n 0, 1) := by decide +kernel
theorem dX6_lock_38 : decode cX6_lock 38 = .ok (.iload_n 1, 1) := by decide +kernel
theorem dX6_lock_39 : decode cX6_lock 39 = .ok (.invokevirtual 158, 3) := by decide +kernel
theorem dX6_lock_42 : decode cX6_lock 42 = .ok (.ifCond .ne 5, 3) := by decide +kernel
theorem dX6_lock_45 : decode cX6_lock 45 = .ok (.iconst (-1), 1) := by decide +kernel
theorem dX6_lock_46 : decode cX6_lock 46 = .ok (.ireturn, 1) := by decide +kernel
theorem dX6_lock_47 : decode cX6_lock 47 = .ok (.aload_n 0, 1) := by decide +kernel
theorem dX6_lock_48 : decode cX6_lock 48 = .ok (.getfield 19, 3) := by decide +kernel
theorem dX6_lock_51 : decode cX6_lock 51 = .ok (.getfield 149, 3) := by decide +kernel
theorem dX6_lock_54 : decode cX6_lock 54 = .ok (.iload_n 1, 1) := by decide +kernel
theorem dX6_lock_55 : decode cX6_lock 55 = .ok (.aaload, 1) := by decide +kernel
theorem dX6_lock_56 : decode cX6_lock 56 = .ok (.astore_n 3, 1) := by decide +kernel
theorem dX6_lock_57 : decode cX6_lock 57 = .ok (.iload_n 2, 1) := by decide +kernel
theorem dX6_lock_58 : decode cX6_lock 58 = .ok (.tableswitch 60 0 4 #[34, 39, 44, 50, 55], 34) := by decide +kernel
theorem dX6_lock_92 : decode cX6_lock 92 = .ok (.aload_n 3, 1) := by decide +kernel
theorem dX6_lock_93 : decode cX6_lock 93 = .ok (.getfield 153, 3) := by decide +kernel
theorem dX6_lock_96 : decode cX6_lock 96 = .ok (.ireturn, 1) := by decide +kernel
theorem dX6_lock_97 : decode cX6_lock 97 = .ok (.aload_n 3, 1) := by decide +kernel
theorem dX6_lock_98 : decode cX6_lock 98 = .ok (.getfield 163, 3) := by decide +kernel
theorem dX6_lock_101 : decode cX6_lock 101 = .ok (.ireturn, 1) := by decide +kernel
theorem dX6_lock_102 : decode cX6_lock 102 = .ok (.aload_n 0, 1) := by decide +kernel
theorem dX6_lock_103 : decode cX6_lock 103 = .ok (.iload_n 1, 1) := by decide +kernel
theorem dX6_lock_104 : decode cX6_lock 104 = .ok (.invokevirtual 166, 3) := by decide +kernel
theorem dX6_lock_107 : decode cX6_lock 107 = .ok (.ireturn, 1) := by decide +kernel
theorem dX6_lock_108 : decode cX6_lock 108 = .ok (.aload_n 3, 1) := by decide +kernel
theorem dX6_lock_109 : decode cX6_lock 109 = .ok (.getfield 262, 3) := by decide +kernel
theorem dX6_lock_112 : decode cX6_lock 112 = .ok (.ireturn, 1) := by decide +kernel
theorem dX6_lock_113 : decode cX6_lock 113 = .ok (.aload_n 3, 1) := by decide +kernel
theorem dX6_lock_114 : decode cX6_lock 114 = .ok (.getfield 263, 3) := by decide +kernel
theorem dX6_lock_117 : decode cX6_lock 117 = .ok (.ireturn, 1) := by decide +kernel
theorem dX6_lock_118 : decode cX6_lock 118 = .ok (.aload_n 0, 1) := by decide +kernel
theorem dX6_lock_119 : decode cX6_lock 119 = .ok (.iload_n 1, 1) := by decide +kernel
theorem dX6_lock_120 : decode cX6_lock 120 = .ok (.invokevirtual 266, 3) := by decide +kernel
theorem dX6_lock_123 : decode cX6_lock 123 = .ok (.ireturn, 1) := by decide +kernel
theorem dX6_person_0 : decode cX6_person 0 = .ok (.iload_n 1, 1) := by decide +kernel
theorem dX6_person_1 : decode cX6_person 1 = .ok (.invokestatic 54, 3) := by decide +kernel
theorem dX6_person_4 : decode cX6_person 4 = .ok (.ifCond .ne 14, 3) := by decide +kernel
theorem dX6_person_7 : decode cX6_person 7 = .ok (.new 89, 3) := by decide +kernel
theorem dX6_person_10 : decode cX6_person 10 = .ok (.dup, 1) := by decide +kernel
theorem dX6_person_11 : decode cX6_person 11 = .ok (.ldc_w 269, 3) := by decide +kernel
theorem dX6_person_14 : decode cX6_person 14 = .ok (.invokespecial 93, 3) := by decide +kernel
theorem dX6_person_17 : decode cX6_person 17 = .ok (.athrow, 1) := by decide +kernel
theorem dX6_person_18 : decode cX6_person 18 = .ok (.iload_n 2, 1) := by decide +kernel
theorem dX6_person_19 : decode cX6_person 19 = .ok (.tableswitch 47 0 2 #[25, 31, 37], 25) := by decide +kernel
theorem dX6_person_44 : decode cX6_person 44 = .ok (.aload_n 0, 1) := by decide +kernel
theorem dX6_person_45 : decode cX6_person 45 = .ok (.iload_n 1, 1) := by decide +kernel
theorem dX6_person_46 : decode cX6_person 46 = .ok (.invokevirtual 271, 3) := by decide +kernel
theorem dX6_person_49 : decode cX6_person 49 = .ok (.ireturn, 1) := by decide +kernel
theorem dX6_person_50 : decode cX6_person 50 = .ok (.aload_n 0, 1) := by decide +kernel
theorem dX6_person_51 : decode cX6_person 51 = .ok (.iload_n 1, 1) := by decide +kernel
theorem dX6_person_52 : decode cX6_person 52 = .ok (.invokevirtual 274, 3) := by decide +kernel
theorem dX6_person_55 : decode cX6_person 55 = .ok (.ireturn, 1) := by decide +kernel
theorem dX6_person_56 : decode cX6_person 56 = .ok (.aload_n 0, 1) := by decide +kernel
theorem dX6_person_57 : decode cX6_person 57 = .ok (.getfield 19, 3) := by decide +kernel
theorem dX6_person_60 : decode cX6_person 60 = .ok (.getfield 277, 3) := by decide +kernel
theorem dX6_person_63 : decode cX6_person 63 = .ok (.iload_n 1, 1) := by decide +kernel
theorem dX6_person_64 : decode cX6_person 64 = .ok (.iaload, 1) := by decide +kernel
theorem dX6_person_65 : decode cX6_person 65 = .ok (.ireturn, 1) := by decide +kernel
theorem dX6_person_66 : decode cX6_person 66 = .ok (.new 57, 3) := by decide +kernel
theorem dX6_person_69 : decode cX6_person 69 = .ok (.dup, 1) := by decide +kernel
theorem dX6_person_70 : decode cX6_person 70 = .ok (.ldc_w 280, 3) := by decide +kernel
theorem dX6_person_73 : decode cX6_person 73 = .ok (.invokespecial 61, 3) := by decide +kernel
theorem dX6_person_76 : decode cX6_person 76 = .ok (.athrow, 1) := by decide +kernel
theorem dX6_code_0 : decode cX6_code 0 = .ok (.iload_n 1, 1) := by decide +kernel
theorem dX6_code_1 : decode cX6_code 1 = .ok (.invokestatic 50, 3) := by decide +kernel
theorem dX6_code_4 : decode cX6_code 4 = .ok (.ifCond .ne 13, 3) := by decide +kernel
theorem dX6_code_7 : decode cX6_code 7 = .ok (.new 57, 3) := by decide +kernel
theorem dX6_code_10 : decode cX6_code 10 = .ok (.dup, 1) := by decide +kernel
theorem dX6_code_11 : decode cX6_code 11 = .ok (.ldc 147, 2) := by decide +kernel
theorem dX6_code_13 : decode cX6_code 13 = .ok (.invokespecial 61, 3) := by decide +kernel
theorem dX6_code_16 : decode cX6_code 16 = .ok (.athrow, 1) := by decide +kernel
theorem dX6_code_17 : decode cX6_code 17 = .ok (.iload_n 2, 1) := by decide +kernel
theorem dX6_code_18 : decode cX6_code 18 = .ok (.tableswitch 94 0 5 #[38, 48, 62, 68, 74, 80], 38) := by decide +kernel
theorem dX6_code_56 : decode cX6_code 56 = .ok (.aload_n 0, 1) := by decide +kernel
theorem dX6_code_57 : decode cX6_code 57 = .ok (.getfield 37, 3) := by decide +kernel
theorem dX6_code_60 : decode cX6_code 60 = .ok (.getfield 240, 3) := by decide +kernel
theorem dX6_code_63 : decode cX6_code 63 = .ok (.iload_n 1, 1) := by decide +kernel
theorem dX6_code_64 : decode cX6_code 64 = .ok (.iaload, 1) := by decide +kernel
theorem dX6_code_65 : decode cX6_code 65 = .ok (.ireturn, 1) := by decide +kernel
theorem dX6_code_66 : decode cX6_code 66 = .ok (.aload_n 0, 1) := by decide +kernel
theorem dX6_code_67 : decode cX6_code 67 = .ok (.iload_n 1, 1) := by decide +kernel
theorem dX6_code_68 : decode cX6_code 68 = .ok (.invokevirtual 282, 3) := by decide +kernel
theorem dX6_code_71 : decode cX6_code 71 = .ok (.ifCond .eq 7, 3) := by decide +kernel
theorem dX6_code_74 : decode cX6_code 74 = .ok (.iconst 1, 1) := by decide +kernel
theorem dX6_code_75 : decode cX6_code 75 = .ok (.goto 4, 3) := by decide +kernel
theorem dX6_code_78 : decode cX6_code 78 = .ok (.iconst 0, 1) := by decide +kernel
theorem dX6_code_79 : decode cX6_code 79 = .ok (.ireturn, 1) := by decide +kernel
theorem dX6_code_80 : decode cX6_code 80 = .ok (.aload_n 0, 1) := by decide +kernel
theorem dX6_code_81 : decode cX6_code 81 = .ok (.iload_n 1, 1) := by decide +kernel
theorem dX6_code_82 : decode cX6_code 82 = .ok (.invokevirtual 64, 3) := by decide +kernel
theorem dX6_code_85 : decode cX6_code 85 = .ok (.ireturn, 1) := by decide +kernel
theorem dX6_code_86 : decode cX6_code 86 = .ok (.aload_n 0, 1) := by decide +kernel
theorem dX6_code_87 : decode cX6_code 87 = .ok (.iload_n 1, 1) := by decide +kernel
theorem dX6_code_88 : decode cX6_code 88 = .ok (.invokevirtual 285, 3) := by decide +kernel
theorem dX6_code_91 : decode cX6_code 91 = .ok (.ireturn, 1) := by decide +kernel
theorem dX6_code_92 : decode cX6_code 92 = .ok (.aload_n 0, 1) := by decide +kernel
theorem dX6_code_93 : decode cX6_code 93 = .ok (.iload_n 1, 1) := by decide +kernel
theorem dX6_code_94 : decode cX6_code 94 = .ok (.invokevirtual 288, 3) := by decide +kernel
theorem dX6_code_97 : decode cX6_code 97 = .ok (.ireturn, 1) := by decide +kernel
theorem dX6_code_98 : decode cX6_code 98 = .ok (.aload_n 0, 1) := by decide +kernel
theorem dX6_code_99 : decode cX6_code 99 = .ok (.iload_n 1, 1) := by decide +kernel
theorem dX6_code_100 : decode cX6_code 100 = .ok (.invokevirtual 291, 3) := by decide +kernel
theorem dX6_code_103 : decode cX6_code 103 = .ok (.ifCond .eq 7, 3) := by decide +kernel
theorem dX6_code_106 : decode cX6_code 106 = .ok (.iconst 1, 1) := by decide +kernel
theorem dX6_code_107 : decode cX6_code 107 = .ok (.goto 4, 3) := by decide +kernel
theorem dX6_code_110 : decode cX6_code 110 = .ok (.iconst 0, 1) := by decide +kernel
theorem dX6_code_111 : decode cX6_code 111 = .ok (.ireturn, 1) := by decide +kernel
theorem dX6_code_112 : decode cX6_code 112 = .ok (.new 57, 3) := by decide +kernel
theorem dX6_code_115 : decode cX6_code 115 = .ok (.dup, 1) := by decide +kernel
theorem dX6_code_116 : decode cX6_code 116 = .ok (.ldc_w 260, 3) := by decide +kernel
theorem dX6_code_119 : decode cX6_code 119 = .ok (.invokespecial 61, 3) := by decide +kernel
theorem dX6_code_122 : decode cX6_code 122 = .ok (.athrow, 1) := by decide +kernel
theorem dX6_count_0 : decode cX6_count 0 = .ok (.iload_n 1, 1) := by decide +kernel
theorem dX6_count_1 : decode cX6_count 1 = .ok (.tableswitch 141 0 11 #[63, 71, 76, 81, 86, 94, 102, 110, 118, 126, 131, 136], 63) := by decide +kernel
theorem dX6_count_64 : decode cX6_count 64 = .ok (.aload_n 0, 1) := by decide +kernel
theorem dX6_count_65 : decode cX6_count 65 = .ok (.getfield 19, 3) := by decide +kernel
theorem dX6_count_68 : decode cX6_count 68 = .ok (.getfield 80, 3) := by decide +kernel
theorem dX6_count_71 : decode cX6_count 71 = .ok (.ireturn, 1) := by decide +kernel
theorem dX6_count_72 : decode cX6_count 72 = .ok (.aload_n 0, 1) := by decide +kernel
theorem dX6_count_73 : decode cX6_count 73 = .ok (.invokevirtual 310, 3) := by decide +kernel
theorem dX6_count_76 : decode cX6_count 76 = .ok (.ireturn, 1) := by decide +kernel
theorem dX6_count_77 : decode cX6_count 77 = .ok (.aload_n 0, 1) := by decide +kernel
theorem dX6_count_78 : decode cX6_count 78 = .ok (.invokevirtual 313, 3) := by decide +kernel
theorem dX6_count_81 : decode cX6_count 81 = .ok (.ireturn, 1) := by decide +kernel
theorem dX6_count_82 : decode cX6_count 82 = .ok (.aload_n 0, 1) := by decide +kernel
theorem dX6_count_83 : decode cX6_count 83 = .ok (.invokevirtual 316, 3) := by decide +kernel
theorem dX6_count_86 : decode cX6_count 86 = .ok (.ireturn, 1) := by decide +kernel
theorem dX6_count_87 : decode cX6_count 87 = .ok (.aload_n 0, 1) := by decide +kernel
theorem dX6_count_88 : decode cX6_count 88 = .ok (.getfield 19, 3) := by decide +kernel
theorem dX6_count_91 : decode cX6_count 91 = .ok (.getfield 319, 3) := by decide +kernel
theorem dX6_count_94 : decode cX6_count 94 = .ok (.ireturn, 1) := by decide +kernel
theorem dX6_count_95 : decode cX6_count 95 = .ok (.aload_n 0, 1) := by decide +kernel
theorem dX6_count_96 : decode cX6_count 96 = .ok (.getfield 19, 3) := by decide +kernel
theorem dX6_count_99 : decode cX6_count 99 = .ok (.getfield 322, 3) := by decide +kernel
theorem dX6_count_102 : decode cX6_count 102 = .ok (.ireturn, 1) := by decide +kernel
theorem dX6_count_103 : decode cX6_count 103 = .ok (.aload_n 0, 1) := by decide +kernel
theorem dX6_count_104 : decode cX6_count 104 = .ok (.getfield 19, 3) := by decide +kernel
theorem dX6_count_107 : decode cX6_count 107 = .ok (.getfield 323, 3) := by decide +kernel
theorem dX6_count_110 : decode cX6_count 110 = .ok (.ireturn, 1) := by decide +kernel
theorem dX6_count_111 : decode cX6_count 111 = .ok (.aload_n 0, 1) := by decide +kernel
theorem dX6_count_112 : decode cX6_count 112 = .ok (.getfield 19, 3) := by decide +kernel
theorem dX6_count_115 : decode cX6_count 115 = .ok (.getfield 324, 3) := by decide +kernel
theorem dX6_count_118 : decode cX6_count 118 = .ok (.ireturn, 1) := by decide +kernel
theorem dX6_count_119 : decode cX6_count 119 = .ok (.aload_n 0, 1) := by decide +kernel
theorem dX6_count_120 : decode cX6_count 120 = .ok (.getfield 19, 3) := by decide +kernel
theorem dX6_count_123 : decode cX6_count 123 = .ok (.getfield 118, 3) := by decide +kernel
theorem dX6_count_126 : decode cX6_count 126 = .ok (.ireturn, 1) := by decide +kernel
theorem dX6_count_127 : decode cX6_count 127 = .ok (.aload_n 0, 1) := by decide +kernel
theorem dX6_count_128 : decode cX6_count 128 = .ok (.invokevirtual 325, 3) := by decide +kernel
theorem dX6_count_131 : decode cX6_count 131 = .ok (.ireturn, 1) := by decide +kernel
theorem dX6_count_132 : decode cX6_count 132 = .ok (.aload_n 0, 1) := by decide +kernel
theorem dX6_count_133 : decode cX6_count 133 = .ok (.invokevirtual 328, 3) := by decide +kernel
theorem dX6_count_136 : decode cX6_count 136 = .ok (.ireturn, 1) := by decide +kernel
theorem dX6_count_137 : decode cX6_count 137 = .ok (.aload_n 0, 1) := by decide +kernel
theorem dX6_count_138 : decode cX6_count 138 = .ok (.getfield 235, 3) := by decide +kernel
theorem dX6_count_141 : decode cX6_count 141 = .ok (.ireturn, 1) := by decide +kernel
theorem dX6_count_142 : decode cX6_count 142 = .ok (.new 57, 3) := by decide +kernel
theorem dX6_count_145 : decode cX6_count 145 = .ok (.dup, 1) := by decide +kernel
theorem dX6_count_146 : decode cX6_count 146 = .ok (.ldc_w 331, 3) := by decide +kernel
theorem dX6_count_149 : decode cX6_count 149 = .ok (.invokespecial 61, 3) := by decide +kernel
theorem dX6_count_152 : decode cX6_count 152 = .ok (.athrow, 1) := by decide +kernel
theorem dX6_why_0 : decode cX6_why 0 = .ok (.aload_n 0, 1) := by decide +kernel
theorem dX6_why_1 : decode cX6_why 1 = .ok (.iload_n 1, 1) := by decide +kernel
theorem dX6_why_2 : decode cX6_why 2 = .ok (.invokevirtual 83, 3) := by decide +kernel
theorem dX6_why_5 : decode cX6_why 5 = .ok (.ifCond .eq 10, 3) := by decide +kernel
theorem dX6_why_8 : decode cX6_why 8 = .ok (.iload_n 2, 1) := by decide +kernel
theorem dX6_why_9 : decode cX6_why 9 = .ok (.invokestatic 86, 3) := by decide +kernel
theorem dX6_why_12 : decode cX6_why 12 = .ok (.ifCond .ne 13, 3) := by decide +kernel
theorem dX6_why_15 : decode cX6_why 15 = .ok (.new 89, 3) := by decide +kernel
theorem dX6_why_18 : decode cX6_why 18 = .ok (.dup, 1) := by decide +kernel
theorem dX6_why_19 : decode cX6_why 19 = .ok (.ldc 91, 2) := by decide +kernel
theorem dX6_why_21 : decode cX6_why 21 = .ok (.invokespecial 93, 3) := by decide +kernel
theorem dX6_why_24 : decode cX6_why 24 = .ok (.athrow, 1) := by decide +kernel
theorem dX6_why_25 : decode cX6_why 25 = .ok (.aload_n 0, 1) := by decide +kernel
theorem dX6_why_26 : decode cX6_why 26 = .ok (.iload_n 1, 1) := by decide +kernel
theorem dX6_why_27 : decode cX6_why 27 = .ok (.iload_n 2, 1) := by decide +kernel
theorem dX6_why_28 : decode cX6_why 28 = .ok (.invokevirtual 94, 3) := by decide +kernel
theorem dX6_why_31 : decode cX6_why 31 = .ok (.ireturn, 1) := by decide +kernel
theorem dX6_most_0 : decode cX6_most 0 = .ok (.iload_n 1, 1) := by decide +kernel
theorem dX6_most_1 : decode cX6_most 1 = .ok (.ifCond .lt 8, 3) := by decide +kernel
theorem dX6_most_4 : decode cX6_most 4 = .ok (.iload_n 1, 1) := by decide +kernel
theorem dX6_most_5 : decode cX6_most 5 = .ok (.iconst 1, 1) := by decide +kernel
theorem dX6_most_6 : decode cX6_most 6 = .ok (.if_icmp .le 14, 3) := by decide +kernel
theorem dX6_most_9 : decode cX6_most 9 = .ok (.new 57, 3) := by decide +kernel
theorem dX6_most_12 : decode cX6_most 12 = .ok (.dup, 1) := by decide +kernel
theorem dX6_most_13 : decode cX6_most 13 = .ok (.ldc_w 333, 3) := by decide +kernel
theorem dX6_most_16 : decode cX6_most 16 = .ok (.invokespecial 61, 3) := by decide +kernel
theorem dX6_most_19 : decode cX6_most 19 = .ok (.athrow, 1) := by decide +kernel
theorem dX6_most_20 : decode cX6_most 20 = .ok (.aload_n 0, 1) := by decide +kernel
theorem dX6_most_21 : decode cX6_most 21 = .ok (.invokevirtual 335, 3) := by decide +kernel
theorem dX6_most_24 : decode cX6_most 24 = .ok (.iload_n 1, 1) := by decide +kernel
theorem dX6_most_25 : decode cX6_most 25 = .ok (.ifCond .ne 13, 3) := by decide +kernel
theorem dX6_most_28 : decode cX6_most 28 = .ok (.aload_n 0, 1) := by decide +kernel
theorem dX6_most_29 : decode cX6_most 29 = .ok (.getfield 46, 3) := by decide +kernel
theorem dX6_most_32 : decode cX6_most 32 = .ok (.getfield 338, 3) := by decide +kernel
theorem dX6_most_35 : decode cX6_most 35 = .ok (.goto 10, 3) := by decide +kernel
theorem dX6_most_38 : decode cX6_most 38 = .ok (.aload_n 0, 1) := by decide +kernel
theorem dX6_most_39 : decode cX6_most 39 = .ok (.getfield 46, 3) := by decide +kernel
theorem dX6_most_42 : decode cX6_most 42 = .ok (.getfield 341, 3) := by decide +kernel
theorem dX6_most_45 : decode cX6_most 45 = .ok (.ireturn, 1) := by decide +kernel
theorem dX6_pick_0 : decode cX6_pick 0 = .ok (.iload_n 1, 1) := by decide +kernel
theorem dX6_pick_1 : decode cX6_pick 1 = .ok (.ifCond .ge 14, 3) := by decide +kernel
theorem dX6_pick_4 : decode cX6_pick 4 = .ok (.new 89, 3) := by decide +kernel
theorem dX6_pick_7 : decode cX6_pick 7 = .ok (.dup, 1) := by decide +kernel
theorem dX6_pick_8 : decode cX6_pick 8 = .ok (.ldc_w 344, 3) := by decide +kernel
theorem dX6_pick_11 : decode cX6_pick 11 = .ok (.invokespecial 93, 3) := by decide +kernel
theorem dX6_pick_14 : decode cX6_pick 14 = .ok (.athrow, 1) := by decide +kernel
theorem dX6_pick_15 : decode cX6_pick 15 = .ok (.aload_n 0, 1) := by decide +kernel
theorem dX6_pick_16 : decode cX6_pick 16 = .ok (.invokevirtual 335, 3) := by decide +kernel
theorem dX6_pick_19 : decode cX6_pick 19 = .ok (.iload_n 1, 1) := by decide +kernel
theorem dX6_pick_20 : decode cX6_pick 20 = .ok (.aload_n 0, 1) := by decide +kernel
theorem dX6_pick_21 : decode cX6_pick 21 = .ok (.getfield 46, 3) := by decide +kernel
theorem dX6_pick_24 : decode cX6_pick 24 = .ok (.getfield 341, 3) := by decide +kernel
theorem dX6_pick_27 : decode cX6_pick 27 = .ok (.if_icmp .ge 21, 3) := by decide +kernel
theorem dX6_pick_30 : decode cX6_pick 30 = .ok (.iload_n 1, 1) := by decide +kernel
theorem dX6_pick_31 : decode cX6_pick 31 = .ok (.bipush 81, 2) := by decide +kernel
theorem dX6_pick_33 : decode cX6_pick 33 = .ok (.if_icmp .ge 15, 3) := by decide +kernel
theorem dX6_pick_36 : decode cX6_pick 36 = .ok (.aload_n 0, 1) := by decide +kernel
theorem dX6_pick_37 : decode cX6_pick 37 = .ok (.getfield 46, 3) := by decide +kernel
theorem dX6_pick_40 : decode cX6_pick 40 = .ok (.getfield 346, 3) := by decide +kernel
theorem dX6_pick_43 : decode cX6_pick 43 = .ok (.iload_n 1, 1) := by decide +kernel
theorem dX6_pick_44 : decode cX6_pick 44 = .ok (.iaload, 1) := by decide +kernel
theorem dX6_pick_45 : decode cX6_pick 45 = .ok (.goto 4, 3) := by decide +kernel
theorem dX6_pick_48 : decode cX6_pick 48 = .ok (.iconst (-1), 1) := by decide +kernel
theorem dX6_pick_49 : decode cX6_pick 49 = .ok (.ireturn, 1) := by decide +kernel
theorem dX6_opener_0 : decode cX6_opener 0 = .ok (.iload_n 1, 1) := by decide +kernel
theorem dX6_opener_1 : decode cX6_opener 1 = .ok (.ifCond .le 17, 3) := by decide +kernel
theorem dX6_opener_4 : decode cX6_opener 4 = .ok (.iload_n 1, 1) := by decide +kernel
theorem dX6_opener_5 : decode cX6_opener 5 = .ok (.bipush 64, 2) := by decide +kernel
theorem dX6_opener_7 : decode cX6_opener 7 = .ok (.if_icmp .ge 11, 3) := by decide +kernel
theorem dX6_opener_10 : decode cX6_opener 10 = .ok (.aload_n 0, 1) := by decide +kernel
theorem dX6_opener_11 : decode cX6_opener 11 = .ok (.iload_n 1, 1) := by decide +kernel
theorem dX6_opener_12 : decode cX6_opener 12 = .ok (.invokevirtual 349, 3) := by decide +kernel
theorem dX6_opener_15 : decode cX6_opener 15 = .ok (.ifCond .ne 14, 3) := by decide +kernel
theorem dX6_opener_18 : decode cX6_opener 18 = .ok (.new 57, 3) := by decide +kernel
theorem dX6_opener_21 : decode cX6_opener 21 = .ok (.dup, 1) := by decide +kernel
theorem dX6_opener_22 : decode cX6_opener 22 = .ok (.ldc_w 352, 3) := by decide +kernel
theorem dX6_opener_25 : decode cX6_opener 25 = .ok (.invokespecial 61, 3) := by decide +kernel
theorem dX6_opener_28 : decode cX6_opener 28 = .ok (.athrow, 1) := by decide +kernel
theorem dX6_opener_29 : decode cX6_opener 29 = .ok (.iconst (-1), 1) := by decide +kernel
theorem dX6_opener_30 : decode cX6_opener 30 = .ok (.istore_n 2, 1) := by decide +kernel
theorem dX6_opener_31 : decode cX6_opener 31 = .ok (.bipush 9, 2) := by decide +kernel
theorem dX6_opener_33 : decode cX6_opener 33 = .ok (.istore_n 3, 1) := by decide +kernel
theorem dX6_opener_34 : decode cX6_opener 34 = .ok (.iconst 0, 1) := by decide +kernel
theorem dX6_opener_35 : decode cX6_opener 35 = .ok (.istore 4, 2) := by decide +kernel
theorem dX6_opener_37 : decode cX6_opener 37 = .ok (.iload 4, 2) := by decide +kernel
theorem dX6_opener_39 : decode cX6_opener 39 = .ok (.bipush 81, 2) := by decide +kernel
theorem dX6_opener_41 : decode cX6_opener 41 = .ok (.if_icmp .ge 56, 3) := by decide +kernel
theorem dX6_opener_44 : decode cX6_opener 44 = .ok (.aload_n 0, 1) := by decide +kernel
theorem dX6_opener_45 : decode cX6_opener 45 = .ok (.getfield 37, 3) := by decide +kernel
theorem dX6_opener_48 : decode cX6_opener 48 = .ok (.getfield 240, 3) := by decide +kernel
theorem dX6_opener_51 : decode cX6_opener 51 = .ok (.iload 4, 2) := by decide +kernel
theorem dX6_opener_53 : decode cX6_opener 53 = .ok (.iaload, 1) := by decide +kernel
theorem dX6_opener_54 : decode cX6_opener 54 = .ok (.iload_n 3, 1) := by decide +kernel
theorem dX6_opener_55 : decode cX6_opener 55 = .ok (.if_icmp .ge 36, 3) := by decide +kernel
theorem dX6_opener_58 : decode cX6_opener 58 = .ok (.aload_n 0, 1) := by decide +kernel
theorem dX6_opener_59 : decode cX6_opener 59 = .ok (.iload 4, 2) := by decide +kernel
theorem dX6_opener_61 : decode cX6_opener 61 = .ok (.invokevirtual 282, 3) := by decide +kernel
theorem dX6_opener_64 : decode cX6_opener 64 = .ok (.ifCond .eq 27, 3) := by decide +kernel
theorem dX6_opener_67 : decode cX6_opener 67 = .ok (.aload_n 0, 1) := by decide +kernel
theorem dX6_opener_68 : decode cX6_opener 68 = .ok (.iload 4, 2) := by decide +kernel
theorem dX6_opener_70 : decode cX6_opener 70 = .ok (.iload_n 1, 1) := by decide +kernel
theorem dX6_opener_71 : decode cX6_opener 71 = .ok (.invokevirtual 354, 3) := by decide +kernel
theorem dX6_opener_74 : decode cX6_opener 74 = .ok (.ifCond .eq 17, 3) := by decide +kernel
theorem dX6_opener_77 : decode cX6_opener 77 = .ok (.iload 4, 2) := by decide +kernel
theorem dX6_opener_79 : decode cX6_opener 79 = .ok (.istore_n 2, 1) := by decide +kernel
theorem dX6_opener_80 : decode cX6_opener 80 = .ok (.aload_n 0, 1) := by decide +kernel
theorem dX6_opener_81 : decode cX6_opener 81 = .ok (.getfield 37, 3) := by decide +kernel
theorem dX6_opener_84 : decode cX6_opener 84 = .ok (.getfield 240, 3) := by decide +kernel
theorem dX6_opener_87 : decode cX6_opener 87 = .ok (.iload 4, 2) := by decide +kernel
theorem dX6_opener_89 : decode cX6_opener 89 = .ok (.iaload, 1) := by decide +kernel
theorem dX6_opener_90 : decode cX6_opener 90 = .ok (.istore_n 3, 1) := by decide +kernel
theorem dX6_opener_91 : decode cX6_opener 91 = .ok (.iinc 4 1, 3) := by decide +kernel
theorem dX6_opener_94 : decode cX6_opener 94 = .ok (.goto (-57), 3) := by decide +kernel
theorem dX6_opener_97 : decode cX6_opener 97 = .ok (.iload_n 2, 1) := by decide +kernel
theorem dX6_opener_98 : decode cX6_opener 98 = .ok (.ireturn, 1) := by decide +kernel
theorem dX6_freeShare_0 : decode cX6_freeShare 0 = .ok (.aload_n 0, 1) := by decide +kernel
theorem dX6_freeShare_1 : decode cX6_freeShare 1 = .ok (.invokevirtual 325, 3) := by decide +kernel
theorem dX6_freeShare_4 : decode cX6_freeShare 4 = .ok (.istore_n 1, 1) := by decide +kernel
theorem dX6_freeShare_5 : decode cX6_freeShare 5 = .ok (.iload_n 1, 1) := by decide +kernel
theorem dX6_freeShare_6 : decode cX6_freeShare 6 = .ok (.ifCond .le 14, 3) := by decide +kernel
theorem dX6_freeShare_9 : decode cX6_freeShare 9 = .ok (.aload_n 0, 1) := by decide +kernel
theorem dX6_freeShare_10 : decode cX6_freeShare 10 = .ok (.invokevirtual 328, 3) := by decide +kernel
theorem dX6_freeShare_13 : decode cX6_freeShare 13 = .ok (.i2d, 1) := by decide +kernel
theorem dX6_freeShare_14 : decode cX6_freeShare 14 = .ok (.iload_n 1, 1) := by decide +kernel
theorem dX6_freeShare_15 : decode cX6_freeShare 15 = .ok (.i2d, 1) := by decide +kernel
theorem dX6_freeShare_16 : decode cX6_freeShare 16 = .ok (.ddiv, 1) := by decide +kernel
theorem dX6_freeShare_17 : decode cX6_freeShare 17 = .ok (.goto 4, 3) := by decide +kernel
theorem dX6_freeShare_20 : decode cX6_freeShare 20 = .ok (.dconst 0, 1) := by decide +kernel
theorem dX6_freeShare_21 : decode cX6_freeShare 21 = .ok (.dreturn, 1) := by decide +kernel
theorem dX6_isCode_0 : decode cX6_isCode 0 = .ok (.iload_n 0, 1) := by decide +kernel
theorem dX6_isCode_1 : decode cX6_isCode 1 = .ok (.ifCond .lt 13, 3) := by decide +kernel
theorem dX6_isCode_4 : decode cX6_isCode 4 = .ok (.iload_n 0, 1) := by decide +kernel
theorem dX6_isCode_5 : decode cX6_isCode 5 = .ok (.bipush 81, 2) := by decide +kernel
theorem dX6_isCode_7 : decode cX6_isCode 7 = .ok (.if_icmp .ge 7, 3) := by decide +kernel
theorem dX6_isCode_10 : decode cX6_isCode 10 = .ok (.iconst 1, 1) := by decide +kernel
theorem dX6_isCode_11 : decode cX6_isCode 11 = .ok (.goto 4, 3) := by decide +kernel
theorem dX6_isCode_14 : decode cX6_isCode 14 = .ok (.iconst 0, 1) := by decide +kernel
theorem dX6_isCode_15 : decode cX6_isCode 15 = .ok (.ireturn, 1) := by decide +kernel
theorem dX6_isPerson_0 : decode cX6_isPerson 0 = .ok (.iload_n 0, 1) := by decide +kernel
theorem dX6_isPerson_1 : decode cX6_isPerson 1 = .ok (.ifCond .lt 12, 3) := by decide +kernel
theorem dX6_isPerson_4 : decode cX6_isPerson 4 = .ok (.iload_n 0, 1) := by decide +kernel
theorem dX6_isPerson_5 : decode cX6_isPerson 5 = .ok (.iconst 4, 1) := by decide +kernel
theorem dX6_isPerson_6 : decode cX6_isPerson 6 = .ok (.if_icmp .ge 7, 3) := by decide +kernel
theorem dX6_isPerson_9 : decode cX6_isPerson 9 = .ok (.iconst 1, 1) := by decide +kernel
theorem dX6_isPerson_10 : decode cX6_isPerson 10 = .ok (.goto 4, 3) := by decide +kernel
theorem dX6_isPerson_13 : decode cX6_isPerson 13 = .ok (.iconst 0, 1) := by decide +kernel
theorem dX6_isPerson_14 : decode cX6_isPerson 14 = .ok (.ireturn, 1) := by decide +kernel
theorem dX6_isNotch_0 : decode cX6_isNotch 0 = .ok (.iload_n 0, 1) := by decide +kernel
theorem dX6_isNotch_1 : decode cX6_isNotch 1 = .ok (.ifCond .lt 12, 3) := by decide +kernel
theorem dX6_isNotch_4 : decode cX6_isNotch 4 = .ok (.iload_n 0, 1) := by decide +kernel
theorem dX6_isNotch_5 : decode cX6_isNotch 5 = .ok (.iconst 4, 1) := by decide +kernel
theorem dX6_isNotch_6 : decode cX6_isNotch 6 = .ok (.if_icmp .ge 7, 3) := by decide +kernel
theorem dX6_isNotch_9 : decode cX6_isNotch 9 = .ok (.iconst 1, 1) := by decide +kernel
theorem dX6_isNotch_10 : decode cX6_isNotch 10 = .ok (.goto 4, 3) := by decide +kernel
theorem dX6_isNotch_13 : decode cX6_isNotch 13 = .ok (.iconst 0, 1) := by decide +kernel
theorem dX6_isNotch_14 : decode cX6_isNotch 14 = .ok (.ireturn, 1) := by decide +kernel
theorem dX6_isPlace_0 : decode cX6_isPlace 0 = .ok (.iload_n 0, 1) := by decide +kernel
theorem dX6_isPlace_1 : decode cX6_isPlace 1 = .ok (.ifCond .lt 13, 3) := by decide +kernel
theorem dX6_isPlace_4 : decode cX6_isPlace 4 = .ok (.iload_n 0, 1) := by decide +kernel
theorem dX6_isPlace_5 : decode cX6_isPlace 5 = .ok (.bipush 6, 2) := by decide +kernel
theorem dX6_isPlace_7 : decode cX6_isPlace 7 = .ok (.if_icmp .ge 7, 3) := by decide +kernel
theorem dX6_isPlace_10 : decode cX6_isPlace 10 = .ok (.iconst 1, 1) := by decide +kernel
theorem dX6_isPlace_11 : decode cX6_isPlace 11 = .ok (.goto 4, 3) := by decide +kernel
theorem dX6_isPlace_14 : decode cX6_isPlace 14 = .ok (.iconst 0, 1) := by decide +kernel
theorem dX6_isPlace_15 : decode cX6_isPlace 15 = .ok (.ireturn, 1) := by decide +kernel
theorem dX6_isSetting_0 : decode cX6_isSetting 0 = .ok (.iload_n 0, 1) := by decide +kernel
theorem dX6_isSetting_1 : decode cX6_isSetting 1 = .ok (.ifCond .lt 12, 3) := by decide +kernel
theorem dX6_isSetting_4 : decode cX6_isSetting 4 = .ok (.iload_n 0, 1) := by decide +kernel
theorem dX6_isSetting_5 : decode cX6_isSetting 5 = .ok (.iconst 4, 1) := by decide +kernel
theorem dX6_isSetting_6 : decode cX6_isSetting 6 = .ok (.if_icmp .ge 7, 3) := by decide +kernel
theorem dX6_isSetting_9 : decode cX6_isSetting 9 = .ok (.iconst 1, 1) := by decide +kernel
theorem dX6_isSetting_10 : decode cX6_isSetting 10 = .ok (.goto 4, 3) := by decide +kernel
theorem dX6_isSetting_13 : decode cX6_isSetting 13 = .ok (.iconst 0, 1) := by decide +kernel
theorem dX6_isSetting_14 : decode cX6_isSetting 14 = .ok (.ireturn, 1) := by decide +kernel
theorem dX6_isKey_0 : decode cX6_isKey 0 = .ok (.iload_n 1, 1) := by decide +kernel
theorem dX6_isKey_1 : decode cX6_isKey 1 = .ok (.ifCond .lt 24, 3) := by decide +kernel
theorem dX6_isKey_4 : decode cX6_isKey 4 = .ok (.iload_n 1, 1) := by decide +kernel
theorem dX6_isKey_5 : decode cX6_isKey 5 = .ok (.aload_n 0, 1) := by decide +kernel
theorem dX6_isKey_6 : decode cX6_isKey 6 = .ok (.getfield 19, 3) := by decide +kernel
theorem dX6_isKey_9 : decode cX6_isKey 9 = .ok (.getfield 80, 3) := by decide +kernel
theorem dX6_isKey_12 : decode cX6_isKey 12 = .ok (.if_icmp .ge 13, 3) := by decide +kernel
theorem dX6_isKey_15 : decode cX6_isKey 15 = .ok (.iload_n 1, 1) := by decide +kernel
theorem dX6_isKey_16 : decode cX6_isKey 16 = .ok (.bipush 12, 2) := by decide +kernel
theorem dX6_isKey_18 : decode cX6_isKey 18 = .ok (.if_icmp .ge 7, 3) := by decide +kernel
theorem dX6_isKey_21 : decode cX6_isKey 21 = .ok (.iconst 1, 1) := by decide +kernel
theorem dX6_isKey_22 : decode cX6_isKey 22 = .ok (.goto 4, 3) := by decide +kernel
theorem dX6_isKey_25 : decode cX6_isKey 25 = .ok (.iconst 0, 1) := by decide +kernel
theorem dX6_isKey_26 : decode cX6_isKey 26 = .ok (.ireturn, 1) := by decide +kernel
theorem dX6_isLock_0 : decode cX6_isLock 0 = .ok (.iload_n 1, 1) := by decide +kernel
theorem dX6_isLock_1 : decode cX6_isLock 1 = .ok (.invokestatic 142, 3) := by decide +kernel
theorem dX6_isLock_4 : decode cX6_isLock 4 = .ok (.ifCond .eq 23, 3) := by decide +kernel
theorem dX6_isLock_7 : decode cX6_isLock 7 = .ok (.aload_n 0, 1) := by decide +kernel
theorem dX6_isLock_8 : decode cX6_isLock 8 = .ok (.getfield 19, 3) := by decide +kernel
theorem dX6_isLock_11 : decode cX6_isLock 11 = .ok (.getfield 149, 3) := by decide +kernel
theorem dX6_isLock_14 : decode cX6_isLock 14 = .ok (.iload_n 1, 1) := by decide +kernel
theorem dX6_isLock_15 : decode cX6_isLock 15 = .ok (.aaload, 1) := by decide +kernel
theorem dX6_isLock_16 : decode cX6_isLock 16 = .ok (.getfield 153, 3) := by decide +kernel
theorem dX6_isLock_19 : decode cX6_isLock 19 = .ok (.iconst (-1), 1) := by decide +kernel
theorem dX6_isLock_20 : decode cX6_isLock 20 = .ok (.if_icmp .eq 7, 3) := by decide +kernel
theorem dX6_isLock_23 : decode cX6_isLock 23 = .ok (.iconst 1, 1) := by decide +kernel
theorem dX6_isLock_24 : decode cX6_isLock 24 = .ok (.goto 4, 3) := by decide +kernel
theorem dX6_isLock_27 : decode cX6_isLock 27 = .ok (.iconst 0, 1) := by decide +kernel
theorem dX6_isLock_28 : decode cX6_isLock 28 = .ok (.ireturn, 1) := by decide +kernel
theorem dX6_save_0 : decode cX6_save 0 = .ok (.aload_n 0, 1) := by decide +kernel
theorem dX6_save_1 : decode cX6_save 1 = .ok (.aload_n 0, 1) := by decide +kernel
theorem dX6_save_2 : decode cX6_save 2 = .ok (.getfield 30, 3) := by decide +kernel
theorem dX6_save_5 : decode cX6_save 5 = .ok (.iconst 5, 1) := by decide +kernel
theorem dX6_save_6 : decode cX6_save 6 = .ok (.if_icmp .ge 12, 3) := by decide +kernel
theorem dX6_save_9 : decode cX6_save 9 = .ok (.aload_n 0, 1) := by decide +kernel
theorem dX6_save_10 : decode cX6_save 10 = .ok (.getfield 30, 3) := by decide +kernel
theorem dX6_save_13 : decode cX6_save 13 = .ok (.iconst 1, 1) := by decide +kernel
theorem dX6_save_14 : decode cX6_save 14 = .ok (.iadd, 1) := by decide +kernel
theorem dX6_save_15 : decode cX6_save 15 = .ok (.goto 4, 3) := by decide +kernel
theorem dX6_save_18 : decode cX6_save 18 = .ok (.iconst 0, 1) := by decide +kernel
theorem dX6_save_19 : decode cX6_save 19 = .ok (.putfield 30, 3) := by decide +kernel
theorem dX6_save_22 : decode cX6_save 22 = .ok (.aload_n 0, 1) := by decide +kernel
theorem dX6_save_23 : decode cX6_save 23 = .ok (.getfield 26, 3) := by decide +kernel
theorem dX6_save_26 : decode cX6_save 26 = .ok (.aload_n 0, 1) := by decide +kernel
theorem dX6_save_27 : decode cX6_save 27 = .ok (.getfield 30, 3) := by decide +kernel
theorem dX6_save_30 : decode cX6_save 30 = .ok (.aaload, 1) := by decide +kernel
theorem dX6_save_31 : decode cX6_save 31 = .ok (.aload_n 0, 1) := by decide +kernel
theorem dX6_save_32 : decode cX6_save 32 = .ok (.getfield 19, 3) := by decide +kernel
theorem dX6_save_35 : decode cX6_save 35 = .ok (.invokevirtual 227, 3) := by decide +kernel
theorem dX6_save_38 : decode cX6_save 38 = .ok (.aload_n 0, 1) := by decide +kernel
theorem dX6_save_39 : decode cX6_save 39 = .ok (.getfield 235, 3) := by decide +kernel
theorem dX6_save_42 : decode cX6_save 42 = .ok (.bipush 6, 2) := by decide +kernel
theorem dX6_save_44 : decode cX6_save 44 = .ok (.if_icmp .ge 13, 3) := by decide +kernel
theorem dX6_save_47 : decode cX6_save 47 = .ok (.aload_n 0, 1) := by decide +kernel
theorem dX6_save_48 : decode cX6_save 48 = .ok (.dup, 1) := by decide +kernel
theorem dX6_save_49 : decode cX6_save 49 = .ok (.getfield 235, 3) := by decide +kernel
theorem dX6_save_52 : decode cX6_save 52 = .ok (.iconst 1, 1) := by decide +kernel
theorem dX6_save_53 : decode cX6_save 53 = .ok (.iadd, 1) := by decide +kernel
theorem dX6_save_54 : decode cX6_save 54 = .ok (.putfield 235, 3) := by decide +kernel
theorem dX6_save_57 : decode cX6_save 57 = .ok (.return_, 1) := by decide +kernel
theorem dX6_addKey_0 : decode cX6_addKey 0 = .ok (.aload_n 0, 1) := by decide +kernel
theorem dX6_addKey_1 : decode cX6_addKey 1 = .ok (.getfield 19, 3) := by decide +kernel
theorem dX6_addKey_4 : decode cX6_addKey 4 = .ok (.getfield 103, 3) := by decide +kernel
theorem dX6_addKey_7 : decode cX6_addKey 7 = .ok (.aload_n 0, 1) := by decide +kernel
theorem dX6_addKey_8 : decode cX6_addKey 8 = .ok (.getfield 19, 3) := by decide +kernel
theorem dX6_addKey_11 : decode cX6_addKey 11 = .ok (.getfield 80, 3) := by decide +kernel
theorem dX6_addKey_14 : decode cX6_addKey 14 = .ok (.aaload, 1) := by decide +kernel
theorem dX6_addKey_15 : decode cX6_addKey 15 = .ok (.iload_n 1, 1) := by decide +kernel
theorem dX6_addKey_16 : decode cX6_addKey 16 = .ok (.iload_n 2, 1) := by decide +kernel
theorem dX6_addKey_17 : decode cX6_addKey 17 = .ok (.invokevirtual 409, 3) := by decide +kernel
theorem dX6_addKey_20 : decode cX6_addKey 20 = .ok (.aload_n 0, 1) := by decide +kernel
theorem dX6_addKey_21 : decode cX6_addKey 21 = .ok (.getfield 19, 3) := by decide +kernel
theorem dX6_addKey_24 : decode cX6_addKey 24 = .ok (.dup, 1) := by decide +kernel
theorem dX6_addKey_25 : decode cX6_addKey 25 = .ok (.getfield 80, 3) := by decide +kernel
theorem dX6_addKey_28 : decode cX6_addKey 28 = .ok (.iconst 1, 1) := by decide +kernel
theorem dX6_addKey_29 : decode cX6_addKey 29 = .ok (.iadd, 1) := by decide +kernel
theorem dX6_addKey_30 : decode cX6_addKey 30 = .ok (.putfield 80, 3) := by decide +kernel
theorem dX6_addKey_33 : decode cX6_addKey 33 = .ok (.aload_n 0, 1) := by decide +kernel
theorem dX6_addKey_34 : decode cX6_addKey 34 = .ok (.getfield 19, 3) := by decide +kernel
theorem dX6_addKey_37 : decode cX6_addKey 37 = .ok (.dup, 1) := by decide +kernel
theorem dX6_addKey_38 : decode cX6_addKey 38 = .ok (.getfield 319, 3) := by decide +kernel
theorem dX6_addKey_41 : decode cX6_addKey 41 = .ok (.aload_n 0, 1) := by decide +kernel
theorem dX6_addKey_42 : decode cX6_addKey 42 = .ok (.getfield 19, 3) := by decide +kernel
theorem dX6_addKey_45 : decode cX6_addKey 45 = .ok (.getfield 194, 3) := by decide +kernel
theorem dX6_addKey_48 : decode cX6_addKey 48 = .ok (.iconst 1, 1) := by decide +kernel
theorem dX6_addKey_49 : decode cX6_addKey 49 = .ok (.iaload, 1) := by decide +kernel
theorem dX6_addKey_50 : decode cX6_addKey 50 = .ok (.aload_n 0, 1) := by decide +kernel
theorem dX6_addKey_51 : decode cX6_addKey 51 = .ok (.getfield 37, 3) := by decide +kernel
theorem dX6_addKey_54 : decode cX6_addKey 54 = .ok (.getfield 240, 3) := by decide +kernel
theorem dX6_addKey_57 : decode cX6_addKey 57 = .ok (.iload_n 1, 1) := by decide +kernel
theorem dX6_addKey_58 : decode cX6_addKey 58 = .ok (.iaload, 1) := by decide +kernel
theorem dX6_addKey_59 : decode cX6_addKey 59 = .ok (.imul, 1) := by decide +kernel
theorem dX6_addKey_60 : decode cX6_addKey 60 = .ok (.iadd, 1) := by decide +kernel
theorem dX6_addKey_61 : decode cX6_addKey 61 = .ok (.putfield 319, 3) := by decide +kernel
theorem dX6_addKey_64 : decode cX6_addKey 64 = .ok (.return_, 1) := by decide +kernel
theorem dX6_cutDeeper_0 : decode cX6_cutDeeper 0 = .ok (.aload_n 0, 1) := by decide +kernel
theorem dX6_cutDeeper_1 : decode cX6_cutDeeper 1 = .ok (.getfield 19, 3) := by decide +kernel
theorem dX6_cutDeeper_4 : decode cX6_cutDeeper 4 = .ok (.getfield 103, 3) := by decide +kernel
theorem dX6_cutDeeper_7 : decode cX6_cutDeeper 7 = .ok (.iload_n 1, 1) := by decide +kernel
theorem dX6_cutDeeper_8 : decode cX6_cutDeeper 8 = .ok (.aaload, 1) := by decide +kernel
theorem dX6_cutDeeper_9 : decode cX6_cutDeeper 9 = .ok (.dup, 1) := by decide +kernel
theorem dX6_cutDeeper_10 : decode cX6_cutDeeper 10 = .ok (.getfield 107, 3) := by decide +kernel
theorem dX6_cutDeeper_13 : decode cX6_cutDeeper 13 = .ok (.getstatic 412, 3) := by decide +kernel
theorem dX6_cutDeeper_16 : decode cX6_cutDeeper 16 = .ok (.iload_n 2, 1) := by decide +kernel
theorem dX6_cutDeeper_17 : decode cX6_cutDeeper 17 = .ok (.iaload, 1) := by decide +kernel
theorem dX6_cutDeeper_18 : decode cX6_cutDeeper 18 = .ok (.iadd, 1) := by decide +kernel
theorem dX6_cutDeeper_19 : decode cX6_cutDeeper 19 = .ok (.putfield 107, 3) := by decide +kernel
theorem dX6_cutDeeper_22 : decode cX6_cutDeeper 22 = .ok (.aload_n 0, 1) := by decide +kernel
theorem dX6_cutDeeper_23 : decode cX6_cutDeeper 23 = .ok (.getfield 19, 3) := by decide +kernel
theorem dX6_cutDeeper_26 : decode cX6_cutDeeper 26 = .ok (.dup, 1) := by decide +kernel
theorem dX6_cutDeeper_27 : decode cX6_cutDeeper 27 = .ok (.getfield 319, 3) := by decide +kernel
theorem dX6_cutDeeper_30 : decode cX6_cutDeeper 30 = .ok (.aload_n 0, 1) := by decide +kernel
theorem dX6_cutDeeper_31 : decode cX6_cutDeeper 31 = .ok (.getfield 19, 3) := by decide +kernel
theorem dX6_cutDeeper_34 : decode cX6_cutDeeper 34 = .ok (.getfield 194, 3) := by decide +kernel
theorem dX6_cutDeeper_37 : decode cX6_cutDeeper 37 = .ok (.iconst 1, 1) := by decide +kernel
theorem dX6_cutDeeper_38 : decode cX6_cutDeeper 38 = .ok (.iaload, 1) := by decide +kernel
theorem dX6_cutDeeper_39 : decode cX6_cutDeeper 39 = .ok (.iadd, 1) := by decide +kernel
theorem dX6_cutDeeper_40 : decode cX6_cutDeeper 40 = .ok (.putfield 319, 3) := by decide +kernel
theorem dX6_cutDeeper_43 : decode cX6_cutDeeper 43 = .ok (.return_, 1) := by decide +kernel
theorem dX6_tryKey_0 : decode cX6_tryKey 0 = .ok (.aload_n 0, 1) := by decide +kernel
theorem dX6_tryKey_1 : decode cX6_tryKey 1 = .ok (.getfield 19, 3) := by decide +kernel
theorem dX6_tryKey_4 : decode cX6_tryKey 4 = .ok (.getfield 103, 3) := by decide +kernel
theorem dX6_tryKey_7 : decode cX6_tryKey 7 = .ok (.iload_n 1, 1) := by decide +kernel
theorem dX6_tryKey_8 : decode cX6_tryKey 8 = .ok (.aaload, 1) := by decide +kernel
theorem dX6_tryKey_9 : decode cX6_tryKey 9 = .ok (.astore_n 3, 1) := by decide +kernel
theorem dX6_tryKey_10 : decode cX6_tryKey 10 = .ok (.aload_n 0, 1) := by decide +kernel
theorem dX6_tryKey_11 : decode cX6_tryKey 11 = .ok (.getfield 19, 3) := by decide +kernel
theorem dX6_tryKey_14 : decode cX6_tryKey 14 = .ok (.getfield 149, 3) := by decide +kernel
theorem dX6_tryKey_17 : decode cX6_tryKey 17 = .ok (.iload_n 2, 1) := by decide +kernel
theorem dX6_tryKey_18 : decode cX6_tryKey 18 = .ok (.aaload, 1) := by decide +kernel
theorem dX6_tryKey_19 : decode cX6_tryKey 19 = .ok (.astore 4, 2) := by decide +kernel
theorem dX6_tryKey_21 : decode cX6_tryKey 21 = .ok (.aload_n 0, 1) := by decide +kernel
theorem dX6_tryKey_22 : decode cX6_tryKey 22 = .ok (.aload_n 3, 1) := by decide +kernel
theorem dX6_tryKey_23 : decode cX6_tryKey 23 = .ok (.getfield 107, 3) := by decide +kernel
theorem dX6_tryKey_26 : decode cX6_tryKey 26 = .ok (.iload_n 2, 1) := by decide +kernel
theorem dX6_tryKey_27 : decode cX6_tryKey 27 = .ok (.invokevirtual 415, 3) := by decide +kernel
theorem dX6_tryKey_30 : decode cX6_tryKey 30 = .ok (.ifCond .ne 29, 3) := by decide +kernel
theorem dX6_tryKey_33 : decode cX6_tryKey 33 = .ok (.aload 4, 2) := by decide +kernel
theorem dX6_tryKey_35 : decode cX6_tryKey 35 = .ok (.dup, 1) := by decide +kernel
theorem dX6_tryKey_36 : decode cX6_tryKey 36 = .ok (.getfield 263, 3) := by decide +kernel
theorem dX6_tryKey_39 : decode cX6_tryKey 39 = .ok (.iconst 1, 1) := by decide +kernel
theorem dX6_tryKey_40 : decode cX6_tryKey 40 = .ok (.iadd, 1) := by decide +kernel
theorem dX6_tryKey_41 : decode cX6_tryKey 41 = .ok (.putfield 263, 3) := by decide +kernel
theorem dX6_tryKey_44 : decode cX6_tryKey 44 = .ok (.aload_n 0, 1) := by decide +kernel
theorem dX6_tryKey_45 : decode cX6_tryKey 45 = .ok (.getfield 19, 3) := by decide +kernel
theorem dX6_tryKey_48 : decode cX6_tryKey 48 = .ok (.dup, 1) := by decide +kernel
theorem dX6_tryKey_49 : decode cX6_tryKey 49 = .ok (.getfield 323, 3) := by decide +kernel
theorem dX6_tryKey_52 : decode cX6_tryKey 52 = .ok (.iconst 1, 1) := by decide +kernel
theorem dX6_tryKey_53 : decode cX6_tryKey 53 = .ok (.iadd, 1) := by decide +kernel
theorem dX6_tryKey_54 : decode cX6_tryKey 54 = .ok (.putfield 323, 3) := by decide +kernel
theorem dX6_tryKey_57 : decode cX6_tryKey 57 = .ok (.iconst 0, 1) := by decide +kernel
theorem dX6_tryKey_58 : decode cX6_tryKey 58 = .ok (.ireturn, 1) := by decide +kernel
theorem dX6_tryKey_59 : decode cX6_tryKey 59 = .ok (.aload_n 3, 1) := by decide +kernel
theorem dX6_tryKey_60 : decode cX6_tryKey 60 = .ok (.dup, 1) := by decide +kernel
theorem dX6_tryKey_61 : decode cX6_tryKey 61 = .ok (.getfield 246, 3) := by decide +kernel
theorem dX6_tryKey_64 : decode cX6_tryKey 64 = .ok (.iconst 1, 1) := by decide +kernel
theorem dX6_tryKey_65 : decode cX6_tryKey 65 = .ok (.iadd, 1) := by decide +kernel
theorem dX6_tryKey_66 : decode cX6_tryKey 66 = .ok (.putfield 246, 3) := by decide +kernel
theorem dX6_tryKey_69 : decode cX6_tryKey 69 = .ok (.aload 4, 2) := by decide +kernel
theorem dX6_tryKey_71 : decode cX6_tryKey 71 = .ok (.dup, 1) := by decide +kernel
theorem dX6_tryKey_72 : decode cX6_tryKey 72 = .ok (.getfield 262, 3) := by decide +kernel
theorem dX6_tryKey_75 : decode cX6_tryKey 75 = .ok (.iconst 1, 1) := by decide +kernel
theorem dX6_tryKey_76 : decode cX6_tryKey 76 = .ok (.iadd, 1) := by decide +kernel
theorem dX6_tryKey_77 : decode cX6_tryKey 77 = .ok (.putfield 262, 3) := by decide +kernel
theorem dX6_tryKey_80 : decode cX6_tryKey 80 = .ok (.aload_n 0, 1) := by decide +kernel
theorem dX6_tryKey_81 : decode cX6_tryKey 81 = .ok (.getfield 19, 3) := by decide +kernel
theorem dX6_tryKey_84 : decode cX6_tryKey 84 = .ok (.dup, 1) := by decide +kernel
theorem dX6_tryKey_85 : decode cX6_tryKey 85 = .ok (.getfield 322, 3) := by decide +kernel
theorem dX6_tryKey_88 : decode cX6_tryKey 88 = .ok (.iconst 1, 1) := by decide +kernel
theorem dX6_tryKey_89 : decode cX6_tryKey 89 = .ok (.iadd, 1) := by decide +kernel
theorem dX6_tryKey_90 : decode cX6_tryKey 90 = .ok (.putfield 322, 3) := by decide +kernel
theorem dX6_tryKey_93 : decode cX6_tryKey 93 = .ok (.aload_n 3, 1) := by decide +kernel
theorem dX6_tryKey_94 : decode cX6_tryKey 94 = .ok (.getfield 123, 3) := by decide +kernel
theorem dX6_tryKey_97 : decode cX6_tryKey 97 = .ok (.invokestatic 54, 3) := by decide +kernel
theorem dX6_tryKey_100 : decode cX6_tryKey 100 = .ok (.ifCond .eq 19, 3) := by decide +kernel
theorem dX6_tryKey_103 : decode cX6_tryKey 103 = .ok (.aload_n 0, 1) := by decide +kernel
theorem dX6_tryKey_104 : decode cX6_tryKey 104 = .ok (.getfield 19, 3) := by decide +kernel
theorem dX6_tryKey_107 : decode cX6_tryKey 107 = .ok (.getfield 277, 3) := by decide +kernel
theorem dX6_tryKey_110 : decode cX6_tryKey 110 = .ok (.aload_n 3, 1) := by decide +kernel
theorem dX6_tryKey_111 : decode cX6_tryKey 111 = .ok (.getfield 123, 3) := by decide +kernel
theorem dX6_tryKey_114 : decode cX6_tryKey 114 = .ok (.dup2, 1) := by decide +kernel
theorem dX6_tryKey_115 : decode cX6_tryKey 115 = .ok (.iaload, 1) := by decide +kernel
theorem dX6_tryKey_116 : decode cX6_tryKey 116 = .ok (.iconst 1, 1) := by decide +kernel
theorem dX6_tryKey_117 : decode cX6_tryKey 117 = .ok (.iadd, 1) := by decide +kernel
theorem dX6_tryKey_118 : decode cX6_tryKey 118 = .ok (.iastore, 1) := by decide +kernel
theorem dX6_tryKey_119 : decode cX6_tryKey 119 = .ok (.aload_n 0, 1) := by decide +kernel
theorem dX6_tryKey_120 : decode cX6_tryKey 120 = .ok (.aload_n 3, 1) := by decide +kernel
theorem dX6_tryKey_121 : decode cX6_tryKey 121 = .ok (.getfield 107, 3) := by decide +kernel
theorem dX6_tryKey_124 : decode cX6_tryKey 124 = .ok (.aload_n 3, 1) := by decide +kernel
theorem dX6_tryKey_125 : decode cX6_tryKey 125 = .ok (.getfield 246, 3) := by decide +kernel
theorem dX6_tryKey_128 : decode cX6_tryKey 128 = .ok (.invokevirtual 359, 3) := by decide +kernel
theorem dX6_tryKey_131 : decode cX6_tryKey 131 = .ok (.istore 5, 2) := by decide +kernel
theorem dX6_tryKey_133 : decode cX6_tryKey 133 = .ok (.iload 5, 2) := by decide +kernel
theorem dX6_tryKey_135 : decode cX6_tryKey 135 = .ok (.aload_n 3, 1) := by decide +kernel
theorem dX6_tryKey_136 : decode cX6_tryKey 136 = .ok (.getfield 107, 3) := by decide +kernel
theorem dX6_tryKey_139 : decode cX6_tryKey 139 = .ok (.if_icmp .eq 32, 3) := by decide +kernel
theorem dX6_tryKey_142 : decode cX6_tryKey 142 = .ok (.aload_n 3, 1) := by decide +kernel
theorem dX6_tryKey_143 : decode cX6_tryKey 143 = .ok (.iload 5, 2) := by decide +kernel
theorem dX6_tryKey_145 : decode cX6_tryKey 145 = .ok (.putfield 107, 3) := by decide +kernel
theorem dX6_tryKey_148 : decode cX6_tryKey 148 = .ok (.aload_n 3, 1) := by decide +kernel
theorem dX6_tryKey_149 : decode cX6_tryKey 149 = .ok (.dup, 1) := by decide +kernel
theorem dX6_tryKey_150 : decode cX6_tryKey 150 = .ok (.getfield 255, 3) := by decide +kernel
theorem dX6_tryKey_153 : decode cX6_tryKey 153 = .ok (.iconst 1, 1) := by decide +kernel
theorem dX6_tryKey_154 : decode cX6_tryKey 154 = .ok (.iadd, 1) := by decide +kernel
theorem dX6_tryKey_155 : decode cX6_tryKey 155 = .ok (.putfield 255, 3) := by decide +kernel
theorem dX6_tryKey_158 : decode cX6_tryKey 158 = .ok (.aload_n 0, 1) := by decide +kernel
theorem dX6_tryKey_159 : decode cX6_tryKey 159 = .ok (.getfield 19, 3) := by decide +kernel
theorem dX6_tryKey_162 : decode cX6_tryKey 162 = .ok (.dup, 1) := by decide +kernel
theorem dX6_tryKey_163 : decode cX6_tryKey 163 = .ok (.getfield 324, 3) := by decide +kernel
theorem dX6_tryKey_166 : decode cX6_tryKey 166 = .ok (.iconst 1, 1) := by decide +kernel
theorem dX6_tryKey_167 : decode cX6_tryKey 167 = .ok (.iadd, 1) := by decide +kernel
theorem dX6_tryKey_168 : decode cX6_tryKey 168 = .ok (.putfield 324, 3) := by decide +kernel
theorem dX6_tryKey_171 : decode cX6_tryKey 171 = .ok (.iconst 1, 1) := by decide +kernel
theorem dX6_tryKey_172 : decode cX6_tryKey 172 = .ok (.ireturn, 1) := by decide +kernel
theorem dX6_codeBehindUse_0 : decode cX6_codeBehindUse 0 = .ok (.aload_n 0, 1) := by decide +kernel
theorem dX6_codeBehindUse_1 : decode cX6_codeBehindUse 1 = .ok (.getfield 19, 3) := by decide +kernel
theorem dX6_codeBehindUse_4 : decode cX6_codeBehindUse 4 = .ok (.getfield 194, 3) := by decide +kernel
theorem dX6_codeBehindUse_7 : decode cX6_codeBehindUse 7 = .ok (.iconst 2, 1) := by decide +kernel
theorem dX6_codeBehindUse_8 : decode cX6_codeBehindUse 8 = .ok (.iaload, 1) := by decide +kernel
theorem dX6_codeBehindUse_9 : decode cX6_codeBehindUse 9 = .ok (.istore_n 3, 1) := by decide +kernel
theorem dX6_codeBehindUse_10 : decode cX6_codeBehindUse 10 = .ok (.iload_n 3, 1) := by decide +kernel
theorem dX6_codeBehindUse_11 : decode cX6_codeBehindUse 11 = .ok (.ifCond .le 9, 3) := by decide +kernel
theorem dX6_codeBehindUse_14 : decode cX6_codeBehindUse 14 = .ok (.iload_n 2, 1) := by decide +kernel
theorem dX6_codeBehindUse_15 : decode cX6_codeBehindUse 15 = .ok (.iload_n 3, 1) := by decide +kernel
theorem dX6_codeBehindUse_16 : decode cX6_codeBehindUse 16 = .ok (.irem, 1) := by decide +kernel
theorem dX6_codeBehindUse_17 : decode cX6_codeBehindUse 17 = .ok (.ifCond .eq 5, 3) := by decide +kernel
theorem dX6_codeBehindUse_20 : decode cX6_codeBehindUse 20 = .ok (.iload_n 1, 1) := by decide +kernel
theorem dX6_codeBehindUse_21 : decode cX6_codeBehindUse 21 = .ok (.ireturn, 1) := by decide +kernel
theorem dX6_codeBehindUse_22 : decode cX6_codeBehindUse 22 = .ok (.aload_n 0, 1) := by decide +kernel
theorem dX6_codeBehindUse_23 : decode cX6_codeBehindUse 23 = .ok (.getfield 37, 3) := by decide +kernel
theorem dX6_codeBehindUse_26 : decode cX6_codeBehindUse 26 = .ok (.getfield 418, 3) := by decide +kernel
theorem dX6_codeBehindUse_29 : decode cX6_codeBehindUse 29 = .ok (.iload_n 1, 1) := by decide +kernel
theorem dX6_codeBehindUse_30 : decode cX6_codeBehindUse 30 = .ok (.iaload, 1) := by decide +kernel
theorem dX6_codeBehindUse_31 : decode cX6_codeBehindUse 31 = .ok (.ireturn, 1) := by decide +kernel
theorem dX6_isSound_0 : decode cX6_isSound 0 = .ok (.aload_n 0, 1) := by decide +kernel
theorem dX6_isSound_1 : decode cX6_isSound 1 = .ok (.getfield 37, 3) := by decide +kernel
theorem dX6_isSound_4 : decode cX6_isSound 4 = .ok (.getfield 455, 3) := by decide +kernel
theorem dX6_isSound_7 : decode cX6_isSound 7 = .ok (.iload_n 1, 1) := by decide +kernel
theorem dX6_isSound_8 : decode cX6_isSound 8 = .ok (.iaload, 1) := by decide +kernel
theorem dX6_isSound_9 : decode cX6_isSound 9 = .ok (.aload_n 0, 1) := by decide +kernel
theorem dX6_isSound_10 : decode cX6_isSound 10 = .ok (.getfield 19, 3) := by decide +kernel
theorem dX6_isSound_13 : decode cX6_isSound 13 = .ok (.getfield 194, 3) := by decide +kernel
theorem dX6_isSound_16 : decode cX6_isSound 16 = .ok (.iconst 0, 1) := by decide +kernel
theorem dX6_isSound_17 : decode cX6_isSound 17 = .ok (.iaload, 1) := by decide +kernel
theorem dX6_isSound_18 : decode cX6_isSound 18 = .ok (.if_icmp .gt 7, 3) := by decide +kernel
theorem dX6_isSound_21 : decode cX6_isSound 21 = .ok (.iconst 1, 1) := by decide +kernel
theorem dX6_isSound_22 : decode cX6_isSound 22 = .ok (.goto 4, 3) := by decide +kernel
theorem dX6_isSound_25 : decode cX6_isSound 25 = .ok (.iconst 0, 1) := by decide +kernel
theorem dX6_isSound_26 : decode cX6_isSound 26 = .ok (.ireturn, 1) := by decide +kernel
theorem dX6_isFree_0 : decode cX6_isFree 0 = .ok (.aload_n 0, 1) := by decide +kernel
theorem dX6_isFree_1 : decode cX6_isFree 1 = .ok (.iload_n 1, 1) := by decide +kernel
theorem dX6_isFree_2 : decode cX6_isFree 2 = .ok (.invokevirtual 282, 3) := by decide +kernel
theorem dX6_isFree_5 : decode cX6_isFree 5 = .ok (.ifCond .eq 16, 3) := by decide +kernel
theorem dX6_isFree_8 : decode cX6_isFree 8 = .ok (.aload_n 0, 1) := by decide +kernel
theorem dX6_isFree_9 : decode cX6_isFree 9 = .ok (.iload_n 1, 1) := by decide +kernel
theorem dX6_isFree_10 : decode cX6_isFree 10 = .ok (.iconst (-1), 1) := by decide +kernel
theorem dX6_isFree_11 : decode cX6_isFree 11 = .ok (.invokevirtual 458, 3) := by decide +kernel
theorem dX6_isFree_14 : decode cX6_isFree 14 = .ok (.ifCond .ne 7, 3) := by decide +kernel
theorem dX6_isFree_17 : decode cX6_isFree 17 = .ok (.iconst 1, 1) := by decide +kernel
theorem dX6_isFree_18 : decode cX6_isFree 18 = .ok (.goto 4, 3) := by decide +kernel
theorem dX6_isFree_21 : decode cX6_isFree 21 = .ok (.iconst 0, 1) := by decide +kernel
theorem dX6_isFree_22 : decode cX6_isFree 22 = .ok (.ireturn, 1) := by decide +kernel
theorem dX6_reasonAgainstCut_0 : decode cX6_reasonAgainstCut 0 = .ok (.aload_n 0, 1) := by decide +kernel
theorem dX6_reasonAgainstCut_1 : decode cX6_reasonAgainstCut 1 = .ok (.iload_n 1, 1) := by decide +kernel
theorem dX6_reasonAgainstCut_2 : decode cX6_reasonAgainstCut 2 = .ok (.invokevirtual 282, 3) := by decide +kernel
theorem dX6_reasonAgainstCut_5 : decode cX6_reasonAgainstCut 5 = .ok (.ifCond .ne 5, 3) := by decide +kernel
theorem dX6_reasonAgainstCut_8 : decode cX6_reasonAgainstCut 8 = .ok (.iconst 1, 1) := by decide +kernel
theorem dX6_reasonAgainstCut_9 : decode cX6_reasonAgainstCut 9 = .ok (.ireturn, 1) := by decide +kernel
theorem dX6_reasonAgainstCut_10 : decode cX6_reasonAgainstCut 10 = .ok (.aload_n 0, 1) := by decide +kernel
theorem dX6_reasonAgainstCut_11 : decode cX6_reasonAgainstCut 11 = .ok (.getfield 19, 3) := by decide +kernel
theorem dX6_reasonAgainstCut_14 : decode cX6_reasonAgainstCut 14 = .ok (.getfield 80, 3) := by decide +kernel
theorem dX6_reasonAgainstCut_17 : decode cX6_reasonAgainstCut 17 = .ok (.bipush 12, 2) := by decide +kernel
theorem dX6_reasonAgainstCut_19 : decode cX6_reasonAgainstCut 19 = .ok (.if_icmp .lt 5, 3) := by decide +kernel
theorem dX6_reasonAgainstCut_22 : decode cX6_reasonAgainstCut 22 = .ok (.iconst 2, 1) := by decide +kernel
theorem dX6_reasonAgainstCut_23 : decode cX6_reasonAgainstCut 23 = .ok (.ireturn, 1) := by decide +kernel
theorem dX6_reasonAgainstCut_24 : decode cX6_reasonAgainstCut 24 = .ok (.aload_n 0, 1) := by decide +kernel
theorem dX6_reasonAgainstCut_25 : decode cX6_reasonAgainstCut 25 = .ok (.iload_n 1, 1) := by decide +kernel
theorem dX6_reasonAgainstCut_26 : decode cX6_reasonAgainstCut 26 = .ok (.iconst (-1), 1) := by decide +kernel
theorem dX6_reasonAgainstCut_27 : decode cX6_reasonAgainstCut 27 = .ok (.invokevirtual 458, 3) := by decide +kernel
theorem dX6_reasonAgainstCut_30 : decode cX6_reasonAgainstCut 30 = .ok (.ireturn, 1) := by decide +kernel
theorem dX6_reasonAgainstDeeper_0 : decode cX6_reasonAgainstDeeper 0 = .ok (.aload_n 0, 1) := by decide +kernel
theorem dX6_reasonAgainstDeeper_1 : decode cX6_reasonAgainstDeeper 1 = .ok (.getfield 19, 3) := by decide +kernel
theorem dX6_reasonAgainstDeeper_4 : decode cX6_reasonAgainstDeeper 4 = .ok (.getfield 103, 3) := by decide +kernel
theorem dX6_reasonAgainstDeeper_7 : decode cX6_reasonAgainstDeeper 7 = .ok (.iload_n 1, 1) := by decide +kernel
theorem dX6_reasonAgainstDeeper_8 : decode cX6_reasonAgainstDeeper 8 = .ok (.aaload, 1) := by decide +kernel
theorem dX6_reasonAgainstDeeper_9 : decode cX6_reasonAgainstDeeper 9 = .ok (.getfield 107, 3) := by decide +kernel
theorem dX6_reasonAgainstDeeper_12 : decode cX6_reasonAgainstDeeper 12 = .ok (.istore_n 3, 1) := by decide +kernel
theorem dX6_reasonAgainstDeeper_13 : decode cX6_reasonAgainstDeeper 13 = .ok (.iload_n 3, 1) := by decide +kernel
theorem dX6_reasonAgainstDeeper_14 : decode cX6_reasonAgainstDeeper 14 = .ok (.iload_n 2, 1) := by decide +kernel
theorem dX6_reasonAgainstDeeper_15 : decode cX6_reasonAgainstDeeper 15 = .ok (.invokestatic 461, 3) := by decide +kernel
theorem dX6_reasonAgainstDeeper_18 : decode cX6_reasonAgainstDeeper 18 = .ok (.iconst 2, 1) := by decide +kernel
theorem dX6_reasonAgainstDeeper_19 : decode cX6_reasonAgainstDeeper 19 = .ok (.if_icmp .lt 6, 3) := by decide +kernel
theorem dX6_reasonAgainstDeeper_22 : decode cX6_reasonAgainstDeeper 22 = .ok (.bipush 6, 2) := by decide +kernel
theorem dX6_reasonAgainstDeeper_24 : decode cX6_reasonAgainstDeeper 24 = .ok (.ireturn, 1) := by decide +kernel
theorem dX6_reasonAgainstDeeper_25 : decode cX6_reasonAgainstDeeper 25 = .ok (.iload_n 3, 1) := by decide +kernel
theorem dX6_reasonAgainstDeeper_26 : decode cX6_reasonAgainstDeeper 26 = .ok (.getstatic 412, 3) := by decide +kernel
theorem dX6_reasonAgainstDeeper_29 : decode cX6_reasonAgainstDeeper 29 = .ok (.iload_n 2, 1) := by decide +kernel
theorem dX6_reasonAgainstDeeper_30 : decode cX6_reasonAgainstDeeper 30 = .ok (.iaload, 1) := by decide +kernel
theorem dX6_reasonAgainstDeeper_31 : decode cX6_reasonAgainstDeeper 31 = .ok (.iadd, 1) := by decide +kernel
theorem dX6_reasonAgainstDeeper_32 : decode cX6_reasonAgainstDeeper 32 = .ok (.istore 4, 2) := by decide +kernel
theorem dX6_reasonAgainstDeeper_34 : decode cX6_reasonAgainstDeeper 34 = .ok (.aload_n 0, 1) := by decide +kernel
theorem dX6_reasonAgainstDeeper_35 : decode cX6_reasonAgainstDeeper 35 = .ok (.iload 4, 2) := by decide +kernel
theorem dX6_reasonAgainstDeeper_37 : decode cX6_reasonAgainstDeeper 37 = .ok (.invokevirtual 282, 3) := by decide +kernel
theorem dX6_reasonAgainstDeeper_40 : decode cX6_reasonAgainstDeeper 40 = .ok (.ifCond .ne 5, 3) := by decide +kernel
theorem dX6_reasonAgainstDeeper_43 : decode cX6_reasonAgainstDeeper 43 = .ok (.iconst 1, 1) := by decide +kernel
theorem dX6_reasonAgainstDeeper_44 : decode cX6_reasonAgainstDeeper 44 = .ok (.ireturn, 1) := by decide +kernel
theorem dX6_reasonAgainstDeeper_45 : decode cX6_reasonAgainstDeeper 45 = .ok (.aload_n 0, 1) := by decide +kernel
theorem dX6_reasonAgainstDeeper_46 : decode cX6_reasonAgainstDeeper 46 = .ok (.iload 4, 2) := by decide +kernel
theorem dX6_reasonAgainstDeeper_48 : decode cX6_reasonAgainstDeeper 48 = .ok (.iload_n 1, 1) := by decide +kernel
theorem dX6_reasonAgainstDeeper_49 : decode cX6_reasonAgainstDeeper 49 = .ok (.invokevirtual 458, 3) := by decide +kernel
theorem dX6_reasonAgainstDeeper_52 : decode cX6_reasonAgainstDeeper 52 = .ok (.ireturn, 1) := by decide +kernel
theorem dX6_reasonByKeys_0 : decode cX6_reasonByKeys 0 = .ok (.aload_n 0, 1) := by decide +kernel
theorem dX6_reasonByKeys_1 : decode cX6_reasonByKeys 1 = .ok (.getfield 19, 3) := by decide +kernel
theorem dX6_reasonByKeys_4 : decode cX6_reasonByKeys 4 = .ok (.getfield 194, 3) := by decide +kernel
theorem dX6_reasonByKeys_7 : decode cX6_reasonByKeys 7 = .ok (.iconst 3, 1) := by decide +kernel
theorem dX6_reasonByKeys_8 : decode cX6_reasonByKeys 8 = .ok (.iaload, 1) := by decide +kernel
theorem dX6_reasonByKeys_9 : decode cX6_reasonByKeys 9 = .ok (.ifCond .eq 7, 3) := by decide +kernel
theorem dX6_reasonByKeys_12 : decode cX6_reasonByKeys 12 = .ok (.iconst 1, 1) := by decide +kernel
theorem dX6_reasonByKeys_13 : decode cX6_reasonByKeys 13 = .ok (.goto 4, 3) := by decide +kernel
theorem dX6_reasonByKeys_16 : decode cX6_reasonByKeys 16 = .ok (.iconst 0, 1) := by decide +kernel
theorem dX6_reasonByKeys_17 : decode cX6_reasonByKeys 17 = .ok (.istore_n 3, 1) := by decide +kernel
theorem dX6_reasonByKeys_18 : decode cX6_reasonByKeys 18 = .ok (.iconst 0, 1) := by decide +kernel
theorem dX6_reasonByKeys_19 : decode cX6_reasonByKeys 19 = .ok (.istore 4, 2) := by decide +kernel
theorem dX6_reasonByKeys_21 : decode cX6_reasonByKeys 21 = .ok (.iconst 0, 1) := by decide +kernel
theorem dX6_reasonByKeys_22 : decode cX6_reasonByKeys 22 = .ok (.istore 5, 2) := by decide +kernel
theorem dX6_reasonByKeys_24 : decode cX6_reasonByKeys 24 = .ok (.iconst 0, 1) := by decide +kernel
theorem dX6_reasonByKeys_25 : decode cX6_reasonByKeys 25 = .ok (.istore 6, 2) := by decide +kernel
theorem dX6_reasonByKeys_27 : decode cX6_reasonByKeys 27 = .ok (.iconst 0, 1) := by decide +kernel
theorem dX6_reasonByKeys_28 : decode cX6_reasonByKeys 28 = .ok (.istore 7, 2) := by decide +kernel
theorem dX6_reasonByKeys_30 : decode cX6_reasonByKeys 30 = .ok (.iload 7, 2) := by decide +kernel
theorem dX6_reasonByKeys_32 : decode cX6_reasonByKeys 32 = .ok (.aload_n 0, 1) := by decide +kernel
theorem dX6_reasonByKeys_33 : decode cX6_reasonByKeys 33 = .ok (.getfield 19, 3) := by decide +kernel
theorem dX6_reasonByKeys_36 : decode cX6_reasonByKeys 36 = .ok (.getfield 80, 3) := by decide +kernel
theorem dX6_reasonByKeys_39 : decode cX6_reasonByKeys 39 = .ok (.if_icmp .ge 123, 3) := by decide +kernel
theorem dX6_reasonByKeys_42 : decode cX6_reasonByKeys 42 = .ok (.iload 7, 2) := by decide +kernel
theorem dX6_reasonByKeys_44 : decode cX6_reasonByKeys 44 = .ok (.bipush 12, 2) := by decide +kernel
theorem dX6_reasonByKeys_46 : decode cX6_reasonByKeys 46 = .ok (.if_icmp .ge 116, 3) := by decide +kernel
theorem dX6_reasonByKeys_49 : decode cX6_reasonByKeys 49 = .ok (.aload_n 0, 1) := by decide +kernel
theorem dX6_reasonByKeys_50 : decode cX6_reasonByKeys 50 = .ok (.getfield 19, 3) := by decide +kernel
theorem dX6_reasonByKeys_53 : decode cX6_reasonByKeys 53 = .ok (.getfield 103, 3) := by decide +kernel
theorem dX6_reasonByKeys_56 : decode cX6_reasonByKeys 56 = .ok (.iload 7, 2) := by decide +kernel
theorem dX6_reasonByKeys_58 : decode cX6_reasonByKeys 58 = .ok (.aaload, 1) := by decide +kernel
theorem dX6_reasonByKeys_59 : decode cX6_reasonByKeys 59 = .ok (.astore 8, 2) := by decide +kernel
theorem dX6_reasonByKeys_61 : decode cX6_reasonByKeys 61 = .ok (.iload 7, 2) := by decide +kernel
theorem dX6_reasonByKeys_63 : decode cX6_reasonByKeys 63 = .ok (.iload_n 2, 1) := by decide +kernel
theorem dX6_reasonByKeys_64 : decode cX6_reasonByKeys 64 = .ok (.if_icmp .eq 92, 3) := by decide +kernel
theorem dX6_reasonByKeys_67 : decode cX6_reasonByKeys 67 = .ok (.iload_n 3, 1) := by decide +kernel
theorem dX6_reasonByKeys_68 : decode cX6_reasonByKeys 68 = .ok (.ifCond .ne 11, 3) := by decide +kernel
theorem dX6_reasonByKeys_71 : decode cX6_reasonByKeys 71 = .ok (.aload 8, 2) := by decide +kernel
theorem dX6_reasonByKeys_73 : decode cX6_reasonByKeys 73 = .ok (.getfield 126, 3) := by decide +kernel
theorem dX6_reasonByKeys_76 : decode cX6_reasonByKeys 76 = .ok (.ifCond .ne 80, 3) := by decide +kernel
theorem dX6_reasonByKeys_79 : decode cX6_reasonByKeys 79 = .ok (.iload 4, 2) := by decide +kernel
theorem dX6_reasonByKeys_81 : decode cX6_reasonByKeys 81 = .ok (.ifCond .ne 12, 3) := by decide +kernel
theorem dX6_reasonByKeys_84 : decode cX6_reasonByKeys 84 = .ok (.iload_n 1, 1) := by decide +kernel
theorem dX6_reasonByKeys_85 : decode cX6_reasonByKeys 85 = .ok (.aload 8, 2) := by decide +kernel
theorem dX6_reasonByKeys_87 : decode cX6_reasonByKeys 87 = .ok (.getfield 107, 3) := by decide +kernel
theorem dX6_reasonByKeys_90 : decode cX6_reasonByKeys 90 = .ok (.if_icmp .ne 7, 3) := by decide +kernel
theorem dX6_reasonByKeys_93 : decode cX6_reasonByKeys 93 = .ok (.iconst 1, 1) := by decide +kernel
theorem dX6_reasonByKeys_94 : decode cX6_reasonByKeys 94 = .ok (.goto 4, 3) := by decide +kernel
theorem dX6_reasonByKeys_97 : decode cX6_reasonByKeys 97 = .ok (.iconst 0, 1) := by decide +kernel
theorem dX6_reasonByKeys_98 : decode cX6_reasonByKeys 98 = .ok (.istore 4, 2) := by decide +kernel
theorem dX6_reasonByKeys_100 : decode cX6_reasonByKeys 100 = .ok (.iload 5, 2) := by decide +kernel
theorem dX6_reasonByKeys_102 : decode cX6_reasonByKeys 102 = .ok (.ifCond .ne 19, 3) := by decide +kernel
theorem dX6_reasonByKeys_105 : decode cX6_reasonByKeys 105 = .ok (.aload_n 0, 1) := by decide +kernel
theorem dX6_reasonByKeys_106 : decode cX6_reasonByKeys 106 = .ok (.getfield 37, 3) := by decide +kernel
theorem dX6_reasonByKeys_109 : decode cX6_reasonByKeys 109 = .ok (.iload_n 1, 1) := by decide +kernel
theorem dX6_reasonByKeys_110 : decode cX6_reasonByKeys 110 = .ok (.aload 8, 2) := by decide +kernel
theorem dX6_reasonByKeys_112 : decode cX6_reasonByKeys 112 = .ok (.getfield 107, 3) := by decide +kernel
theorem dX6_reasonByKeys_115 : decode cX6_reasonByKeys 115 = .ok (.invokevirtual 464, 3) := by decide +kernel
theorem dX6_reasonByKeys_118 : decode cX6_reasonByKeys 118 = .ok (.ifCond .eq 7, 3) := by decide +kernel
theorem dX6_reasonByKeys_121 : decode cX6_reasonByKeys 121 = .ok (.iconst 1, 1) := by decide +kernel
theorem dX6_reasonByKeys_122 : decode cX6_reasonByKeys 122 = .ok (.goto 4, 3) := by decide +kernel
theorem dX6_reasonByKeys_125 : decode cX6_reasonByKeys 125 = .ok (.iconst 0, 1) := by decide +kernel
theorem dX6_reasonByKeys_126 : decode cX6_reasonByKeys 126 = .ok (.istore 5, 2) := by decide +kernel
theorem dX6_reasonByKeys_128 : decode cX6_reasonByKeys 128 = .ok (.iload 6, 2) := by decide +kernel
theorem dX6_reasonByKeys_130 : decode cX6_reasonByKeys 130 = .ok (.ifCond .ne 19, 3) := by decide +kernel
theorem dX6_reasonByKeys_133 : decode cX6_reasonByKeys 133 = .ok (.aload_n 0, 1) := by decide +kernel
theorem dX6_reasonByKeys_134 : decode cX6_reasonByKeys 134 = .ok (.getfield 37, 3) := by decide +kernel
theorem dX6_reasonByKeys_137 : decode cX6_reasonByKeys 137 = .ok (.aload 8, 2) := by decide +kernel
theorem dX6_reasonByKeys_139 : decode cX6_reasonByKeys 139 = .ok (.getfield 107, 3) := by decide +kernel
theorem dX6_reasonByKeys_142 : decode cX6_reasonByKeys 142 = .ok (.iload_n 1, 1) := by decide +kernel
theorem dX6_reasonByKeys_143 : decode cX6_reasonByKeys 143 = .ok (.invokevirtual 464, 3) := by decide +kernel
theorem dX6_reasonByKeys_146 : decode cX6_reasonByKeys 146 = .ok (.ifCond .eq 7, 3) := by decide +kernel
theorem dX6_reasonByKeys_149 : decode cX6_reasonByKeys 149 = .ok (.iconst 1, 1) := by decide +kernel
theorem dX6_reasonByKeys_150 : decode cX6_reasonByKeys 150 = .ok (.goto 4, 3) := by decide +kernel
theorem dX6_reasonByKeys_153 : decode cX6_reasonByKeys 153 = .ok (.iconst 0, 1) := by decide +kernel
theorem dX6_reasonByKeys_154 : decode cX6_reasonByKeys 154 = .ok (.istore 6, 2) := by decide +kernel
theorem dX6_reasonByKeys_156 : decode cX6_reasonByKeys 156 = .ok (.iinc 7 1, 3) := by decide +kernel
theorem dX6_reasonByKeys_159 : decode cX6_reasonByKeys 159 = .ok (.goto (-129), 3) := by decide +kernel
theorem dX6_reasonByKeys_162 : decode cX6_reasonByKeys 162 = .ok (.iload 4, 2) := by decide +kernel
theorem dX6_reasonByKeys_164 : decode cX6_reasonByKeys 164 = .ok (.ifCond .eq 5, 3) := by decide +kernel
theorem dX6_reasonByKeys_167 : decode cX6_reasonByKeys 167 = .ok (.iconst 3, 1) := by decide +kernel
theorem dX6_reasonByKeys_168 : decode cX6_reasonByKeys 168 = .ok (.ireturn, 1) := by decide +kernel
theorem dX6_reasonByKeys_169 : decode cX6_reasonByKeys 169 = .ok (.iload 5, 2) := by decide +kernel
theorem dX6_reasonByKeys_171 : decode cX6_reasonByKeys 171 = .ok (.ifCond .eq 5, 3) := by decide +kernel
theorem dX6_reasonByKeys_174 : decode cX6_reasonByKeys 174 = .ok (.iconst 4, 1) := by decide +kernel
theorem dX6_reasonByKeys_175 : decode cX6_reasonByKeys 175 = .ok (.ireturn, 1) := by decide +kernel
theorem dX6_reasonByKeys_176 : decode cX6_reasonByKeys 176 = .ok (.iload 6, 2) := by decide +kernel
theorem dX6_reasonByKeys_178 : decode cX6_reasonByKeys 178 = .ok (.ifCond .eq 7, 3) := by decide +kernel
theorem dX6_reasonByKeys_181 : decode cX6_reasonByKeys 181 = .ok (.iconst 5, 1) := by decide +kernel
theorem dX6_reasonByKeys_182 : decode cX6_reasonByKeys 182 = .ok (.goto 4, 3) := by decide +kernel
theorem dX6_reasonByKeys_185 : decode cX6_reasonByKeys 185 = .ok (.iconst 0, 1) := by decide +kernel
theorem dX6_reasonByKeys_186 : decode cX6_reasonByKeys 186 = .ok (.ireturn, 1) := by decide +kernel
theorem dX6_opens_0 : decode cX6_opens 0 = .ok (.aload_n 0, 1) := by decide +kernel
theorem dX6_opens_1 : decode cX6_opens 1 = .ok (.getfield 19, 3) := by decide +kernel
theorem dX6_opens_4 : decode cX6_opens 4 = .ok (.getfield 149, 3) := by decide +kernel
theorem dX6_opens_7 : decode cX6_opens 7 = .ok (.iload_n 2, 1) := by decide +kernel
theorem dX6_opens_8 : decode cX6_opens 8 = .ok (.aaload, 1) := by decide +kernel
theorem dX6_opens_9 : decode cX6_opens 9 = .ok (.astore_n 3, 1) := by decide +kernel
theorem dX6_opens_10 : decode cX6_opens 10 = .ok (.aload_n 3, 1) := by decide +kernel
theorem dX6_opens_11 : decode cX6_opens 11 = .ok (.getfield 153, 3) := by decide +kernel
theorem dX6_opens_14 : decode cX6_opens 14 = .ok (.iconst (-1), 1) := by decide +kernel
theorem dX6_opens_15 : decode cX6_opens 15 = .ok (.if_icmp .eq 18, 3) := by decide +kernel
theorem dX6_opens_18 : decode cX6_opens 18 = .ok (.aload_n 0, 1) := by decide +kernel
theorem dX6_opens_19 : decode cX6_opens 19 = .ok (.getfield 37, 3) := by decide +kernel
theorem dX6_opens_22 : decode cX6_opens 22 = .ok (.aload_n 3, 1) := by decide +kernel
theorem dX6_opens_23 : decode cX6_opens 23 = .ok (.getfield 153, 3) := by decide +kernel
theorem dX6_opens_26 : decode cX6_opens 26 = .ok (.iload_n 1, 1) := by decide +kernel
theorem dX6_opens_27 : decode cX6_opens 27 = .ok (.invokevirtual 467, 3) := by decide +kernel
theorem dX6_opens_30 : decode cX6_opens 30 = .ok (.ifCond .ne 26, 3) := by decide +kernel
theorem dX6_opens_33 : decode cX6_opens 33 = .ok (.aload_n 3, 1) := by decide +kernel
theorem dX6_opens_34 : decode cX6_opens 34 = .ok (.getfield 163, 3) := by decide +kernel
theorem dX6_opens_37 : decode cX6_opens 37 = .ok (.iconst (-1), 1) := by decide +kernel
theorem dX6_opens_38 : decode cX6_opens 38 = .ok (.if_icmp .eq 22, 3) := by decide +kernel
theorem dX6_opens_41 : decode cX6_opens 41 = .ok (.aload_n 0, 1) := by decide +kernel
theorem dX6_opens_42 : decode cX6_opens 42 = .ok (.getfield 37, 3) := by decide +kernel
theorem dX6_opens_45 : decode cX6_opens 45 = .ok (.aload_n 3, 1) := by decide +kernel
theorem dX6_opens_46 : decode cX6_opens 46 = .ok (.getfield 163, 3) := by decide +kernel
theorem dX6_opens_49 : decode cX6_opens 49 = .ok (.iload_n 1, 1) := by decide +kernel
theorem dX6_opens_50 : decode cX6_opens 50 = .ok (.invokevirtual 467, 3) := by decide +kernel
theorem dX6_opens_53 : decode cX6_opens 53 = .ok (.ifCond .eq 7, 3) := by decide +kernel
theorem dX6_opens_56 : decode cX6_opens 56 = .ok (.iconst 1, 1) := by decide +kernel
theorem dX6_opens_57 : decode cX6_opens 57 = .ok (.goto 4, 3) := by decide +kernel
theorem dX6_opens_60 : decode cX6_opens 60 = .ok (.iconst 0, 1) := by decide +kernel
theorem dX6_opens_61 : decode cX6_opens 61 = .ok (.ireturn, 1) := by decide +kernel
theorem dX6_opensAll_0 : decode cX6_opensAll 0 = .ok (.iconst 0, 1) := by decide +kernel
theorem dX6_opensAll_1 : decode cX6_opensAll 1 = .ok (.istore_n 3, 1) := by decide +kernel
theorem dX6_opensAll_2 : decode cX6_opensAll 2 = .ok (.iload_n 3, 1) := by decide +kernel
theorem dX6_opensAll_3 : decode cX6_opensAll 3 = .ok (.bipush 6, 2) := by decide +kernel
theorem dX6_opensAll_5 : decode cX6_opensAll 5 = .ok (.if_icmp .ge 29, 3) := by decide +kernel
theorem dX6_opensAll_8 : decode cX6_opensAll 8 = .ok (.iload_n 2, 1) := by decide +kernel
theorem dX6_opensAll_9 : decode cX6_opensAll 9 = .ok (.iload_n 3, 1) := by decide +kernel
theorem dX6_opensAll_10 : decode cX6_opensAll 10 = .ok (.ishr, 1) := by decide +kernel
theorem dX6_opensAll_11 : decode cX6_opensAll 11 = .ok (.iconst 1, 1) := by decide +kernel
theorem dX6_opensAll_12 : decode cX6_opensAll 12 = .ok (.iand, 1) := by decide +kernel
theorem dX6_opensAll_13 : decode cX6_opensAll 13 = .ok (.iconst 1, 1) := by decide +kernel
theorem dX6_opensAll_14 : decode cX6_opensAll 14 = .ok (.if_icmp .ne 14, 3) := by decide +kernel
theorem dX6_opensAll_17 : decode cX6_opensAll 17 = .ok (.aload_n 0, 1) := by decide +kernel
theorem dX6_opensAll_18 : decode cX6_opensAll 18 = .ok (.iload_n 1, 1) := by decide +kernel
theorem dX6_opensAll_19 : decode cX6_opensAll 19 = .ok (.iload_n 3, 1) := by decide +kernel
theorem dX6_opensAll_20 : decode cX6_opensAll 20 = .ok (.invokevirtual 415, 3) := by decide +kernel
theorem dX6_opensAll_23 : decode cX6_opensAll 23 = .ok (.ifCond .ne 5, 3) := by decide +kernel
theorem dX6_opensAll_26 : decode cX6_opensAll 26 = .ok (.iconst 0, 1) := by decide +kernel
theorem dX6_opensAll_27 : decode cX6_opensAll 27 = .ok (.ireturn, 1) := by decide +kernel
theorem dX6_opensAll_28 : decode cX6_opensAll 28 = .ok (.iinc 3 1, 3) := by decide +kernel
theorem dX6_opensAll_31 : decode cX6_opensAll 31 = .ok (.goto (-29), 3) := by decide +kernel
theorem dX6_opensAll_34 : decode cX6_opensAll 34 = .ok (.iconst 1, 1) := by decide +kernel
theorem dX6_opensAll_35 : decode cX6_opensAll 35 = .ok (.ireturn, 1) := by decide +kernel
theorem dX6_hasAllLocks_0 : decode cX6_hasAllLocks 0 = .ok (.iconst 0, 1) := by decide +kernel
theorem dX6_hasAllLocks_1 : decode cX6_hasAllLocks 1 = .ok (.istore_n 2, 1) := by decide +kernel
theorem dX6_hasAllLocks_2 : decode cX6_hasAllLocks 2 = .ok (.iload_n 2, 1) := by decide +kernel
theorem dX6_hasAllLocks_3 : decode cX6_hasAllLocks 3 = .ok (.bipush 6, 2) := by decide +kernel
theorem dX6_hasAllLocks_5 : decode cX6_hasAllLocks 5 = .ok (.if_icmp .ge 28, 3) := by decide +kernel
theorem dX6_hasAllLocks_8 : decode cX6_hasAllLocks 8 = .ok (.iload_n 1, 1) := by decide +kernel
theorem dX6_hasAllLocks_9 : decode cX6_hasAllLocks 9 = .ok (.iload_n 2, 1) := by decide +kernel
theorem dX6_hasAllLocks_10 : decode cX6_hasAllLocks 10 = .ok (.ishr, 1) := by decide +kernel
theorem dX6_hasAllLocks_11 : decode cX6_hasAllLocks 11 = .ok (.iconst 1, 1) := by decide +kernel
theorem dX6_hasAllLocks_12 : decode cX6_hasAllLocks 12 = .ok (.iand, 1) := by decide +kernel
theorem dX6_hasAllLocks_13 : decode cX6_hasAllLocks 13 = .ok (.iconst 1, 1) := by decide +kernel
theorem dX6_hasAllLocks_14 : decode cX6_hasAllLocks 14 = .ok (.if_icmp .ne 13, 3) := by decide +kernel
theorem dX6_hasAllLocks_17 : decode cX6_hasAllLocks 17 = .ok (.aload_n 0, 1) := by decide +kernel
theorem dX6_hasAllLocks_18 : decode cX6_hasAllLocks 18 = .ok (.iload_n 2, 1) := by decide +kernel
theorem dX6_hasAllLocks_19 : decode cX6_hasAllLocks 19 = .ok (.invokevirtual 158, 3) := by decide +kernel
theorem dX6_hasAllLocks_22 : decode cX6_hasAllLocks 22 = .ok (.ifCond .ne 5, 3) := by decide +kernel
theorem dX6_hasAllLocks_25 : decode cX6_hasAllLocks 25 = .ok (.iconst 0, 1) := by decide +kernel
theorem dX6_hasAllLocks_26 : decode cX6_hasAllLocks 26 = .ok (.ireturn, 1) := by decide +kernel
theorem dX6_hasAllLocks_27 : decode cX6_hasAllLocks 27 = .ok (.iinc 2 1, 3) := by decide +kernel
theorem dX6_hasAllLocks_30 : decode cX6_hasAllLocks 30 = .ok (.goto (-28), 3) := by decide +kernel
theorem dX6_hasAllLocks_33 : decode cX6_hasAllLocks 33 = .ok (.iconst 1, 1) := by decide +kernel
theorem dX6_hasAllLocks_34 : decode cX6_hasAllLocks 34 = .ok (.ireturn, 1) := by decide +kernel
theorem dX6_locksOpenedBy_0 : decode cX6_locksOpenedBy 0 = .ok (.iconst 0, 1) := by decide +kernel
theorem dX6_locksOpenedBy_1 : decode cX6_locksOpenedBy 1 = .ok (.istore_n 2, 1) := by decide +kernel
theorem dX6_locksOpenedBy_2 : decode cX6_locksOpenedBy 2 = .ok (.iconst 0, 1) := by decide +kernel
theorem dX6_locksOpenedBy_3 : decode cX6_locksOpenedBy 3 = .ok (.istore_n 3, 1) := by decide +kernel
theorem dX6_locksOpenedBy_4 : decode cX6_locksOpenedBy 4 = .ok (.iload_n 3, 1) := by decide +kernel
theorem dX6_locksOpenedBy_5 : decode cX6_locksOpenedBy 5 = .ok (.bipush 6, 2) := by decide +kernel
theorem dX6_locksOpenedBy_7 : decode cX6_locksOpenedBy 7 = .ok (.if_icmp .ge 35, 3) := by decide +kernel
theorem dX6_locksOpenedBy_10 : decode cX6_locksOpenedBy 10 = .ok (.aload_n 0, 1) := by decide +kernel
theorem dX6_locksOpenedBy_11 : decode cX6_locksOpenedBy 11 = .ok (.aload_n 0, 1) := by decide +kernel
theorem dX6_locksOpenedBy_12 : decode cX6_locksOpenedBy 12 = .ok (.getfield 19, 3) := by decide +kernel
theorem dX6_locksOpenedBy_15 : decode cX6_locksOpenedBy 15 = .ok (.getfield 103, 3) := by decide +kernel
theorem dX6_locksOpenedBy_18 : decode cX6_locksOpenedBy 18 = .ok (.iload_n 1, 1) := by decide +kernel
theorem dX6_locksOpenedBy_19 : decode cX6_locksOpenedBy 19 = .ok (.aaload, 1) := by decide +kernel
theorem dX6_locksOpenedBy_20 : decode cX6_locksOpenedBy 20 = .ok (.getfield 107, 3) := by decide +kernel
theorem dX6_locksOpenedBy_23 : decode cX6_locksOpenedBy 23 = .ok (.iload_n 3, 1) := by decide +kernel
theorem dX6_locksOpenedBy_24 : decode cX6_locksOpenedBy 24 = .ok (.invokevirtual 415, 3) := by decide +kernel
theorem dX6_locksOpenedBy_27 : decode cX6_locksOpenedBy 27 = .ok (.ifCond .eq 9, 3) := by decide +kernel
theorem dX6_locksOpenedBy_30 : decode cX6_locksOpenedBy 30 = .ok (.iload_n 2, 1) := by decide +kernel
theorem dX6_locksOpenedBy_31 : decode cX6_locksOpenedBy 31 = .ok (.iconst 1, 1) := by decide +kernel
theorem dX6_locksOpenedBy_32 : decode cX6_locksOpenedBy 32 = .ok (.iload_n 3, 1) := by decide +kernel
theorem dX6_locksOpenedBy_33 : decode cX6_locksOpenedBy 33 = .ok (.ishl, 1) := by decide +kernel
theorem dX6_locksOpenedBy_34 : decode cX6_locksOpenedBy 34 = .ok (.ior, 1) := by decide +kernel
theorem dX6_locksOpenedBy_35 : decode cX6_locksOpenedBy 35 = .ok (.istore_n 2, 1) := by decide +kernel
theorem dX6_locksOpenedBy_36 : decode cX6_locksOpenedBy 36 = .ok (.iinc 3 1, 3) := by decide +kernel
theorem dX6_locksOpenedBy_39 : decode cX6_locksOpenedBy 39 = .ok (.goto (-35), 3) := by decide +kernel
theorem dX6_locksOpenedBy_42 : decode cX6_locksOpenedBy 42 = .ok (.iload_n 2, 1) := by decide +kernel
theorem dX6_locksOpenedBy_43 : decode cX6_locksOpenedBy 43 = .ok (.ireturn, 1) := by decide +kernel
theorem dX6_keysOpening_0 : decode cX6_keysOpening 0 = .ok (.iconst 0, 1) := by decide +kernel
theorem dX6_keysOpening_1 : decode cX6_keysOpening 1 = .ok (.istore_n 2, 1) := by decide +kernel
theorem dX6_keysOpening_2 : decode cX6_keysOpening 2 = .ok (.iconst 0, 1) := by decide +kernel
theorem dX6_keysOpening_3 : decode cX6_keysOpening 3 = .ok (.istore_n 3, 1) := by decide +kernel
theorem dX6_keysOpening_4 : decode cX6_keysOpening 4 = .ok (.iload_n 3, 1) := by decide +kernel
theorem dX6_keysOpening_5 : decode cX6_keysOpening 5 = .ok (.aload_n 0, 1) := by decide +kernel
theorem dX6_keysOpening_6 : decode cX6_keysOpening 6 = .ok (.getfield 19, 3) := by decide +kernel
theorem dX6_keysOpening_9 : decode cX6_keysOpening 9 = .ok (.getfield 80, 3) := by decide +kernel
theorem dX6_keysOpening_12 : decode cX6_keysOpening 12 = .ok (.if_icmp .ge 41, 3) := by decide +kernel
theorem dX6_keysOpening_15 : decode cX6_keysOpening 15 = .ok (.iload_n 3, 1) := by decide +kernel
theorem dX6_keysOpening_16 : decode cX6_keysOpening 16 = .ok (.bipush 12, 2) := by decide +kernel
theorem dX6_keysOpening_18 : decode cX6_keysOpening 18 = .ok (.if_icmp .ge 35, 3) := by decide +kernel
theorem dX6_keysOpening_21 : decode cX6_keysOpening 21 = .ok (.aload_n 0, 1) := by decide +kernel
theorem dX6_keysOpening_22 : decode cX6_keysOpening 22 = .ok (.aload_n 0, 1) := by decide +kernel
theorem dX6_keysOpening_23 : decode cX6_keysOpening 23 = .ok (.getfield 19, 3) := by decide +kernel
theorem dX6_keysOpening_26 : decode cX6_keysOpening 26 = .ok (.getfield 103, 3) := by decide +kernel
theorem dX6_keysOpening_29 : decode cX6_keysOpening 29 = .ok (.iload_n 3, 1) := by decide +kernel
theorem dX6_keysOpening_30 : decode cX6_keysOpening 30 = .ok (.aaload, 1) := by decide +kernel
theorem dX6_keysOpening_31 : decode cX6_keysOpening 31 = .ok (.getfield 107, 3) := by decide +kernel
theorem dX6_keysOpening_34 : decode cX6_keysOpening 34 = .ok (.iload_n 1, 1) := by decide +kernel
theorem dX6_keysOpening_35 : decode cX6_keysOpening 35 = .ok (.invokevirtual 415, 3) := by decide +kernel
theorem dX6_keysOpening_38 : decode cX6_keysOpening 38 = .ok (.ifCond .eq 9, 3) := by decide +kernel
theorem dX6_keysOpening_41 : decode cX6_keysOpening 41 = .ok (.iload_n 2, 1) := by decide +kernel
theorem dX6_keysOpening_42 : decode cX6_keysOpening 42 = .ok (.iconst 1, 1) := by decide +kernel
theorem dX6_keysOpening_43 : decode cX6_keysOpening 43 = .ok (.iload_n 3, 1) := by decide +kernel
theorem dX6_keysOpening_44 : decode cX6_keysOpening 44 = .ok (.ishl, 1) := by decide +kernel
theorem dX6_keysOpening_45 : decode cX6_keysOpening 45 = .ok (.ior, 1) := by decide +kernel
theorem dX6_keysOpening_46 : decode cX6_keysOpening 46 = .ok (.istore_n 2, 1) := by decide +kernel
theorem dX6_keysOpening_47 : decode cX6_keysOpening 47 = .ok (.iinc 3 1, 3) := by decide +kernel
theorem dX6_keysOpening_50 : decode cX6_keysOpening 50 = .ok (.goto (-46), 3) := by decide +kernel
theorem dX6_keysOpening_53 : decode cX6_keysOpening 53 = .ok (.iload_n 2, 1) := by decide +kernel
theorem dX6_keysOpening_54 : decode cX6_keysOpening 54 = .ok (.ireturn, 1) := by decide +kernel
theorem dX6_whoCouldOpen_0 : decode cX6_whoCouldOpen 0 = .ok (.iconst 0, 1) := by decide +kernel
theorem dX6_whoCouldOpen_1 : decode cX6_whoCouldOpen 1 = .ok (.istore_n 2, 1) := by decide +kernel
theorem dX6_whoCouldOpen_2 : decode cX6_whoCouldOpen 2 = .ok (.iconst 0, 1) := by decide +kernel
theorem dX6_whoCouldOpen_3 : decode cX6_whoCouldOpen 3 = .ok (.istore_n 3, 1) := by decide +kernel
theorem dX6_whoCouldOpen_4 : decode cX6_whoCouldOpen 4 = .ok (.iload_n 3, 1) := by decide +kernel
theorem dX6_whoCouldOpen_5 : decode cX6_whoCouldOpen 5 = .ok (.aload_n 0, 1) := by decide +kernel
theorem dX6_whoCouldOpen_6 : decode cX6_whoCouldOpen 6 = .ok (.getfield 19, 3) := by decide +kernel
theorem dX6_whoCouldOpen_9 : decode cX6_whoCouldOpen 9 = .ok (.getfield 80, 3) := by decide +kernel
theorem dX6_whoCouldOpen_12 : decode cX6_whoCouldOpen 12 = .ok (.if_icmp .ge 61, 3) := by decide +kernel
theorem dX6_whoCouldOpen_15 : decode cX6_whoCouldOpen 15 = .ok (.iload_n 3, 1) := by decide +kernel
theorem dX6_whoCouldOpen_16 : decode cX6_whoCouldOpen 16 = .ok (.bipush 12, 2) := by decide +kernel
theorem dX6_whoCouldOpen_18 : decode cX6_whoCouldOpen 18 = .ok (.if_icmp .ge 55, 3) := by decide +kernel
theorem dX6_whoCouldOpen_21 : decode cX6_whoCouldOpen 21 = .ok (.aload_n 0, 1) := by decide +kernel
theorem dX6_whoCouldOpen_22 : decode cX6_whoCouldOpen 22 = .ok (.getfield 19, 3) := by decide +kernel
theorem dX6_whoCouldOpen_25 : decode cX6_whoCouldOpen 25 = .ok (.getfield 103, 3) := by decide +kernel
theorem dX6_whoCouldOpen_28 : decode cX6_whoCouldOpen 28 = .ok (.iload_n 3, 1) := by decide +kernel
theorem dX6_whoCouldOpen_29 : decode cX6_whoCouldOpen 29 = .ok (.aaload, 1) := by decide +kernel
theorem dX6_whoCouldOpen_30 : decode cX6_whoCouldOpen 30 = .ok (.astore 4, 2) := by decide +kernel
theorem dX6_whoCouldOpen_32 : decode cX6_whoCouldOpen 32 = .ok (.aload_n 0, 1) := by decide +kernel
theorem dX6_whoCouldOpen_33 : decode cX6_whoCouldOpen 33 = .ok (.aload 4, 2) := by decide +kernel
theorem dX6_whoCouldOpen_35 : decode cX6_whoCouldOpen 35 = .ok (.getfield 107, 3) := by decide +kernel
theorem dX6_whoCouldOpen_38 : decode cX6_whoCouldOpen 38 = .ok (.iload_n 1, 1) := by decide +kernel
theorem dX6_whoCouldOpen_39 : decode cX6_whoCouldOpen 39 = .ok (.invokevirtual 415, 3) := by decide +kernel
theorem dX6_whoCouldOpen_42 : decode cX6_whoCouldOpen 42 = .ok (.ifCond .eq 25, 3) := by decide +kernel
theorem dX6_whoCouldOpen_45 : decode cX6_whoCouldOpen 45 = .ok (.iload_n 2, 1) := by decide +kernel
theorem dX6_whoCouldOpen_46 : decode cX6_whoCouldOpen 46 = .ok (.iconst 1, 1) := by decide +kernel
theorem dX6_whoCouldOpen_47 : decode cX6_whoCouldOpen 47 = .ok (.aload 4, 2) := by decide +kernel
theorem dX6_whoCouldOpen_49 : decode cX6_whoCouldOpen 49 = .ok (.getfield 126, 3) := by decide +kernel
theorem dX6_whoCouldOpen_52 : decode cX6_whoCouldOpen 52 = .ok (.ifCond .eq 7, 3) := by decide +kernel
theorem dX6_whoCouldOpen_55 : decode cX6_whoCouldOpen 55 = .ok (.iconst 4, 1) := by decide +kernel
theorem dX6_whoCouldOpen_56 : decode cX6_whoCouldOpen 56 = .ok (.goto 8, 3) := by decide +kernel
theorem dX6_whoCouldOpen_59 : decode cX6_whoCouldOpen 59 = .ok (.aload 4, 2) := by decide +kernel
theorem dX6_whoCouldOpen_61 : decode cX6_whoCouldOpen 61 = .ok (.getfield 123, 3) := by decide +kernel
theorem dX6_whoCouldOpen_64 : decode cX6_whoCouldOpen 64 = .ok (.ishl, 1) := by decide +kernel
theorem dX6_whoCouldOpen_65 : decode cX6_whoCouldOpen 65 = .ok (.ior, 1) := by decide +kernel
theorem dX6_whoCouldOpen_66 : decode cX6_whoCouldOpen 66 = .ok (.istore_n 2, 1) := by decide +kernel
theorem dX6_whoCouldOpen_67 : decode cX6_whoCouldOpen 67 = .ok (.iinc 3 1, 3) := by decide +kernel
theorem dX6_whoCouldOpen_70 : decode cX6_whoCouldOpen 70 = .ok (.goto (-66), 3) := by decide +kernel
theorem dX6_whoCouldOpen_73 : decode cX6_whoCouldOpen 73 = .ok (.iload_n 2, 1) := by decide +kernel
theorem dX6_whoCouldOpen_74 : decode cX6_whoCouldOpen 74 = .ok (.ireturn, 1) := by decide +kernel
theorem dX6_keysOf_0 : decode cX6_keysOf 0 = .ok (.iconst 0, 1) := by decide +kernel
theorem dX6_keysOf_1 : decode cX6_keysOf 1 = .ok (.istore_n 2, 1) := by decide +kernel
theorem dX6_keysOf_2 : decode cX6_keysOf 2 = .ok (.iconst 0, 1) := by decide +kernel
theorem dX6_keysOf_3 : decode cX6_keysOf 3 = .ok (.istore_n 3, 1) := by decide +kernel
theorem dX6_keysOf_4 : decode cX6_keysOf 4 = .ok (.iload_n 3, 1) := by decide +kernel
theorem dX6_keysOf_5 : decode cX6_keysOf 5 = .ok (.aload_n 0, 1) := by decide +kernel
theorem dX6_keysOf_6 : decode cX6_keysOf 6 = .ok (.getfield 19, 3) := by decide +kernel
theorem dX6_keysOf_9 : decode cX6_keysOf 9 = .ok (.getfield 80, 3) := by decide +kernel
theorem dX6_keysOf_12 : decode cX6_keysOf 12 = .ok (.if_icmp .ge 37, 3) := by decide +kernel
theorem dX6_keysOf_15 : decode cX6_keysOf 15 = .ok (.iload_n 3, 1) := by decide +kernel
theorem dX6_keysOf_16 : decode cX6_keysOf 16 = .ok (.bipush 12, 2) := by decide +kernel
theorem dX6_keysOf_18 : decode cX6_keysOf 18 = .ok (.if_icmp .ge 31, 3) := by decide +kernel
theorem dX6_keysOf_21 : decode cX6_keysOf 21 = .ok (.aload_n 0, 1) := by decide +kernel
theorem dX6_keysOf_22 : decode cX6_keysOf 22 = .ok (.getfield 19, 3) := by decide +kernel
theorem dX6_keysOf_25 : decode cX6_keysOf 25 = .ok (.getfield 103, 3) := by decide +kernel
theorem dX6_keysOf_28 : decode cX6_keysOf 28 = .ok (.iload_n 3, 1) := by decide +kernel
theorem dX6_keysOf_29 : decode cX6_keysOf 29 = .ok (.aaload, 1) := by decide +kernel
theorem dX6_keysOf_30 : decode cX6_keysOf 30 = .ok (.getfield 123, 3) := by decide +kernel
theorem dX6_keysOf_33 : decode cX6_keysOf 33 = .ok (.iload_n 1, 1) := by decide +kernel
theorem dX6_keysOf_34 : decode cX6_keysOf 34 = .ok (.if_icmp .ne 9, 3) := by decide +kernel
theorem dX6_keysOf_37 : decode cX6_keysOf 37 = .ok (.iload_n 2, 1) := by decide +kernel
theorem dX6_keysOf_38 : decode cX6_keysOf 38 = .ok (.iconst 1, 1) := by decide +kernel
theorem dX6_keysOf_39 : decode cX6_keysOf 39 = .ok (.iload_n 3, 1) := by decide +kernel
theorem dX6_keysOf_40 : decode cX6_keysOf 40 = .ok (.ishl, 1) := by decide +kernel
theorem dX6_keysOf_41 : decode cX6_keysOf 41 = .ok (.ior, 1) := by decide +kernel
theorem dX6_keysOf_42 : decode cX6_keysOf 42 = .ok (.istore_n 2, 1) := by decide +kernel
theorem dX6_keysOf_43 : decode cX6_keysOf 43 = .ok (.iinc 3 1, 3) := by decide +kernel
theorem dX6_keysOf_46 : decode cX6_keysOf 46 = .ok (.goto (-42), 3) := by decide +kernel
theorem dX6_keysOf_49 : decode cX6_keysOf 49 = .ok (.iload_n 2, 1) := by decide +kernel
theorem dX6_keysOf_50 : decode cX6_keysOf 50 = .ok (.ireturn, 1) := by decide +kernel
theorem dX6_locksFor_0 : decode cX6_locksFor 0 = .ok (.iconst 0, 1) := by decide +kernel
theorem dX6_locksFor_1 : decode cX6_locksFor 1 = .ok (.istore_n 2, 1) := by decide +kernel
theorem dX6_locksFor_2 : decode cX6_locksFor 2 = .ok (.iconst 0, 1) := by decide +kernel
theorem dX6_locksFor_3 : decode cX6_locksFor 3 = .ok (.istore_n 3, 1) := by decide +kernel
theorem dX6_locksFor_4 : decode cX6_locksFor 4 = .ok (.iload_n 3, 1) := by decide +kernel
theorem dX6_locksFor_5 : decode cX6_locksFor 5 = .ok (.aload_n 0, 1) := by decide +kernel
theorem dX6_locksFor_6 : decode cX6_locksFor 6 = .ok (.getfield 19, 3) := by decide +kernel
theorem dX6_locksFor_9 : decode cX6_locksFor 9 = .ok (.getfield 80, 3) := by decide +kernel
theorem dX6_locksFor_12 : decode cX6_locksFor 12 = .ok (.if_icmp .ge 54, 3) := by decide +kernel
theorem dX6_locksFor_15 : decode cX6_locksFor 15 = .ok (.iload_n 3, 1) := by decide +kernel
theorem dX6_locksFor_16 : decode cX6_locksFor 16 = .ok (.bipush 12, 2) := by decide +kernel
theorem dX6_locksFor_18 : decode cX6_locksFor 18 = .ok (.if_icmp .ge 48, 3) := by decide +kernel
theorem dX6_locksFor_21 : decode cX6_locksFor 21 = .ok (.aload_n 0, 1) := by decide +kernel
theorem dX6_locksFor_22 : decode cX6_locksFor 22 = .ok (.getfield 19, 3) := by decide +kernel
theorem dX6_locksFor_25 : decode cX6_locksFor 25 = .ok (.getfield 103, 3) := by decide +kernel
theorem dX6_locksFor_28 : decode cX6_locksFor 28 = .ok (.iload_n 3, 1) := by decide +kernel
theorem dX6_locksFor_29 : decode cX6_locksFor 29 = .ok (.aaload, 1) := by decide +kernel
theorem dX6_locksFor_30 : decode cX6_locksFor 30 = .ok (.getfield 123, 3) := by decide +kernel
theorem dX6_locksFor_33 : decode cX6_locksFor 33 = .ok (.iload_n 1, 1) := by decide +kernel
theorem dX6_locksFor_34 : decode cX6_locksFor 34 = .ok (.if_icmp .ne 26, 3) := by decide +kernel
theorem dX6_locksFor_37 : decode cX6_locksFor 37 = .ok (.aload_n 0, 1) := by decide +kernel
theorem dX6_locksFor_38 : decode cX6_locksFor 38 = .ok (.getfield 19, 3) := by decide +kernel
theorem dX6_locksFor_41 : decode cX6_locksFor 41 = .ok (.getfield 103, 3) := by decide +kernel
theorem dX6_locksFor_44 : decode cX6_locksFor 44 = .ok (.iload_n 3, 1) := by decide +kernel
theorem dX6_locksFor_45 : decode cX6_locksFor 45 = .ok (.aaload, 1) := by decide +kernel
theorem dX6_locksFor_46 : decode cX6_locksFor 46 = .ok (.getfield 126, 3) := by decide +kernel
theorem dX6_locksFor_49 : decode cX6_locksFor 49 = .ok (.ifCond .ne 11, 3) := by decide +kernel
theorem dX6_locksFor_52 : decode cX6_locksFor 52 = .ok (.iload_n 2, 1) := by decide +kernel
theorem dX6_locksFor_53 : decode cX6_locksFor 53 = .ok (.aload_n 0, 1) := by decide +kernel
theorem dX6_locksFor_54 : decode cX6_locksFor 54 = .ok (.iload_n 3, 1) := by decide +kernel
theorem dX6_locksFor_55 : decode cX6_locksFor 55 = .ok (.invokevirtual 132, 3) := by decide +kernel
theorem dX6_locksFor_58 : decode cX6_locksFor 58 = .ok (.ior, 1) := by decide +kernel
theorem dX6_locksFor_59 : decode cX6_locksFor 59 = .ok (.istore_n 2, 1) := by decide +kernel
theorem dX6_locksFor_60 : decode cX6_locksFor 60 = .ok (.iinc 3 1, 3) := by decide +kernel
theorem dX6_locksFor_63 : decode cX6_locksFor 63 = .ok (.goto (-59), 3) := by decide +kernel
theorem dX6_locksFor_66 : decode cX6_locksFor 66 = .ok (.iload_n 2, 1) := by decide +kernel
theorem dX6_locksFor_67 : decode cX6_locksFor 67 = .ok (.ireturn, 1) := by decide +kernel
theorem dX6_keysOver_0 : decode cX6_keysOver 0 = .ok (.iconst 0, 1) := by decide +kernel
theorem dX6_keysOver_1 : decode cX6_keysOver 1 = .ok (.istore_n 2, 1) := by decide +kernel
theorem dX6_keysOver_2 : decode cX6_keysOver 2 = .ok (.iconst 0, 1) := by decide +kernel
theorem dX6_keysOver_3 : decode cX6_keysOver 3 = .ok (.istore_n 3, 1) := by decide +kernel
theorem dX6_keysOver_4 : decode cX6_keysOver 4 = .ok (.iload_n 3, 1) := by decide +kernel
theorem dX6_keysOver_5 : decode cX6_keysOver 5 = .ok (.aload_n 0, 1) := by decide +kernel
theorem dX6_keysOver_6 : decode cX6_keysOver 6 = .ok (.getfield 19, 3) := by decide +kernel
theorem dX6_keysOver_9 : decode cX6_keysOver 9 = .ok (.getfield 80, 3) := by decide +kernel
theorem dX6_keysOver_12 : decode cX6_keysOver 12 = .ok (.if_icmp .ge 44, 3) := by decide +kernel
theorem dX6_keysOver_15 : decode cX6_keysOver 15 = .ok (.iload_n 3, 1) := by decide +kernel
theorem dX6_keysOver_16 : decode cX6_keysOver 16 = .ok (.bipush 12, 2) := by decide +kernel
theorem dX6_keysOver_18 : decode cX6_keysOver 18 = .ok (.if_icmp .ge 38, 3) := by decide +kernel
theorem dX6_keysOver_21 : decode cX6_keysOver 21 = .ok (.aload_n 0, 1) := by decide +kernel
theorem dX6_keysOver_22 : decode cX6_keysOver 22 = .ok (.getfield 37, 3) := by decide +kernel
theorem dX6_keysOver_25 : decode cX6_keysOver 25 = .ok (.iload_n 1, 1) := by decide +kernel
theorem dX6_keysOver_26 : decode cX6_keysOver 26 = .ok (.aload_n 0, 1) := by decide +kernel
theorem dX6_keysOver_27 : decode cX6_keysOver 27 = .ok (.getfield 19, 3) := by decide +kernel
theorem dX6_keysOver_30 : decode cX6_keysOver 30 = .ok (.getfield 103, 3) := by decide +kernel
theorem dX6_keysOver_33 : decode cX6_keysOver 33 = .ok (.iload_n 3, 1) := by decide +kernel
theorem dX6_keysOver_34 : decode cX6_keysOver 34 = .ok (.aaload, 1) := by decide +kernel
theorem dX6_keysOver_35 : decode cX6_keysOver 35 = .ok (.getfield 107, 3) := by decide +kernel
theorem dX6_keysOver_38 : decode cX6_keysOver 38 = .ok (.invokevirtual 464, 3) := by decide +kernel
theorem dX6_keysOver_41 : decode cX6_keysOver 41 = .ok (.ifCond .eq 9, 3) := by decide +kernel
theorem dX6_keysOver_44 : decode cX6_keysOver 44 = .ok (.iload_n 2, 1) := by decide +kernel
theorem dX6_keysOver_45 : decode cX6_keysOver 45 = .ok (.iconst 1, 1) := by decide +kernel
theorem dX6_keysOver_46 : decode cX6_keysOver 46 = .ok (.iload_n 3, 1) := by decide +kernel
theorem dX6_keysOver_47 : decode cX6_keysOver 47 = .ok (.ishl, 1) := by decide +kernel
theorem dX6_keysOver_48 : decode cX6_keysOver 48 = .ok (.ior, 1) := by decide +kernel
theorem dX6_keysOver_49 : decode cX6_keysOver 49 = .ok (.istore_n 2, 1) := by decide +kernel
theorem dX6_keysOver_50 : decode cX6_keysOver 50 = .ok (.iinc 3 1, 3) := by decide +kernel
theorem dX6_keysOver_53 : decode cX6_keysOver 53 = .ok (.goto (-49), 3) := by decide +kernel
theorem dX6_keysOver_56 : decode cX6_keysOver 56 = .ok (.iload_n 2, 1) := by decide +kernel
theorem dX6_keysOver_57 : decode cX6_keysOver 57 = .ok (.ireturn, 1) := by decide +kernel
theorem dX6_keysUnder_0 : decode cX6_keysUnder 0 = .ok (.iconst 0, 1) := by decide +kernel
theorem dX6_keysUnder_1 : decode cX6_keysUnder 1 = .ok (.istore_n 2, 1) := by decide +kernel
theorem dX6_keysUnder_2 : decode cX6_keysUnder 2 = .ok (.iconst 0, 1) := by decide +kernel
theorem dX6_keysUnder_3 : decode cX6_keysUnder 3 = .ok (.istore_n 3, 1) := by decide +kernel
theorem dX6_keysUnder_4 : decode cX6_keysUnder 4 = .ok (.iload_n 3, 1) := by decide +kernel
theorem dX6_keysUnder_5 : decode cX6_keysUnder 5 = .ok (.aload_n 0, 1) := by decide +kernel
theorem dX6_keysUnder_6 : decode cX6_keysUnder 6 = .ok (.getfield 19, 3) := by decide +kernel
theorem dX6_keysUnder_9 : decode cX6_keysUnder 9 = .ok (.getfield 80, 3) := by decide +kernel
theorem dX6_keysUnder_12 : decode cX6_keysUnder 12 = .ok (.if_icmp .ge 44, 3) := by decide +kernel
theorem dX6_keysUnder_15 : decode cX6_keysUnder 15 = .ok (.iload_n 3, 1) := by decide +kernel
theorem dX6_keysUnder_16 : decode cX6_keysUnder 16 = .ok (.bipush 12, 2) := by decide +kernel
theorem dX6_keysUnder_18 : decode cX6_keysUnder 18 = .ok (.if_icmp .ge 38, 3) := by decide +kernel
theorem dX6_keysUnder_21 : decode cX6_keysUnder 21 = .ok (.aload_n 0, 1) := by decide +kernel
theorem dX6_keysUnder_22 : decode cX6_keysUnder 22 = .ok (.getfield 37, 3) := by decide +kernel
theorem dX6_keysUnder_25 : decode cX6_keysUnder 25 = .ok (.aload_n 0, 1) := by decide +kernel
theorem dX6_keysUnder_26 : decode cX6_keysUnder 26 = .ok (.getfield 19, 3) := by decide +kernel
theorem dX6_keysUnder_29 : decode cX6_keysUnder 29 = .ok (.getfield 103, 3) := by decide +kernel
theorem dX6_keysUnder_32 : decode cX6_keysUnder 32 = .ok (.iload_n 3, 1) := by decide +kernel
theorem dX6_keysUnder_33 : decode cX6_keysUnder 33 = .ok (.aaload, 1) := by decide +kernel
theorem dX6_keysUnder_34 : decode cX6_keysUnder 34 = .ok (.getfield 107, 3) := by decide +kernel
theorem dX6_keysUnder_37 : decode cX6_keysUnder 37 = .ok (.iload_n 1, 1) := by decide +kernel
theorem dX6_keysUnder_38 : decode cX6_keysUnder 38 = .ok (.invokevirtual 464, 3) := by decide +kernel
theorem dX6_keysUnder_41 : decode cX6_keysUnder 41 = .ok (.ifCond .eq 9, 3) := by decide +kernel
theorem dX6_keysUnder_44 : decode cX6_keysUnder 44 = .ok (.iload_n 2, 1) := by decide +kernel
theorem dX6_keysUnder_45 : decode cX6_keysUnder 45 = .ok (.iconst 1, 1) := by decide +kernel
theorem dX6_keysUnder_46 : decode cX6_keysUnder 46 = .ok (.iload_n 3, 1) := by decide +kernel
theorem dX6_keysUnder_47 : decode cX6_keysUnder 47 = .ok (.ishl, 1) := by decide +kernel
theorem dX6_keysUnder_48 : decode cX6_keysUnder 48 = .ok (.ior, 1) := by decide +kernel
theorem dX6_keysUnder_49 : decode cX6_keysUnder 49 = .ok (.istore_n 2, 1) := by decide +kernel
theorem dX6_keysUnder_50 : decode cX6_keysUnder 50 = .ok (.iinc 3 1, 3) := by decide +kernel
theorem dX6_keysUnder_53 : decode cX6_keysUnder 53 = .ok (.goto (-49), 3) := by decide +kernel
theorem dX6_keysUnder_56 : decode cX6_keysUnder 56 = .ok (.iload_n 2, 1) := by decide +kernel
theorem dX6_keysUnder_57 : decode cX6_keysUnder 57 = .ok (.ireturn, 1) := by decide +kernel
theorem dX6_lostKeys_0 : decode cX6_lostKeys 0 = .ok (.iconst 0, 1) := by decide +kernel
theorem dX6_lostKeys_1 : decode cX6_lostKeys 1 = .ok (.istore_n 1, 1) := by decide +kernel
theorem dX6_lostKeys_2 : decode cX6_lostKeys 2 = .ok (.iconst 0, 1) := by decide +kernel
theorem dX6_lostKeys_3 : decode cX6_lostKeys 3 = .ok (.istore_n 2, 1) := by decide +kernel
theorem dX6_lostKeys_4 : decode cX6_lostKeys 4 = .ok (.iload_n 2, 1) := by decide +kernel
theorem dX6_lostKeys_5 : decode cX6_lostKeys 5 = .ok (.aload_n 0, 1) := by decide +kernel
theorem dX6_lostKeys_6 : decode cX6_lostKeys 6 = .ok (.getfield 19, 3) := by decide +kernel
theorem dX6_lostKeys_9 : decode cX6_lostKeys 9 = .ok (.getfield 80, 3) := by decide +kernel
theorem dX6_lostKeys_12 : decode cX6_lostKeys 12 = .ok (.if_icmp .ge 33, 3) := by decide +kernel
theorem dX6_lostKeys_15 : decode cX6_lostKeys 15 = .ok (.iload_n 2, 1) := by decide +kernel
theorem dX6_lostKeys_16 : decode cX6_lostKeys 16 = .ok (.bipush 12, 2) := by decide +kernel
theorem dX6_lostKeys_18 : decode cX6_lostKeys 18 = .ok (.if_icmp .ge 27, 3) := by decide +kernel
theorem dX6_lostKeys_21 : decode cX6_lostKeys 21 = .ok (.aload_n 0, 1) := by decide +kernel
theorem dX6_lostKeys_22 : decode cX6_lostKeys 22 = .ok (.getfield 19, 3) := by decide +kernel
theorem dX6_lostKeys_25 : decode cX6_lostKeys 25 = .ok (.getfield 103, 3) := by decide +kernel
theorem dX6_lostKeys_28 : decode cX6_lostKeys 28 = .ok (.iload_n 2, 1) := by decide +kernel
theorem dX6_lostKeys_29 : decode cX6_lostKeys 29 = .ok (.aaload, 1) := by decide +kernel
theorem dX6_lostKeys_30 : decode cX6_lostKeys 30 = .ok (.getfield 126, 3) := by decide +kernel
theorem dX6_lostKeys_33 : decode cX6_lostKeys 33 = .ok (.ifCond .eq 6, 3) := by decide +kernel
theorem dX6_lostKeys_36 : decode cX6_lostKeys 36 = .ok (.iinc 1 1, 3) := by decide +kernel
theorem dX6_lostKeys_39 : decode cX6_lostKeys 39 = .ok (.iinc 2 1, 3) := by decide +kernel
theorem dX6_lostKeys_42 : decode cX6_lostKeys 42 = .ok (.goto (-38), 3) := by decide +kernel
theorem dX6_lostKeys_45 : decode cX6_lostKeys 45 = .ok (.iload_n 1, 1) := by decide +kernel
theorem dX6_lostKeys_46 : decode cX6_lostKeys 46 = .ok (.ireturn, 1) := by decide +kernel
theorem dX6_lockCount_0 : decode cX6_lockCount 0 = .ok (.iconst 0, 1) := by decide +kernel
theorem dX6_lockCount_1 : decode cX6_lockCount 1 = .ok (.istore_n 1, 1) := by decide +kernel
theorem dX6_lockCount_2 : decode cX6_lockCount 2 = .ok (.iconst 0, 1) := by decide +kernel
theorem dX6_lockCount_3 : decode cX6_lockCount 3 = .ok (.istore_n 2, 1) := by decide +kernel
theorem dX6_lockCount_4 : decode cX6_lockCount 4 = .ok (.iload_n 2, 1) := by decide +kernel
theorem dX6_lockCount_5 : decode cX6_lockCount 5 = .ok (.bipush 6, 2) := by decide +kernel
theorem dX6_lockCount_7 : decode cX6_lockCount 7 = .ok (.if_icmp .ge 20, 3) := by decide +kernel
theorem dX6_lockCount_10 : decode cX6_lockCount 10 = .ok (.aload_n 0, 1) := by decide +kernel
theorem dX6_lockCount_11 : decode cX6_lockCount 11 = .ok (.iload_n 2, 1) := by decide +kernel
theorem dX6_lockCount_12 : decode cX6_lockCount 12 = .ok (.invokevirtual 158, 3) := by decide +kernel
theorem dX6_lockCount_15 : decode cX6_lockCount 15 = .ok (.ifCond .eq 6, 3) := by decide +kernel
theorem dX6_lockCount_18 : decode cX6_lockCount 18 = .ok (.iinc 1 1, 3) := by decide +kernel
theorem dX6_lockCount_21 : decode cX6_lockCount 21 = .ok (.iinc 2 1, 3) := by decide +kernel
theorem dX6_lockCount_24 : decode cX6_lockCount 24 = .ok (.goto (-20), 3) := by decide +kernel
theorem dX6_lockCount_27 : decode cX6_lockCount 27 = .ok (.iload_n 1, 1) := by decide +kernel
theorem dX6_lockCount_28 : decode cX6_lockCount 28 = .ok (.ireturn, 1) := by decide +kernel
theorem dX6_crossedPairs_0 : decode cX6_crossedPairs 0 = .ok (.iconst 0, 1) := by decide +kernel
theorem dX6_crossedPairs_1 : decode cX6_crossedPairs 1 = .ok (.istore_n 1, 1) := by decide +kernel
theorem dX6_crossedPairs_2 : decode cX6_crossedPairs 2 = .ok (.iconst 0, 1) := by decide +kernel
theorem dX6_crossedPairs_3 : decode cX6_crossedPairs 3 = .ok (.istore_n 2, 1) := by decide +kernel
theorem dX6_crossedPairs_4 : decode cX6_crossedPairs 4 = .ok (.iload_n 2, 1) := by decide +kernel
theorem dX6_crossedPairs_5 : decode cX6_crossedPairs 5 = .ok (.aload_n 0, 1) := by decide +kernel
theorem dX6_crossedPairs_6 : decode cX6_crossedPairs 6 = .ok (.getfield 19, 3) := by decide +kernel
theorem dX6_crossedPairs_9 : decode cX6_crossedPairs 9 = .ok (.getfield 80, 3) := by decide +kernel
theorem dX6_crossedPairs_12 : decode cX6_crossedPairs 12 = .ok (.if_icmp .ge 65, 3) := by decide +kernel
theorem dX6_crossedPairs_15 : decode cX6_crossedPairs 15 = .ok (.iload_n 2, 1) := by decide +kernel
theorem dX6_crossedPairs_16 : decode cX6_crossedPairs 16 = .ok (.bipush 12, 2) := by decide +kernel
theorem dX6_crossedPairs_18 : decode cX6_crossedPairs 18 = .ok (.if_icmp .ge 59, 3) := by decide +kernel
theorem dX6_crossedPairs_21 : decode cX6_crossedPairs 21 = .ok (.iconst 0, 1) := by decide +kernel
theorem dX6_crossedPairs_22 : decode cX6_crossedPairs 22 = .ok (.istore_n 3, 1) := by decide +kernel
theorem dX6_crossedPairs_23 : decode cX6_crossedPairs 23 = .ok (.iload_n 3, 1) := by decide +kernel
theorem dX6_crossedPairs_24 : decode cX6_crossedPairs 24 = .ok (.iload_n 2, 1) := by decide +kernel
theorem dX6_crossedPairs_25 : decode cX6_crossedPairs 25 = .ok (.if_icmp .ge 46, 3) := by decide +kernel
theorem dX6_crossedPairs_28 : decode cX6_crossedPairs 28 = .ok (.aload_n 0, 1) := by decide +kernel
theorem dX6_crossedPairs_29 : decode cX6_crossedPairs 29 = .ok (.getfield 37, 3) := by decide +kernel
theorem dX6_crossedPairs_32 : decode cX6_crossedPairs 32 = .ok (.aload_n 0, 1) := by decide +kernel
theorem dX6_crossedPairs_33 : decode cX6_crossedPairs 33 = .ok (.getfield 19, 3) := by decide +kernel
theorem dX6_crossedPairs_36 : decode cX6_crossedPairs 36 = .ok (.getfield 103, 3) := by decide +kernel
theorem dX6_crossedPairs_39 : decode cX6_crossedPairs 39 = .ok (.iload_n 2, 1) := by decide +kernel
theorem dX6_crossedPairs_40 : decode cX6_crossedPairs 40 = .ok (.aaload, 1) := by decide +kernel
theorem dX6_crossedPairs_41 : decode cX6_crossedPairs 41 = .ok (.getfield 107, 3) := by decide +kernel
theorem dX6_crossedPairs_44 : decode cX6_crossedPairs 44 = .ok (.aload_n 0, 1) := by decide +kernel
theorem dX6_crossedPairs_45 : decode cX6_crossedPairs 45 = .ok (.getfield 19, 3) := by decide +kernel
theorem dX6_crossedPairs_48 : decode cX6_crossedPairs 48 = .ok (.getfield 103, 3) := by decide +kernel
theorem dX6_crossedPairs_51 : decode cX6_crossedPairs 51 = .ok (.iload_n 3, 1) := by decide +kernel
theorem dX6_crossedPairs_52 : decode cX6_crossedPairs 52 = .ok (.aaload, 1) := by decide +kernel
theorem dX6_crossedPairs_53 : decode cX6_crossedPairs 53 = .ok (.getfield 107, 3) := by decide +kernel
theorem dX6_crossedPairs_56 : decode cX6_crossedPairs 56 = .ok (.invokevirtual 470, 3) := by decide +kernel
theorem dX6_crossedPairs_59 : decode cX6_crossedPairs 59 = .ok (.ifCond .eq 6, 3) := by decide +kernel
theorem dX6_crossedPairs_62 : decode cX6_crossedPairs 62 = .ok (.iinc 1 1, 3) := by decide +kernel
theorem dX6_crossedPairs_65 : decode cX6_crossedPairs 65 = .ok (.iinc 3 1, 3) := by decide +kernel
theorem dX6_crossedPairs_68 : decode cX6_crossedPairs 68 = .ok (.goto (-45), 3) := by decide +kernel
theorem dX6_crossedPairs_71 : decode cX6_crossedPairs 71 = .ok (.iinc 2 1, 3) := by decide +kernel
theorem dX6_crossedPairs_74 : decode cX6_crossedPairs 74 = .ok (.goto (-70), 3) := by decide +kernel
theorem dX6_crossedPairs_77 : decode cX6_crossedPairs 77 = .ok (.iload_n 1, 1) := by decide +kernel
theorem dX6_crossedPairs_78 : decode cX6_crossedPairs 78 = .ok (.ireturn, 1) := by decide +kernel
theorem dX6_soundCodes_0 : decode cX6_soundCodes 0 = .ok (.iconst 0, 1) := by decide +kernel
theorem dX6_soundCodes_1 : decode cX6_soundCodes 1 = .ok (.istore_n 1, 1) := by decide +kernel
theorem dX6_soundCodes_2 : decode cX6_soundCodes 2 = .ok (.iconst 0, 1) := by decide +kernel
theorem dX6_soundCodes_3 : decode cX6_soundCodes 3 = .ok (.istore_n 2, 1) := by decide +kernel
theorem dX6_soundCodes_4 : decode cX6_soundCodes 4 = .ok (.iload_n 2, 1) := by decide +kernel
theorem dX6_soundCodes_5 : decode cX6_soundCodes 5 = .ok (.bipush 81, 2) := by decide +kernel
theorem dX6_soundCodes_7 : decode cX6_soundCodes 7 = .ok (.if_icmp .ge 20, 3) := by decide +kernel
theorem dX6_soundCodes_10 : decode cX6_soundCodes 10 = .ok (.aload_n 0, 1) := by decide +kernel
theorem dX6_soundCodes_11 : decode cX6_soundCodes 11 = .ok (.iload_n 2, 1) := by decide +kernel
theorem dX6_soundCodes_12 : decode cX6_soundCodes 12 = .ok (.invokevirtual 282, 3) := by decide +kernel
theorem dX6_soundCodes_15 : decode cX6_soundCodes 15 = .ok (.ifCond .eq 6, 3) := by decide +kernel
theorem dX6_soundCodes_18 : decode cX6_soundCodes 18 = .ok (.iinc 1 1, 3) := by decide +kernel
theorem dX6_soundCodes_21 : decode cX6_soundCodes 21 = .ok (.iinc 2 1, 3) := by decide +kernel
theorem dX6_soundCodes_24 : decode cX6_soundCodes 24 = .ok (.goto (-20), 3) := by decide +kernel
theorem dX6_soundCodes_27 : decode cX6_soundCodes 27 = .ok (.iload_n 1, 1) := by decide +kernel
theorem dX6_soundCodes_28 : decode cX6_soundCodes 28 = .ok (.ireturn, 1) := by decide +kernel
theorem dX6_freeCodes_0 : decode cX6_freeCodes 0 = .ok (.iconst 0, 1) := by decide +kernel
theorem dX6_freeCodes_1 : decode cX6_freeCodes 1 = .ok (.istore_n 1, 1) := by decide +kernel
theorem dX6_freeCodes_2 : decode cX6_freeCodes 2 = .ok (.iconst 0, 1) := by decide +kernel
theorem dX6_freeCodes_3 : decode cX6_freeCodes 3 = .ok (.istore_n 2, 1) := by decide +kernel
theorem dX6_freeCodes_4 : decode cX6_freeCodes 4 = .ok (.iload_n 2, 1) := by decide +kernel
theorem dX6_freeCodes_5 : decode cX6_freeCodes 5 = .ok (.bipush 81, 2) := by decide +kernel
theorem dX6_freeCodes_7 : decode cX6_freeCodes 7 = .ok (.if_icmp .ge 20, 3) := by decide +kernel
theorem dX6_freeCodes_10 : decode cX6_freeCodes 10 = .ok (.aload_n 0, 1) := by decide +kernel
theorem dX6_freeCodes_11 : decode cX6_freeCodes 11 = .ok (.iload_n 2, 1) := by decide +kernel
theorem dX6_freeCodes_12 : decode cX6_freeCodes 12 = .ok (.invokevirtual 291, 3) := by decide +kernel
theorem dX6_freeCodes_15 : decode cX6_freeCodes 15 = .ok (.ifCond .eq 6, 3) := by decide +kernel
theorem dX6_freeCodes_18 : decode cX6_freeCodes 18 = .ok (.iinc 1 1, 3) := by decide +kernel
theorem dX6_freeCodes_21 : decode cX6_freeCodes 21 = .ok (.iinc 2 1, 3) := by decide +kernel
theorem dX6_freeCodes_24 : decode cX6_freeCodes 24 = .ok (.goto (-20), 3) := by decide +kernel
theorem dX6_freeCodes_27 : decode cX6_freeCodes 27 = .ok (.iload_n 1, 1) := by decide +kernel
theorem dX6_freeCodes_28 : decode cX6_freeCodes 28 = .ok (.ireturn, 1) := by decide +kernel
theorem dX6_soundCodesOver_0 : decode cX6_soundCodesOver 0 = .ok (.iconst 0, 1) := by decide +kernel
theorem dX6_soundCodesOver_1 : decode cX6_soundCodesOver 1 = .ok (.istore_n 2, 1) := by decide +kernel
theorem dX6_soundCodesOver_2 : decode cX6_soundCodesOver 2 = .ok (.iconst 0, 1) := by decide +kernel
theorem dX6_soundCodesOver_3 : decode cX6_soundCodesOver 3 = .ok (.istore_n 3, 1) := by decide +kernel
theorem dX6_soundCodesOver_4 : decode cX6_soundCodesOver 4 = .ok (.iload_n 3, 1) := by decide +kernel
theorem dX6_soundCodesOver_5 : decode cX6_soundCodesOver 5 = .ok (.bipush 81, 2) := by decide +kernel
theorem dX6_soundCodesOver_7 : decode cX6_soundCodesOver 7 = .ok (.if_icmp .ge 32, 3) := by decide +kernel
theorem dX6_soundCodesOver_10 : decode cX6_soundCodesOver 10 = .ok (.aload_n 0, 1) := by decide +kernel
theorem dX6_soundCodesOver_11 : decode cX6_soundCodesOver 11 = .ok (.getfield 37, 3) := by decide +kernel
theorem dX6_soundCodesOver_14 : decode cX6_soundCodesOver 14 = .ok (.iload_n 1, 1) := by decide +kernel
theorem dX6_soundCodesOver_15 : decode cX6_soundCodesOver 15 = .ok (.iload_n 3, 1) := by decide +kernel
theorem dX6_soundCodesOver_16 : decode cX6_soundCodesOver 16 = .ok (.invokevirtual 464, 3) := by decide +kernel
theorem dX6_soundCodesOver_19 : decode cX6_soundCodesOver 19 = .ok (.ifCond .eq 14, 3) := by decide +kernel
theorem dX6_soundCodesOver_22 : decode cX6_soundCodesOver 22 = .ok (.aload_n 0, 1) := by decide +kernel
theorem dX6_soundCodesOver_23 : decode cX6_soundCodesOver 23 = .ok (.iload_n 3, 1) := by decide +kernel
theorem dX6_soundCodesOver_24 : decode cX6_soundCodesOver 24 = .ok (.invokevirtual 282, 3) := by decide +kernel
theorem dX6_soundCodesOver_27 : decode cX6_soundCodesOver 27 = .ok (.ifCond .eq 6, 3) := by decide +kernel
theorem dX6_soundCodesOver_30 : decode cX6_soundCodesOver 30 = .ok (.iinc 2 1, 3) := by decide +kernel
theorem dX6_soundCodesOver_33 : decode cX6_soundCodesOver 33 = .ok (.iinc 3 1, 3) := by decide +kernel
theorem dX6_soundCodesOver_36 : decode cX6_soundCodesOver 36 = .ok (.goto (-32), 3) := by decide +kernel
theorem dX6_soundCodesOver_39 : decode cX6_soundCodesOver 39 = .ok (.iload_n 2, 1) := by decide +kernel
theorem dX6_soundCodesOver_40 : decode cX6_soundCodesOver 40 = .ok (.ireturn, 1) := by decide +kernel
theorem dX6_soundCodesUnder_0 : decode cX6_soundCodesUnder 0 = .ok (.iconst 0, 1) := by decide +kernel
theorem dX6_soundCodesUnder_1 : decode cX6_soundCodesUnder 1 = .ok (.istore_n 2, 1) := by decide +kernel
theorem dX6_soundCodesUnder_2 : decode cX6_soundCodesUnder 2 = .ok (.iconst 0, 1) := by decide +kernel
theorem dX6_soundCodesUnder_3 : decode cX6_soundCodesUnder 3 = .ok (.istore_n 3, 1) := by decide +kernel
theorem dX6_soundCodesUnder_4 : decode cX6_soundCodesUnder 4 = .ok (.iload_n 3, 1) := by decide +kernel
theorem dX6_soundCodesUnder_5 : decode cX6_soundCodesUnder 5 = .ok (.bipush 81, 2) := by decide +kernel
theorem dX6_soundCodesUnder_7 : decode cX6_soundCodesUnder 7 = .ok (.if_icmp .ge 32, 3) := by decide +kernel
theorem dX6_soundCodesUnder_10 : decode cX6_soundCodesUnder 10 = .ok (.aload_n 0, 1) := by decide +kernel
theorem dX6_soundCodesUnder_11 : decode cX6_soundCodesUnder 11 = .ok (.getfield 37, 3) := by decide +kernel
theorem dX6_soundCodesUnder_14 : decode cX6_soundCodesUnder 14 = .ok (.iload_n 3, 1) := by decide +kernel
theorem dX6_soundCodesUnder_15 : decode cX6_soundCodesUnder 15 = .ok (.iload_n 1, 1) := by decide +kernel
theorem dX6_soundCodesUnder_16 : decode cX6_soundCodesUnder 16 = .ok (.invokevirtual 464, 3) := by decide +kernel
theorem dX6_soundCodesUnder_19 : decode cX6_soundCodesUnder 19 = .ok (.ifCond .eq 14, 3) := by decide +kernel
theorem dX6_soundCodesUnder_22 : decode cX6_soundCodesUnder 22 = .ok (.aload_n 0, 1) := by decide +kernel
theorem dX6_soundCodesUnder_23 : decode cX6_soundCodesUnder 23 = .ok (.iload_n 3, 1) := by decide +kernel
theorem dX6_soundCodesUnder_24 : decode cX6_soundCodesUnder 24 = .ok (.invokevirtual 282, 3) := by decide +kernel
theorem dX6_soundCodesUnder_27 : decode cX6_soundCodesUnder 27 = .ok (.ifCond .eq 6, 3) := by decide +kernel
theorem dX6_soundCodesUnder_30 : decode cX6_soundCodesUnder 30 = .ok (.iinc 2 1, 3) := by decide +kernel
theorem dX6_soundCodesUnder_33 : decode cX6_soundCodesUnder 33 = .ok (.iinc 3 1, 3) := by decide +kernel
theorem dX6_soundCodesUnder_36 : decode cX6_soundCodesUnder 36 = .ok (.goto (-32), 3) := by decide +kernel
theorem dX6_soundCodesUnder_39 : decode cX6_soundCodesUnder 39 = .ok (.iload_n 2, 1) := by decide +kernel
theorem dX6_soundCodesUnder_40 : decode cX6_soundCodesUnder 40 = .ok (.ireturn, 1) := by decide +kernel
theorem dX6_findMost_0 : decode cX6_findMost 0 = .ok (.iconst 0, 1) := by decide +kernel
theorem dX6_findMost_1 : decode cX6_findMost 1 = .ok (.istore_n 1, 1) := by decide +kernel
theorem dX6_findMost_2 : decode cX6_findMost 2 = .ok (.iconst 0, 1) := by decide +kernel
theorem dX6_findMost_3 : decode cX6_findMost 3 = .ok (.istore_n 2, 1) := by decide +kernel
theorem dX6_findMost_4 : decode cX6_findMost 4 = .ok (.iload_n 2, 1) := by decide +kernel
theorem dX6_findMost_5 : decode cX6_findMost 5 = .ok (.bipush 81, 2) := by decide +kernel
theorem dX6_findMost_7 : decode cX6_findMost 7 = .ok (.if_icmp .ge 48, 3) := by decide +kernel
theorem dX6_findMost_10 : decode cX6_findMost 10 = .ok (.aload_n 0, 1) := by decide +kernel
theorem dX6_findMost_11 : decode cX6_findMost 11 = .ok (.iload_n 2, 1) := by decide +kernel
theorem dX6_findMost_12 : decode cX6_findMost 12 = .ok (.invokevirtual 291, 3) := by decide +kernel
theorem dX6_findMost_15 : decode cX6_findMost 15 = .ok (.istore_n 3, 1) := by decide +kernel
theorem dX6_findMost_16 : decode cX6_findMost 16 = .ok (.iload_n 1, 1) := by decide +kernel
theorem dX6_findMost_17 : decode cX6_findMost 17 = .ok (.ifCond .ne 16, 3) := by decide +kernel
theorem dX6_findMost_20 : decode cX6_findMost 20 = .ok (.iload_n 3, 1) := by decide +kernel
theorem dX6_findMost_21 : decode cX6_findMost 21 = .ok (.aload_n 0, 1) := by decide +kernel
theorem dX6_findMost_22 : decode cX6_findMost 22 = .ok (.getfield 46, 3) := by decide +kernel
theorem dX6_findMost_25 : decode cX6_findMost 25 = .ok (.getfield 473, 3) := by decide +kernel
theorem dX6_findMost_28 : decode cX6_findMost 28 = .ok (.iload_n 2, 1) := by decide +kernel
theorem dX6_findMost_29 : decode cX6_findMost 29 = .ok (.baload, 1) := by decide +kernel
theorem dX6_findMost_30 : decode cX6_findMost 30 = .ok (.if_icmp .eq 7, 3) := by decide +kernel
theorem dX6_findMost_33 : decode cX6_findMost 33 = .ok (.iconst 1, 1) := by decide +kernel
theorem dX6_findMost_34 : decode cX6_findMost 34 = .ok (.goto 4, 3) := by decide +kernel
theorem dX6_findMost_37 : decode cX6_findMost 37 = .ok (.iconst 0, 1) := by decide +kernel
theorem dX6_findMost_38 : decode cX6_findMost 38 = .ok (.istore_n 1, 1) := by decide +kernel
theorem dX6_findMost_39 : decode cX6_findMost 39 = .ok (.aload_n 0, 1) := by decide +kernel
theorem dX6_findMost_40 : decode cX6_findMost 40 = .ok (.getfield 46, 3) := by decide +kernel
theorem dX6_findMost_43 : decode cX6_findMost 43 = .ok (.getfield 473, 3) := by decide +kernel
theorem dX6_findMost_46 : decode cX6_findMost 46 = .ok (.iload_n 2, 1) := by decide +kernel
theorem dX6_findMost_47 : decode cX6_findMost 47 = .ok (.iload_n 3, 1) := by decide +kernel
theorem dX6_findMost_48 : decode cX6_findMost 48 = .ok (.bastore, 1) := by decide +kernel
theorem dX6_findMost_49 : decode cX6_findMost 49 = .ok (.iinc 2 1, 3) := by decide +kernel
theorem dX6_findMost_52 : decode cX6_findMost 52 = .ok (.goto (-48), 3) := by decide +kernel
theorem dX6_findMost_55 : decode cX6_findMost 55 = .ok (.iload_n 1, 1) := by decide +kernel
theorem dX6_findMost_56 : decode cX6_findMost 56 = .ok (.ifCond .eq 17, 3) := by decide +kernel
theorem dX6_findMost_59 : decode cX6_findMost 59 = .ok (.aload_n 0, 1) := by decide +kernel
theorem dX6_findMost_60 : decode cX6_findMost 60 = .ok (.getfield 46, 3) := by decide +kernel
theorem dX6_findMost_63 : decode cX6_findMost 63 = .ok (.invokevirtual 477, 3) := by decide +kernel
theorem dX6_findMost_66 : decode cX6_findMost 66 = .ok (.aload_n 0, 1) := by decide +kernel
theorem dX6_findMost_67 : decode cX6_findMost 67 = .ok (.getfield 46, 3) := by decide +kernel
theorem dX6_findMost_70 : decode cX6_findMost 70 = .ok (.invokevirtual 480, 3) := by decide +kernel
theorem dX6_findMost_73 : decode cX6_findMost 73 = .ok (.return_, 1) := by decide +kernel
