theorem dX4_remove_22 : decode cX4_remove 22 = .ok (.invokevirtual 189, 3) := by decide +kernel
theorem dX4_remove_25 : decode cX4_remove 25 = .ok (.ifCond .ne 5, 3) := by decide +kernel
theorem dX4_remove_28 : decode cX4_remove 28 = .ok (.iconst 0, 1) := by decide +kernel
theorem dX4_remove_29 : decode cX4_remove 29 = .ok (.ireturn, 1) := by decide +kernel
theorem dX4_remove_30 : decode cX4_remove 30 = .ok (.sipush 18000, 3) := by decide +kernel
theorem dX4_remove_33 : decode cX4_remove 33 = .ok (.istore_n 3, 1) := by decide +kernel
theorem dX4_remove_34 : decode cX4_remove 34 = .ok (.aload_n 0, 1) := by decide +kernel
theorem dX4_remove_35 : decode cX4_remove 35 = .ok (.getfield 94, 3) := by decide +kernel
theorem dX4_remove_38 : decode cX4_remove 38 = .ok (.bipush 60, 2) := by decide +kernel
theorem dX4_remove_40 : decode cX4_remove 40 = .ok (.dup2, 1) := by decide +kernel
theorem dX4_remove_41 : decode cX4_remove 41 = .ok (.iaload, 1) := by decide +kernel
theorem dX4_remove_42 : decode cX4_remove 42 = .ok (.iconst 1, 1) := by decide +kernel
theorem dX4_remove_43 : decode cX4_remove 43 = .ok (.isub, 1) := by decide +kernel
theorem dX4_remove_44 : decode cX4_remove 44 = .ok (.iastore, 1) := by decide +kernel
theorem dX4_remove_45 : decode cX4_remove 45 = .ok (.iload_n 2, 1) := by decide +kernel
theorem dX4_remove_46 : decode cX4_remove 46 = .ok (.istore 4, 2) := by decide +kernel
theorem dX4_remove_48 : decode cX4_remove 48 = .ok (.iload 4, 2) := by decide +kernel
theorem dX4_remove_50 : decode cX4_remove 50 = .ok (.aload_n 0, 1) := by decide +kernel
theorem dX4_remove_51 : decode cX4_remove 51 = .ok (.getfield 94, 3) := by decide +kernel
theorem dX4_remove_54 : decode cX4_remove 54 = .ok (.bipush 60, 2) := by decide +kernel
theorem dX4_remove_56 : decode cX4_remove 56 = .ok (.iaload, 1) := by decide +kernel
theorem dX4_remove_57 : decode cX4_remove 57 = .ok (.if_icmp .ge 49, 3) := by decide +kernel
theorem dX4_remove_60 : decode cX4_remove 60 = .ok (.aload_n 0, 1) := by decide +kernel
theorem dX4_remove_61 : decode cX4_remove 61 = .ok (.getfield 88, 3) := by decide +kernel
theorem dX4_remove_64 : decode cX4_remove 64 = .ok (.iload_n 3, 1) := by decide +kernel
theorem dX4_remove_65 : decode cX4_remove 65 = .ok (.iload 4, 2) := by decide +kernel
theorem dX4_remove_67 : decode cX4_remove 67 = .ok (.iadd, 1) := by decide +kernel
theorem dX4_remove_68 : decode cX4_remove 68 = .ok (.aload_n 0, 1) := by decide +kernel
theorem dX4_remove_69 : decode cX4_remove 69 = .ok (.getfield 88, 3) := by decide +kernel
theorem dX4_remove_72 : decode cX4_remove 72 = .ok (.iload_n 3, 1) := by decide +kernel
theorem dX4_remove_73 : decode cX4_remove 73 = .ok (.iload 4, 2) := by decide +kernel
theorem dX4_remove_75 : decode cX4_remove 75 = .ok (.iadd, 1) := by decide +kernel
theorem dX4_remove_76 : decode cX4_remove 76 = .ok (.iconst 1, 1) := by decide +kernel
theorem dX4_remove_77 : decode cX4_remove 77 = .ok (.iadd, 1) := by decide +kernel
theorem dX4_remove_78 : decode cX4_remove 78 = .ok (.iaload, 1) := by decide +kernel
theorem dX4_remove_79 : decode cX4_remove 79 = .ok (.iastore, 1) := by decide +kernel
theorem dX4_remove_80 : decode cX4_remove 80 = .ok (.aload_n 0, 1) := by decide +kernel
theorem dX4_remove_81 : decode cX4_remove 81 = .ok (.getfield 91, 3) := by decide +kernel
theorem dX4_remove_84 : decode cX4_remove 84 = .ok (.iload_n 3, 1) := by decide +kernel
theorem dX4_remove_85 : decode cX4_remove 85 = .ok (.iload 4, 2) := by decide +kernel
theorem dX4_remove_87 : decode cX4_remove 87 = .ok (.iadd, 1) := by decide +kernel
theorem dX4_remove_88 : decode cX4_remove 88 = .ok (.aload_n 0, 1) := by decide +kernel
theorem dX4_remove_89 : decode cX4_remove 89 = .ok (.getfield 91, 3) := by decide +kernel
theorem dX4_remove_92 : decode cX4_remove 92 = .ok (.iload_n 3, 1) := by decide +kernel
theorem dX4_remove_93 : decode cX4_remove 93 = .ok (.iload 4, 2) := by decide +kernel
theorem dX4_remove_95 : decode cX4_remove 95 = .ok (.iadd, 1) := by decide +kernel
theorem dX4_remove_96 : decode cX4_remove 96 = .ok (.iconst 1, 1) := by decide +kernel
theorem dX4_remove_97 : decode cX4_remove 97 = .ok (.iadd, 1) := by decide +kernel
theorem dX4_remove_98 : decode cX4_remove 98 = .ok (.iaload, 1) := by decide +kernel
theorem dX4_remove_99 : decode cX4_remove 99 = .ok (.iastore, 1) := by decide +kernel
theorem dX4_remove_100 : decode cX4_remove 100 = .ok (.iinc 4 1, 3) := by decide +kernel
theorem dX4_remove_103 : decode cX4_remove 103 = .ok (.goto (-55), 3) := by decide +kernel
theorem dX4_remove_106 : decode cX4_remove 106 = .ok (.aload_n 0, 1) := by decide +kernel
theorem dX4_remove_107 : decode cX4_remove 107 = .ok (.iconst 0, 1) := by decide +kernel
theorem dX4_remove_108 : decode cX4_remove 108 = .ok (.putfield 175, 3) := by decide +kernel
theorem dX4_remove_111 : decode cX4_remove 111 = .ok (.iconst 1, 1) := by decide +kernel
theorem dX4_remove_112 : decode cX4_remove 112 = .ok (.ireturn, 1) := by decide +kernel
theorem dX4_get_0 : decode cX4_get 0 = .ok (.aload_n 0, 1) := by decide +kernel
theorem dX4_get_1 : decode cX4_get 1 = .ok (.iload_n 1, 1) := by decide +kernel
theorem dX4_get_2 : decode cX4_get 2 = .ok (.invokevirtual 193, 3) := by decide +kernel
theorem dX4_get_5 : decode cX4_get 5 = .ok (.ifCond .eq 10, 3) := by decide +kernel
theorem dX4_get_8 : decode cX4_get 8 = .ok (.iload_n 2, 1) := by decide +kernel
theorem dX4_get_9 : decode cX4_get 9 = .ok (.invokestatic 182, 3) := by decide +kernel
theorem dX4_get_12 : decode cX4_get 12 = .ok (.ifCond .ne 7, 3) := by decide +kernel
theorem dX4_get_15 : decode cX4_get 15 = .ok (.ldc2_w 196, 3) := by decide +kernel
theorem dX4_get_18 : decode cX4_get 18 = .ok (.lreturn, 1) := by decide +kernel
theorem dX4_get_19 : decode cX4_get 19 = .ok (.iload_n 1, 1) := by decide +kernel
theorem dX4_get_20 : decode cX4_get 20 = .ok (.invokestatic 198, 3) := by decide +kernel
theorem dX4_get_23 : decode cX4_get 23 = .ok (.istore_n 3, 1) := by decide +kernel
theorem dX4_get_24 : decode cX4_get 24 = .ok (.aload_n 0, 1) := by decide +kernel
theorem dX4_get_25 : decode cX4_get 25 = .ok (.iload_n 3, 1) := by decide +kernel
theorem dX4_get_26 : decode cX4_get 26 = .ok (.iload_n 2, 1) := by decide +kernel
theorem dX4_get_27 : decode cX4_get 27 = .ok (.invokevirtual 186, 3) := by decide +kernel
theorem dX4_get_30 : decode cX4_get 30 = .ok (.istore 4, 2) := by decide +kernel
theorem dX4_get_32 : decode cX4_get 32 = .ok (.aload_n 0, 1) := by decide +kernel
theorem dX4_get_33 : decode cX4_get 33 = .ok (.iload_n 3, 1) := by decide +kernel
theorem dX4_get_34 : decode cX4_get 34 = .ok (.iload 4, 2) := by decide +kernel
theorem dX4_get_36 : decode cX4_get 36 = .ok (.iload_n 2, 1) := by decide +kernel
theorem dX4_get_37 : decode cX4_get 37 = .ok (.invokevirtual 189, 3) := by decide +kernel
theorem dX4_get_40 : decode cX4_get 40 = .ok (.ifCond .eq 20, 3) := by decide +kernel
theorem dX4_get_43 : decode cX4_get 43 = .ok (.aload_n 0, 1) := by decide +kernel
theorem dX4_get_44 : decode cX4_get 44 = .ok (.getfield 91, 3) := by decide +kernel
theorem dX4_get_47 : decode cX4_get 47 = .ok (.sipush 300, 3) := by decide +kernel
theorem dX4_get_50 : decode cX4_get 50 = .ok (.iload_n 3, 1) := by decide +kernel
theorem dX4_get_51 : decode cX4_get 51 = .ok (.imul, 1) := by decide +kernel
theorem dX4_get_52 : decode cX4_get 52 = .ok (.iload 4, 2) := by decide +kernel
theorem dX4_get_54 : decode cX4_get 54 = .ok (.iadd, 1) := by decide +kernel
theorem dX4_get_55 : decode cX4_get 55 = .ok (.iaload, 1) := by decide +kernel
theorem dX4_get_56 : decode cX4_get 56 = .ok (.i2l, 1) := by decide +kernel
theorem dX4_get_57 : decode cX4_get 57 = .ok (.goto 6, 3) := by decide +kernel
theorem dX4_get_60 : decode cX4_get 60 = .ok (.ldc2_w 196, 3) := by decide +kernel
theorem dX4_get_63 : decode cX4_get 63 = .ok (.lreturn, 1) := by decide +kernel
theorem dX4_size_0 : decode cX4_size 0 = .ok (.aload_n 0, 1) := by decide +kernel
theorem dX4_size_1 : decode cX4_size 1 = .ok (.iload_n 1, 1) := by decide +kernel
theorem dX4_size_2 : decode cX4_size 2 = .ok (.invokevirtual 193, 3) := by decide +kernel
theorem dX4_size_5 : decode cX4_size 5 = .ok (.ifCond .eq 15, 3) := by decide +kernel
theorem dX4_size_8 : decode cX4_size 8 = .ok (.aload_n 0, 1) := by decide +kernel
theorem dX4_size_9 : decode cX4_size 9 = .ok (.getfield 94, 3) := by decide +kernel
theorem dX4_size_12 : decode cX4_size 12 = .ok (.iload_n 1, 1) := by decide +kernel
theorem dX4_size_13 : decode cX4_size 13 = .ok (.invokestatic 198, 3) := by decide +kernel
theorem dX4_size_16 : decode cX4_size 16 = .ok (.iaload, 1) := by decide +kernel
theorem dX4_size_17 : decode cX4_size 17 = .ok (.goto 4, 3) := by decide +kernel
theorem dX4_size_20 : decode cX4_size 20 = .ok (.iconst (-1), 1) := by decide +kernel
theorem dX4_size_21 : decode cX4_size 21 = .ok (.ireturn, 1) := by decide +kernel
theorem dX4_copyRow_0 : decode cX4_copyRow 0 = .ok (.aload_n 0, 1) := by decide +kernel
theorem dX4_copyRow_1 : decode cX4_copyRow 1 = .ok (.getfield 94, 3) := by decide +kernel
theorem dX4_copyRow_4 : decode cX4_copyRow 4 = .ok (.iload_n 2, 1) := by decide +kernel
theorem dX4_copyRow_5 : decode cX4_copyRow 5 = .ok (.aload_n 0, 1) := by decide +kernel
theorem dX4_copyRow_6 : decode cX4_copyRow 6 = .ok (.getfield 94, 3) := by decide +kernel
theorem dX4_copyRow_9 : decode cX4_copyRow 9 = .ok (.iload_n 1, 1) := by decide +kernel
theorem dX4_copyRow_10 : decode cX4_copyRow 10 = .ok (.iaload, 1) := by decide +kernel
theorem dX4_copyRow_11 : decode cX4_copyRow 11 = .ok (.iastore, 1) := by decide +kernel
theorem dX4_copyRow_12 : decode cX4_copyRow 12 = .ok (.iconst 0, 1) := by decide +kernel
theorem dX4_copyRow_13 : decode cX4_copyRow 13 = .ok (.istore_n 3, 1) := by decide +kernel
theorem dX4_copyRow_14 : decode cX4_copyRow 14 = .ok (.iload_n 3, 1) := by decide +kernel
theorem dX4_copyRow_15 : decode cX4_copyRow 15 = .ok (.aload_n 0, 1) := by decide +kernel
theorem dX4_copyRow_16 : decode cX4_copyRow 16 = .ok (.getfield 94, 3) := by decide +kernel
theorem dX4_copyRow_19 : decode cX4_copyRow 19 = .ok (.iload_n 1, 1) := by decide +kernel
theorem dX4_copyRow_20 : decode cX4_copyRow 20 = .ok (.iaload, 1) := by decide +kernel
theorem dX4_copyRow_21 : decode cX4_copyRow 21 = .ok (.if_icmp .ge 57, 3) := by decide +kernel
theorem dX4_copyRow_24 : decode cX4_copyRow 24 = .ok (.aload_n 0, 1) := by decide +kernel
theorem dX4_copyRow_25 : decode cX4_copyRow 25 = .ok (.getfield 88, 3) := by decide +kernel
theorem dX4_copyRow_28 : decode cX4_copyRow 28 = .ok (.sipush 300, 3) := by decide +kernel
theorem dX4_copyRow_31 : decode cX4_copyRow 31 = .ok (.iload_n 2, 1) := by decide +kernel
theorem dX4_copyRow_32 : decode cX4_copyRow 32 = .ok (.imul, 1) := by decide +kernel
theorem dX4_copyRow_33 : decode cX4_copyRow 33 = .ok (.iload_n 3, 1) := by decide +kernel
theorem dX4_copyRow_34 : decode cX4_copyRow 34 = .ok (.iadd, 1) := by decide +kernel
theorem dX4_copyRow_35 : decode cX4_copyRow 35 = .ok (.aload_n 0, 1) := by decide +kernel
theorem dX4_copyRow_36 : decode cX4_copyRow 36 = .ok (.getfield 88, 3) := by decide +kernel
theorem dX4_copyRow_39 : decode cX4_copyRow 39 = .ok (.sipush 300, 3) := by decide +kernel
theorem dX4_copyRow_42 : decode cX4_copyRow 42 = .ok (.iload_n 1, 1) := by decide +kernel
theorem dX4_copyRow_43 : decode cX4_copyRow 43 = .ok (.imul, 1) := by decide +kernel
theorem dX4_copyRow_44 : decode cX4_copyRow 44 = .ok (.iload_n 3, 1) := by decide +kernel
theorem dX4_copyRow_45 : decode cX4_copyRow 45 = .ok (.iadd, 1) := by decide +kernel
theorem dX4_copyRow_46 : decode cX4_copyRow 46 = .ok (.iaload, 1) := by decide +kernel
theorem dX4_copyRow_47 : decode cX4_copyRow 47 = .ok (.iastore, 1) := by decide +kernel
theorem dX4_copyRow_48 : decode cX4_copyRow 48 = .ok (.aload_n 0, 1) := by decide +kernel
theorem dX4_copyRow_49 : decode cX4_copyRow 49 = .ok (.getfield 91, 3) := by decide +kernel
theorem dX4_copyRow_52 : decode cX4_copyRow 52 = .ok (.sipush 300, 3) := by decide +kernel
theorem dX4_copyRow_55 : decode cX4_copyRow 55 = .ok (.iload_n 2, 1) := by decide +kernel
theorem dX4_copyRow_56 : decode cX4_copyRow 56 = .ok (.imul, 1) := by decide +kernel
theorem dX4_copyRow_57 : decode cX4_copyRow 57 = .ok (.iload_n 3, 1) := by decide +kernel
theorem dX4_copyRow_58 : decode cX4_copyRow 58 = .ok (.iadd, 1) := by decide +kernel
theorem dX4_copyRow_59 : decode cX4_copyRow 59 = .ok (.aload_n 0, 1) := by decide +kernel
theorem dX4_copyRow_60 : decode cX4_copyRow 60 = .ok (.getfield 91, 3) := by decide +kernel
theorem dX4_copyRow_63 : decode cX4_copyRow 63 = .ok (.sipush 300, 3) := by decide +kernel
theorem dX4_copyRow_66 : decode cX4_copyRow 66 = .ok (.iload_n 1, 1) := by decide +kernel
theorem dX4_copyRow_67 : decode cX4_copyRow 67 = .ok (.imul, 1) := by decide +kernel
theorem dX4_copyRow_68 : decode cX4_copyRow 68 = .ok (.iload_n 3, 1) := by decide +kernel
theorem dX4_copyRow_69 : decode cX4_copyRow 69 = .ok (.iadd, 1) := by decide +kernel
theorem dX4_copyRow_70 : decode cX4_copyRow 70 = .ok (.iaload, 1) := by decide +kernel
theorem dX4_copyRow_71 : decode cX4_copyRow 71 = .ok (.iastore, 1) := by decide +kernel
theorem dX4_copyRow_72 : decode cX4_copyRow 72 = .ok (.iinc 3 1, 3) := by decide +kernel
theorem dX4_copyRow_75 : decode cX4_copyRow 75 = .ok (.goto (-61), 3) := by decide +kernel
theorem dX4_copyRow_78 : decode cX4_copyRow 78 = .ok (.iconst 0, 1) := by decide +kernel
theorem dX4_copyRow_79 : decode cX4_copyRow 79 = .ok (.istore_n 3, 1) := by decide +kernel
theorem dX4_copyRow_80 : decode cX4_copyRow 80 = .ok (.iload_n 3, 1) := by decide +kernel
theorem dX4_copyRow_81 : decode cX4_copyRow 81 = .ok (.bipush 8, 2) := by decide +kernel
theorem dX4_copyRow_83 : decode cX4_copyRow 83 = .ok (.if_icmp .ge 31, 3) := by decide +kernel
theorem dX4_copyRow_86 : decode cX4_copyRow 86 = .ok (.aload_n 0, 1) := by decide +kernel
theorem dX4_copyRow_87 : decode cX4_copyRow 87 = .ok (.getfield 97, 3) := by decide +kernel
theorem dX4_copyRow_90 : decode cX4_copyRow 90 = .ok (.bipush 8, 2) := by decide +kernel
theorem dX4_copyRow_92 : decode cX4_copyRow 92 = .ok (.iload_n 2, 1) := by decide +kernel
theorem dX4_copyRow_93 : decode cX4_copyRow 93 = .ok (.imul, 1) := by decide +kernel
theorem dX4_copyRow_94 : decode cX4_copyRow 94 = .ok (.iload_n 3, 1) := by decide +kernel
theorem dX4_copyRow_95 : decode cX4_copyRow 95 = .ok (.iadd, 1) := by decide +kernel
theorem dX4_copyRow_96 : decode cX4_copyRow 96 = .ok (.aload_n 0, 1) := by decide +kernel
theorem dX4_copyRow_97 : decode cX4_copyRow 97 = .ok (.getfield 97, 3) := by decide +kernel
theorem dX4_copyRow_100 : decode cX4_copyRow 100 = .ok (.bipush 8, 2) := by decide +kernel
theorem dX4_copyRow_102 : decode cX4_copyRow 102 = .ok (.iload_n 1, 1) := by decide +kernel
theorem dX4_copyRow_103 : decode cX4_copyRow 103 = .ok (.imul, 1) := by decide +kernel
theorem dX4_copyRow_104 : decode cX4_copyRow 104 = .ok (.iload_n 3, 1) := by decide +kernel
theorem dX4_copyRow_105 : decode cX4_copyRow 105 = .ok (.iadd, 1) := by decide +kernel
theorem dX4_copyRow_106 : decode cX4_copyRow 106 = .ok (.iaload, 1) := by decide +kernel
theorem dX4_copyRow_107 : decode cX4_copyRow 107 = .ok (.iastore, 1) := by decide +kernel
theorem dX4_copyRow_108 : decode cX4_copyRow 108 = .ok (.iinc 3 1, 3) := by decide +kernel
theorem dX4_copyRow_111 : decode cX4_copyRow 111 = .ok (.goto (-31), 3) := by decide +kernel
theorem dX4_copyRow_114 : decode cX4_copyRow 114 = .ok (.return_, 1) := by decide +kernel
theorem dX4_commit_0 : decode cX4_commit 0 = .ok (.aload_n 0, 1) := by decide +kernel
theorem dX4_commit_1 : decode cX4_commit 1 = .ok (.getfield 134, 3) := by decide +kernel
theorem dX4_commit_4 : decode cX4_commit 4 = .ok (.bipush 60, 2) := by decide +kernel
theorem dX4_commit_6 : decode cX4_commit 6 = .ok (.if_icmp .ne 6, 3) := by decide +kernel
theorem dX4_commit_9 : decode cX4_commit 9 = .ok (.bipush (-3), 2) := by decide +kernel
theorem dX4_commit_11 : decode cX4_commit 11 = .ok (.ireturn, 1) := by decide +kernel
theorem dX4_commit_12 : decode cX4_commit 12 = .ok (.aload_n 0, 1) := by decide +kernel
theorem dX4_commit_13 : decode cX4_commit 13 = .ok (.invokevirtual 202, 3) := by decide +kernel
theorem dX4_commit_16 : decode cX4_commit 16 = .ok (.aload_n 0, 1) := by decide +kernel
theorem dX4_commit_17 : decode cX4_commit 17 = .ok (.bipush 60, 2) := by decide +kernel
theorem dX4_commit_19 : decode cX4_commit 19 = .ok (.aload_n 0, 1) := by decide +kernel
theorem dX4_commit_20 : decode cX4_commit 20 = .ok (.getfield 134, 3) := by decide +kernel
theorem dX4_commit_23 : decode cX4_commit 23 = .ok (.invokevirtual 205, 3) := by decide +kernel
theorem dX4_commit_26 : decode cX4_commit 26 = .ok (.aload_n 0, 1) := by decide +kernel
theorem dX4_commit_27 : decode cX4_commit 27 = .ok (.dup, 1) := by decide +kernel
theorem dX4_commit_28 : decode cX4_commit 28 = .ok (.getfield 134, 3) := by decide +kernel
theorem dX4_commit_31 : decode cX4_commit 31 = .ok (.iconst 1, 1) := by decide +kernel
theorem dX4_commit_32 : decode cX4_commit 32 = .ok (.iadd, 1) := by decide +kernel
theorem dX4_commit_33 : decode cX4_commit 33 = .ok (.putfield 134, 3) := by decide +kernel
theorem dX4_commit_36 : decode cX4_commit 36 = .ok (.aload_n 0, 1) := by decide +kernel
theorem dX4_commit_37 : decode cX4_commit 37 = .ok (.getfield 134, 3) := by decide +kernel
theorem dX4_commit_40 : decode cX4_commit 40 = .ok (.iconst 1, 1) := by decide +kernel
theorem dX4_commit_41 : decode cX4_commit 41 = .ok (.isub, 1) := by decide +kernel
theorem dX4_commit_42 : decode cX4_commit 42 = .ok (.ireturn, 1) := by decide +kernel
theorem dX4_back_0 : decode cX4_back 0 = .ok (.iload_n 1, 1) := by decide +kernel
theorem dX4_back_1 : decode cX4_back 1 = .ok (.ifCond .lt 11, 3) := by decide +kernel
theorem dX4_back_4 : decode cX4_back 4 = .ok (.iload_n 1, 1) := by decide +kernel
theorem dX4_back_5 : decode cX4_back 5 = .ok (.aload_n 0, 1) := by decide +kernel
theorem dX4_back_6 : decode cX4_back 6 = .ok (.getfield 134, 3) := by decide +kernel
theorem dX4_back_9 : decode cX4_back 9 = .ok (.if_icmp .lt 5, 3) := by decide +kernel
theorem dX4_back_12 : decode cX4_back 12 = .ok (.iconst (-1), 1) := by decide +kernel
theorem dX4_back_13 : decode cX4_back 13 = .ok (.ireturn, 1) := by decide +kernel
theorem dX4_back_14 : decode cX4_back 14 = .ok (.aload_n 0, 1) := by decide +kernel
theorem dX4_back_15 : decode cX4_back 15 = .ok (.iload_n 1, 1) := by decide +kernel
theorem dX4_back_16 : decode cX4_back 16 = .ok (.bipush 60, 2) := by decide +kernel
theorem dX4_back_18 : decode cX4_back 18 = .ok (.invokevirtual 205, 3) := by decide +kernel
theorem dX4_back_21 : decode cX4_back 21 = .ok (.aload_n 0, 1) := by decide +kernel
theorem dX4_back_22 : decode cX4_back 22 = .ok (.iconst 1, 1) := by decide +kernel
theorem dX4_back_23 : decode cX4_back 23 = .ok (.putfield 175, 3) := by decide +kernel
theorem dX4_back_26 : decode cX4_back 26 = .ok (.aload_n 0, 1) := by decide +kernel
theorem dX4_back_27 : decode cX4_back 27 = .ok (.getfield 94, 3) := by decide +kernel
theorem dX4_back_30 : decode cX4_back 30 = .ok (.bipush 60, 2) := by decide +kernel
theorem dX4_back_32 : decode cX4_back 32 = .ok (.iaload, 1) := by decide +kernel
theorem dX4_back_33 : decode cX4_back 33 = .ok (.ireturn, 1) := by decide +kernel
theorem dX4_word_0 : decode cX4_word 0 = .ok (.aload_n 0, 1) := by decide +kernel
theorem dX4_word_1 : decode cX4_word 1 = .ok (.iload_n 1, 1) := by decide +kernel
theorem dX4_word_2 : decode cX4_word 2 = .ok (.invokevirtual 193, 3) := by decide +kernel
theorem dX4_word_5 : decode cX4_word 5 = .ok (.ifCond .eq 13, 3) := by decide +kernel
theorem dX4_word_8 : decode cX4_word 8 = .ok (.iload_n 2, 1) := by decide +kernel
theorem dX4_word_9 : decode cX4_word 9 = .ok (.ifCond .lt 9, 3) := by decide +kernel
theorem dX4_word_12 : decode cX4_word 12 = .ok (.iload_n 2, 1) := by decide +kernel
theorem dX4_word_13 : decode cX4_word 13 = .ok (.bipush 8, 2) := by decide +kernel
theorem dX4_word_15 : decode cX4_word 15 = .ok (.if_icmp .lt 5, 3) := by decide +kernel
theorem dX4_word_18 : decode cX4_word 18 = .ok (.iconst 0, 1) := by decide +kernel
theorem dX4_word_19 : decode cX4_word 19 = .ok (.ireturn, 1) := by decide +kernel
theorem dX4_word_20 : decode cX4_word 20 = .ok (.aload_n 0, 1) := by decide +kernel
theorem dX4_word_21 : decode cX4_word 21 = .ok (.invokevirtual 202, 3) := by decide +kernel
theorem dX4_word_24 : decode cX4_word 24 = .ok (.aload_n 0, 1) := by decide +kernel
theorem dX4_word_25 : decode cX4_word 25 = .ok (.getfield 97, 3) := by decide +kernel
theorem dX4_word_28 : decode cX4_word 28 = .ok (.bipush 8, 2) := by decide +kernel
theorem dX4_word_30 : decode cX4_word 30 = .ok (.iload_n 1, 1) := by decide +kernel
theorem dX4_word_31 : decode cX4_word 31 = .ok (.invokestatic 198, 3) := by decide +kernel
theorem dX4_word_34 : decode cX4_word 34 = .ok (.imul, 1) := by decide +kernel
theorem dX4_word_35 : decode cX4_word 35 = .ok (.iload_n 2, 1) := by decide +kernel
theorem dX4_word_36 : decode cX4_word 36 = .ok (.iadd, 1) := by decide +kernel
theorem dX4_word_37 : decode cX4_word 37 = .ok (.iaload, 1) := by decide +kernel
theorem dX4_word_38 : decode cX4_word 38 = .ok (.ireturn, 1) := by decide +kernel
theorem dX4_prove_0 : decode cX4_prove 0 = .ok (.aload_n 0, 1) := by decide +kernel
theorem dX4_prove_1 : decode cX4_prove 1 = .ok (.iload_n 1, 1) := by decide +kernel
theorem dX4_prove_2 : decode cX4_prove 2 = .ok (.invokevirtual 193, 3) := by decide +kernel
theorem dX4_prove_5 : decode cX4_prove 5 = .ok (.ifCond .eq 10, 3) := by decide +kernel
theorem dX4_prove_8 : decode cX4_prove 8 = .ok (.iload_n 2, 1) := by decide +kernel
theorem dX4_prove_9 : decode cX4_prove 9 = .ok (.invokestatic 182, 3) := by decide +kernel
theorem dX4_prove_12 : decode cX4_prove 12 = .ok (.ifCond .ne 5, 3) := by decide +kernel
theorem dX4_prove_15 : decode cX4_prove 15 = .ok (.iconst (-1), 1) := by decide +kernel
theorem dX4_prove_16 : decode cX4_prove 16 = .ok (.ireturn, 1) := by decide +kernel
theorem dX4_prove_17 : decode cX4_prove 17 = .ok (.aload_n 0, 1) := by decide +kernel
theorem dX4_prove_18 : decode cX4_prove 18 = .ok (.iload_n 1, 1) := by decide +kernel
theorem dX4_prove_19 : decode cX4_prove 19 = .ok (.invokestatic 198, 3) := by decide +kernel
theorem dX4_prove_22 : decode cX4_prove 22 = .ok (.iload_n 2, 1) := by decide +kernel
theorem dX4_prove_23 : decode cX4_prove 23 = .ok (.invokevirtual 179, 3) := by decide +kernel
theorem dX4_prove_26 : decode cX4_prove 26 = .ok (.aload_n 0, 1) := by decide +kernel
theorem dX4_prove_27 : decode cX4_prove 27 = .ok (.iconst 0, 1) := by decide +kernel
theorem dX4_prove_28 : decode cX4_prove 28 = .ok (.putfield 208, 3) := by decide +kernel
theorem dX4_prove_31 : decode cX4_prove 31 = .ok (.aload_n 0, 1) := by decide +kernel
theorem dX4_prove_32 : decode cX4_prove 32 = .ok (.getfield 121, 3) := by decide +kernel
theorem dX4_prove_35 : decode cX4_prove 35 = .ok (.aload_n 0, 1) := by decide +kernel
theorem dX4_prove_36 : decode cX4_prove 36 = .ok (.getfield 208, 3) := by decide +kernel
theorem dX4_prove_39 : decode cX4_prove 39 = .ok (.iaload, 1) := by decide +kernel
theorem dX4_prove_40 : decode cX4_prove 40 = .ok (.iconst 1, 1) := by decide +kernel
theorem dX4_prove_41 : decode cX4_prove 41 = .ok (.if_icmp .le 61, 3) := by decide +kernel
theorem dX4_prove_44 : decode cX4_prove 44 = .ok (.aload_n 0, 1) := by decide +kernel
theorem dX4_prove_45 : decode cX4_prove 45 = .ok (.dup, 1) := by decide +kernel
theorem dX4_prove_46 : decode cX4_prove 46 = .ok (.getfield 208, 3) := by decide +kernel
theorem dX4_prove_49 : decode cX4_prove 49 = .ok (.iconst 1, 1) := by decide +kernel
theorem dX4_prove_50 : decode cX4_prove 50 = .ok (.iadd, 1) := by decide +kernel
theorem dX4_prove_51 : decode cX4_prove 51 = .ok (.putfield 208, 3) := by decide +kernel
theorem dX4_prove_54 : decode cX4_prove 54 = .ok (.iconst 0, 1) := by decide +kernel
theorem dX4_prove_55 : decode cX4_prove 55 = .ok (.istore_n 3, 1) := by decide +kernel
theorem dX4_prove_56 : decode cX4_prove 56 = .ok (.iload_n 3, 1) := by decide +kernel
theorem dX4_prove_57 : decode cX4_prove 57 = .ok (.bipush 8, 2) := by decide +kernel
theorem dX4_prove_59 : decode cX4_prove 59 = .ok (.if_icmp .ge 40, 3) := by decide +kernel
theorem dX4_prove_62 : decode cX4_prove 62 = .ok (.aload_n 0, 1) := by decide +kernel
theorem dX4_prove_63 : decode cX4_prove 63 = .ok (.getfield 130, 3) := by decide +kernel
theorem dX4_prove_66 : decode cX4_prove 66 = .ok (.bipush 8, 2) := by decide +kernel
theorem dX4_prove_68 : decode cX4_prove 68 = .ok (.aload_n 0, 1) := by decide +kernel
theorem dX4_prove_69 : decode cX4_prove 69 = .ok (.getfield 208, 3) := by decide +kernel
theorem dX4_prove_72 : decode cX4_prove 72 = .ok (.imul, 1) := by decide +kernel
theorem dX4_prove_73 : decode cX4_prove 73 = .ok (.bipush 8, 2) := by decide +kernel
theorem dX4_prove_75 : decode cX4_prove 75 = .ok (.isub, 1) := by decide +kernel
theorem dX4_prove_76 : decode cX4_prove 76 = .ok (.iload_n 3, 1) := by decide +kernel
theorem dX4_prove_77 : decode cX4_prove 77 = .ok (.iadd, 1) := by decide +kernel
theorem dX4_prove_78 : decode cX4_prove 78 = .ok (.aload_n 0, 1) := by decide +kernel
theorem dX4_prove_79 : decode cX4_prove 79 = .ok (.getfield 127, 3) := by decide +kernel
theorem dX4_prove_82 : decode cX4_prove 82 = .ok (.bipush 8, 2) := by decide +kernel
theorem dX4_prove_84 : decode cX4_prove 84 = .ok (.aload_n 0, 1) := by decide +kernel
theorem dX4_prove_85 : decode cX4_prove 85 = .ok (.getfield 208, 3) := by decide +kernel
theorem dX4_prove_88 : decode cX4_prove 88 = .ok (.imul, 1) := by decide +kernel
theorem dX4_prove_89 : decode cX4_prove 89 = .ok (.iload_n 3, 1) := by decide +kernel
theorem dX4_prove_90 : decode cX4_prove 90 = .ok (.iadd, 1) := by decide +kernel
theorem dX4_prove_91 : decode cX4_prove 91 = .ok (.iaload, 1) := by decide +kernel
theorem dX4_prove_92 : decode cX4_prove 92 = .ok (.iastore, 1) := by decide +kernel
theorem dX4_prove_93 : decode cX4_prove 93 = .ok (.iinc 3 1, 3) := by decide +kernel
theorem dX4_prove_96 : decode cX4_prove 96 = .ok (.goto (-40), 3) := by decide +kernel
theorem dX4_prove_99 : decode cX4_prove 99 = .ok (.goto (-68), 3) := by decide +kernel
theorem dX4_prove_102 : decode cX4_prove 102 = .ok (.aload_n 0, 1) := by decide +kernel
theorem dX4_prove_103 : decode cX4_prove 103 = .ok (.aload_n 0, 1) := by decide +kernel
theorem dX4_prove_104 : decode cX4_prove 104 = .ok (.getfield 121, 3) := by decide +kernel
theorem dX4_prove_107 : decode cX4_prove 107 = .ok (.aload_n 0, 1) := by decide +kernel
theorem dX4_prove_108 : decode cX4_prove 108 = .ok (.getfield 208, 3) := by decide +kernel
theorem dX4_prove_111 : decode cX4_prove 111 = .ok (.iaload, 1) := by decide +kernel
theorem dX4_prove_112 : decode cX4_prove 112 = .ok (.iconst 1, 1) := by decide +kernel
theorem dX4_prove_113 : decode cX4_prove 113 = .ok (.if_icmp .ne 7, 3) := by decide +kernel
theorem dX4_prove_116 : decode cX4_prove 116 = .ok (.iconst 1, 1) := by decide +kernel
theorem dX4_prove_117 : decode cX4_prove 117 = .ok (.goto 4, 3) := by decide +kernel
theorem dX4_prove_120 : decode cX4_prove 120 = .ok (.iconst 0, 1) := by decide +kernel
theorem dX4_prove_121 : decode cX4_prove 121 = .ok (.putfield 211, 3) := by decide +kernel
theorem dX4_prove_124 : decode cX4_prove 124 = .ok (.aload_n 0, 1) := by decide +kernel
theorem dX4_prove_125 : decode cX4_prove 125 = .ok (.aload_n 0, 1) := by decide +kernel
theorem dX4_prove_126 : decode cX4_prove 126 = .ok (.getfield 211, 3) := by decide +kernel
theorem dX4_prove_129 : decode cX4_prove 129 = .ok (.ifCond .eq 20, 3) := by decide +kernel
theorem dX4_prove_132 : decode cX4_prove 132 = .ok (.aload_n 0, 1) := by decide +kernel
theorem dX4_prove_133 : decode cX4_prove 133 = .ok (.getfield 88, 3) := by decide +kernel
theorem dX4_prove_136 : decode cX4_prove 136 = .ok (.aload_n 0, 1) := by decide +kernel
theorem dX4_prove_137 : decode cX4_prove 137 = .ok (.getfield 124, 3) := by decide +kernel
theorem dX4_prove_140 : decode cX4_prove 140 = .ok (.aload_n 0, 1) := by decide +kernel
theorem dX4_prove_141 : decode cX4_prove 141 = .ok (.getfield 208, 3) := by decide +kernel
theorem dX4_prove_144 : decode cX4_prove 144 = .ok (.iaload, 1) := by decide +kernel
theorem dX4_prove_145 : decode cX4_prove 145 = .ok (.iaload, 1) := by decide +kernel
theorem dX4_prove_146 : decode cX4_prove 146 = .ok (.goto 4, 3) := by decide +kernel
theorem dX4_prove_149 : decode cX4_prove 149 = .ok (.iconst 0, 1) := by decide +kernel
theorem dX4_prove_150 : decode cX4_prove 150 = .ok (.putfield 214, 3) := by decide +kernel
theorem dX4_prove_153 : decode cX4_prove 153 = .ok (.aload_n 0, 1) := by decide +kernel
theorem dX4_prove_154 : decode cX4_prove 154 = .ok (.aload_n 0, 1) := by decide +kernel
theorem dX4_prove_155 : decode cX4_prove 155 = .ok (.getfield 211, 3) := by decide +kernel
theorem dX4_prove_158 : decode cX4_prove 158 = .ok (.ifCond .eq 20, 3) := by decide +kernel
theorem dX4_prove_161 : decode cX4_prove 161 = .ok (.aload_n 0, 1) := by decide +kernel
theorem dX4_prove_162 : decode cX4_prove 162 = .ok (.getfield 91, 3) := by decide +kernel
theorem dX4_prove_165 : decode cX4_prove 165 = .ok (.aload_n 0, 1) := by decide +kernel
theorem dX4_prove_166 : decode cX4_prove 166 = .ok (.getfield 124, 3) := by decide +kernel
theorem dX4_prove_169 : decode cX4_prove 169 = .ok (.aload_n 0, 1) := by decide +kernel
theorem dX4_prove_170 : decode cX4_prove 170 = .ok (.getfield 208, 3) := by decide +kernel
theorem dX4_prove_173 : decode cX4_prove 173 = .ok (.iaload, 1) := by decide +kernel
theorem dX4_prove_174 : decode cX4_prove 174 = .ok (.iaload, 1) := by decide +kernel
theorem dX4_prove_175 : decode cX4_prove 175 = .ok (.goto 4, 3) := by decide +kernel
theorem dX4_prove_178 : decode cX4_prove 178 = .ok (.iconst 0, 1) := by decide +kernel
theorem dX4_prove_179 : decode cX4_prove 179 = .ok (.putfield 217, 3) := by decide +kernel
theorem dX4_prove_182 : decode cX4_prove 182 = .ok (.aload_n 0, 1) := by decide +kernel
theorem dX4_prove_183 : decode cX4_prove 183 = .ok (.getfield 208, 3) := by decide +kernel
theorem dX4_prove_186 : decode cX4_prove 186 = .ok (.ireturn, 1) := by decide +kernel
theorem dX4_siblings_0 : decode cX4_siblings 0 = .ok (.aload_n 0, 1) := by decide +kernel
theorem dX4_siblings_1 : decode cX4_siblings 1 = .ok (.getfield 208, 3) := by decide +kernel
theorem dX4_siblings_4 : decode cX4_siblings 4 = .ok (.ireturn, 1) := by decide +kernel
theorem dX4_isSibling_0 : decode cX4_isSibling 0 = .ok (.iload_n 1, 1) := by decide +kernel
theorem dX4_isSibling_1 : decode cX4_isSibling 1 = .ok (.ifCond .lt 25, 3) := by decide +kernel
theorem dX4_isSibling_4 : decode cX4_isSibling 4 = .ok (.iload_n 1, 1) := by decide +kernel
theorem dX4_isSibling_5 : decode cX4_isSibling 5 = .ok (.aload_n 0, 1) := by decide +kernel
theorem dX4_isSibling_6 : decode cX4_isSibling 6 = .ok (.getfield 208, 3) := by decide +kernel
theorem dX4_isSibling_9 : decode cX4_isSibling 9 = .ok (.if_icmp .ge 17, 3) := by decide +kernel
theorem dX4_isSibling_12 : decode cX4_isSibling 12 = .ok (.iload_n 2, 1) := by decide +kernel
theorem dX4_isSibling_13 : decode cX4_isSibling 13 = .ok (.ifCond .lt 13, 3) := by decide +kernel
theorem dX4_isSibling_16 : decode cX4_isSibling 16 = .ok (.iload_n 2, 1) := by decide +kernel
theorem dX4_isSibling_17 : decode cX4_isSibling 17 = .ok (.bipush 8, 2) := by decide +kernel
theorem dX4_isSibling_19 : decode cX4_isSibling 19 = .ok (.if_icmp .ge 7, 3) := by decide +kernel
theorem dX4_isSibling_22 : decode cX4_isSibling 22 = .ok (.iconst 1, 1) := by decide +kernel
theorem dX4_isSibling_23 : decode cX4_isSibling 23 = .ok (.goto 4, 3) := by decide +kernel
theorem dX4_isSibling_26 : decode cX4_isSibling 26 = .ok (.iconst 0, 1) := by decide +kernel
theorem dX4_isSibling_27 : decode cX4_isSibling 27 = .ok (.ireturn, 1) := by decide +kernel
theorem dX4_sibling_0 : decode cX4_sibling 0 = .ok (.aload_n 0, 1) := by decide +kernel
theorem dX4_sibling_1 : decode cX4_sibling 1 = .ok (.iload_n 1, 1) := by decide +kernel
theorem dX4_sibling_2 : decode cX4_sibling 2 = .ok (.iload_n 2, 1) := by decide +kernel
theorem dX4_sibling_3 : decode cX4_sibling 3 = .ok (.invokevirtual 220, 3) := by decide +kernel
theorem dX4_sibling_6 : decode cX4_sibling 6 = .ok (.ifCond .eq 17, 3) := by decide +kernel
theorem dX4_sibling_9 : decode cX4_sibling 9 = .ok (.aload_n 0, 1) := by decide +kernel
theorem dX4_sibling_10 : decode cX4_sibling 10 = .ok (.getfield 130, 3) := by decide +kernel
theorem dX4_sibling_13 : decode cX4_sibling 13 = .ok (.bipush 8, 2) := by decide +kernel
theorem dX4_sibling_15 : decode cX4_sibling 15 = .ok (.iload_n 1, 1) := by decide +kernel
theorem dX4_sibling_16 : decode cX4_sibling 16 = .ok (.imul, 1) := by decide +kernel
theorem dX4_sibling_17 : decode cX4_sibling 17 = .ok (.iload_n 2, 1) := by decide +kernel
theorem dX4_sibling_18 : decode cX4_sibling 18 = .ok (.iadd, 1) := by decide +kernel
theorem dX4_sibling_19 : decode cX4_sibling 19 = .ok (.iaload, 1) := by decide +kernel
theorem dX4_sibling_20 : decode cX4_sibling 20 = .ok (.goto 4, 3) := by decide +kernel
theorem dX4_sibling_23 : decode cX4_sibling 23 = .ok (.iconst 0, 1) := by decide +kernel
theorem dX4_sibling_24 : decode cX4_sibling 24 = .ok (.ireturn, 1) := by decide +kernel
theorem dX4_end_0 : decode cX4_end 0 = .ok (.iload_n 1, 1) := by decide +kernel
theorem dX4_end_1 : decode cX4_end 1 = .ok (.ifCond .lt 8, 3) := by decide +kernel
theorem dX4_end_4 : decode cX4_end 4 = .ok (.iload_n 1, 1) := by decide +kernel
theorem dX4_end_5 : decode cX4_end 5 = .ok (.iconst 2, 1) := by decide +kernel
theorem dX4_end_6 : decode cX4_end 6 = .ok (.if_icmp .le 5, 3) := by decide +kernel
theorem dX4_end_9 : decode cX4_end 9 = .ok (.iconst (-1), 1) := by decide +kernel
theorem dX4_end_10 : decode cX4_end 10 = .ok (.ireturn, 1) := by decide +kernel
theorem dX4_end_11 : decode cX4_end 11 = .ok (.iload_n 1, 1) := by decide +kernel
theorem dX4_end_12 : decode cX4_end 12 = .ok (.ifCond .ne 18, 3) := by decide +kernel
theorem dX4_end_15 : decode cX4_end 15 = .ok (.aload_n 0, 1) := by decide +kernel
theorem dX4_end_16 : decode cX4_end 16 = .ok (.getfield 211, 3) := by decide +kernel
theorem dX4_end_19 : decode cX4_end 19 = .ok (.ifCond .eq 7, 3) := by decide +kernel
theorem dX4_end_22 : decode cX4_end 22 = .ok (.iconst 1, 1) := by decide +kernel
theorem dX4_end_23 : decode cX4_end 23 = .ok (.goto 23, 3) := by decide +kernel
theorem dX4_end_26 : decode cX4_end 26 = .ok (.iconst 0, 1) := by decide +kernel
theorem dX4_end_27 : decode cX4_end 27 = .ok (.goto 19, 3) := by decide +kernel
theorem dX4_end_30 : decode cX4_end 30 = .ok (.iload_n 1, 1) := by decide +kernel
theorem dX4_end_31 : decode cX4_end 31 = .ok (.iconst 1, 1) := by decide +kernel
theorem dX4_end_32 : decode cX4_end 32 = .ok (.if_icmp .ne 10, 3) := by decide +kernel
theorem dX4_end_35 : decode cX4_end 35 = .ok (.aload_n 0, 1) := by decide +kernel
theorem dX4_end_36 : decode cX4_end 36 = .ok (.getfield 214, 3) := by decide +kernel
theorem dX4_end_39 : decode cX4_end 39 = .ok (.goto 7, 3) := by decide +kernel
theorem dX4_end_42 : decode cX4_end 42 = .ok (.aload_n 0, 1) := by decide +kernel
theorem dX4_end_43 : decode cX4_end 43 = .ok (.getfield 217, 3) := by decide +kernel
theorem dX4_end_46 : decode cX4_end 46 = .ok (.ireturn, 1) := by decide +kernel
theorem dX4_alter_0 : decode cX4_alter 0 = .ok (.aload_n 0, 1) := by decide +kernel
theorem dX4_alter_1 : decode cX4_alter 1 = .ok (.iload_n 1, 1) := by decide +kernel
theorem dX4_alter_2 : decode cX4_alter 2 = .ok (.iload_n 2, 1) := by decide +kernel
theorem dX4_alter_3 : decode cX4_alter 3 = .ok (.invokevirtual 220, 3) := by decide +kernel
theorem dX4_alter_6 : decode cX4_alter 6 = .ok (.ifCond .ne 5, 3) := by decide +kernel
theorem dX4_alter_9 : decode cX4_alter 9 = .ok (.iconst (-1), 1) := by decide +kernel
theorem dX4_alter_10 : decode cX4_alter 10 = .ok (.ireturn, 1) := by decide +kernel
theorem dX4_alter_11 : decode cX4_alter 11 = .ok (.aload_n 0, 1) := by decide +kernel
theorem dX4_alter_12 : decode cX4_alter 12 = .ok (.getfield 130, 3) := by decide +kernel
theorem dX4_alter_15 : decode cX4_alter 15 = .ok (.bipush 8, 2) := by decide +kernel
theorem dX4_alter_17 : decode cX4_alter 17 = .ok (.iload_n 1, 1) := by decide +kernel
theorem dX4_alter_18 : decode cX4_alter 18 = .ok (.imul, 1) := by decide +kernel
theorem dX4_alter_19 : decode cX4_alter 19 = .ok (.iload_n 2, 1) := by decide +kernel
theorem dX4_alter_20 : decode cX4_alter 20 = .ok (.iadd, 1) := by decide +kernel
theorem dX4_alter_21 : decode cX4_alter 21 = .ok (.aload_n 0, 1) := by decide +kernel
theorem dX4_alter_22 : decode cX4_alter 22 = .ok (.getfield 130, 3) := by decide +kernel
theorem dX4_alter_25 : decode cX4_alter 25 = .ok (.bipush 8, 2) := by decide +kernel
theorem dX4_alter_27 : decode cX4_alter 27 = .ok (.iload_n 1, 1) := by decide +kernel
theorem dX4_alter_28 : decode cX4_alter 28 = .ok (.imul, 1) := by decide +kernel
theorem dX4_alter_29 : decode cX4_alter 29 = .ok (.iload_n 2, 1) := by decide +kernel
theorem dX4_alter_30 : decode cX4_alter 30 = .ok (.iadd, 1) := by decide +kernel
theorem dX4_alter_31 : decode cX4_alter 31 = .ok (.iaload, 1) := by decide +kernel
theorem dX4_alter_32 : decode cX4_alter 32 = .ok (.iload_n 3, 1) := by decide +kernel
theorem dX4_alter_33 : decode cX4_alter 33 = .ok (.ixor, 1) := by decide +kernel
theorem dX4_alter_34 : decode cX4_alter 34 = .ok (.iastore, 1) := by decide +kernel
theorem dX4_alter_35 : decode cX4_alter 35 = .ok (.iconst 1, 1) := by decide +kernel
theorem dX4_alter_36 : decode cX4_alter 36 = .ok (.ireturn, 1) := by decide +kernel
theorem dX4_claim_0 : decode cX4_claim 0 = .ok (.iload_n 1, 1) := by decide +kernel
theorem dX4_claim_1 : decode cX4_claim 1 = .ok (.iconst (-1), 1) := by decide +kernel
theorem dX4_claim_2 : decode cX4_claim 2 = .ok (.if_icmp .eq 12, 3) := by decide +kernel
theorem dX4_claim_5 : decode cX4_claim 5 = .ok (.iload_n 1, 1) := by decide +kernel
theorem dX4_claim_6 : decode cX4_claim 6 = .ok (.invokestatic 182, 3) := by decide +kernel
theorem dX4_claim_9 : decode cX4_claim 9 = .ok (.ifCond .ne 5, 3) := by decide +kernel
theorem dX4_claim_12 : decode cX4_claim 12 = .ok (.iconst (-1), 1) := by decide +kernel
theorem dX4_claim_13 : decode cX4_claim 13 = .ok (.ireturn, 1) := by decide +kernel
theorem dX4_claim_14 : decode cX4_claim 14 = .ok (.aload_n 0, 1) := by decide +kernel
theorem dX4_claim_15 : decode cX4_claim 15 = .ok (.iload_n 1, 1) := by decide +kernel
theorem dX4_claim_16 : decode cX4_claim 16 = .ok (.ifCond .lt 7, 3) := by decide +kernel
theorem dX4_claim_19 : decode cX4_claim 19 = .ok (.iconst 1, 1) := by decide +kernel
theorem dX4_claim_20 : decode cX4_claim 20 = .ok (.goto 4, 3) := by decide +kernel
theorem dX4_claim_23 : decode cX4_claim 23 = .ok (.iconst 0, 1) := by decide +kernel
theorem dX4_claim_24 : decode cX4_claim 24 = .ok (.putfield 211, 3) := by decide +kernel
theorem dX4_claim_27 : decode cX4_claim 27 = .ok (.aload_n 0, 1) := by decide +kernel
theorem dX4_claim_28 : decode cX4_claim 28 = .ok (.aload_n 0, 1) := by decide +kernel
theorem dX4_claim_29 : decode cX4_claim 29 = .ok (.getfield 211, 3) := by decide +kernel
theorem dX4_claim_32 : decode cX4_claim 32 = .ok (.ifCond .eq 7, 3) := by decide +kernel
theorem dX4_claim_35 : decode cX4_claim 35 = .ok (.iload_n 1, 1) := by decide +kernel
theorem dX4_claim_36 : decode cX4_claim 36 = .ok (.goto 4, 3) := by decide +kernel
theorem dX4_claim_39 : decode cX4_claim 39 = .ok (.iconst 0, 1) := by decide +kernel
theorem dX4_claim_40 : decode cX4_claim 40 = .ok (.putfield 214, 3) := by decide +kernel
theorem dX4_claim_43 : decode cX4_claim 43 = .ok (.aload_n 0, 1) := by decide +kernel
theorem dX4_claim_44 : decode cX4_claim 44 = .ok (.aload_n 0, 1) := by decide +kernel
theorem dX4_claim_45 : decode cX4_claim 45 = .ok (.getfield 211, 3) := by decide +kernel
theorem dX4_claim_48 : decode cX4_claim 48 = .ok (.ifCond .eq 7, 3) := by decide +kernel
theorem dX4_claim_51 : decode cX4_claim 51 = .ok (.iload_n 2, 1) := by decide +kernel
theorem dX4_claim_52 : decode cX4_claim 52 = .ok (.goto 4, 3) := by decide +kernel
theorem dX4_claim_55 : decode cX4_claim 55 = .ok (.iconst 0, 1) := by decide +kernel
theorem dX4_claim_56 : decode cX4_claim 56 = .ok (.putfield 217, 3) := by decide +kernel
theorem dX4_claim_59 : decode cX4_claim 59 = .ok (.iconst 1, 1) := by decide +kernel
theorem dX4_claim_60 : decode cX4_claim 60 = .ok (.ireturn, 1) := by decide +kernel
theorem dX4_cut_0 : decode cX4_cut 0 = .ok (.iload_n 1, 1) := by decide +kernel
theorem dX4_cut_1 : decode cX4_cut 1 = .ok (.ifCond .lt 11, 3) := by decide +kernel
theorem dX4_cut_4 : decode cX4_cut 4 = .ok (.iload_n 1, 1) := by decide +kernel
theorem dX4_cut_5 : decode cX4_cut 5 = .ok (.aload_n 0, 1) := by decide +kernel
theorem dX4_cut_6 : decode cX4_cut 6 = .ok (.getfield 208, 3) := by decide +kernel
theorem dX4_cut_9 : decode cX4_cut 9 = .ok (.if_icmp .le 5, 3) := by decide +kernel
theorem dX4_cut_12 : decode cX4_cut 12 = .ok (.iconst (-1), 1) := by decide +kernel
theorem dX4_cut_13 : decode cX4_cut 13 = .ok (.ireturn, 1) := by decide +kernel
theorem dX4_cut_14 : decode cX4_cut 14 = .ok (.aload_n 0, 1) := by decide +kernel
theorem dX4_cut_15 : decode cX4_cut 15 = .ok (.iload_n 1, 1) := by decide +kernel
theorem dX4_cut_16 : decode cX4_cut 16 = .ok (.putfield 208, 3) := by decide +kernel
theorem dX4_cut_19 : decode cX4_cut 19 = .ok (.iconst 1, 1) := by decide +kernel
theorem dX4_cut_20 : decode cX4_cut 20 = .ok (.ireturn, 1) := by decide +kernel
theorem dX4_bitsAlike_0 : decode cX4_bitsAlike 0 = .ok (.iconst 0, 1) := by decide +kernel
theorem dX4_bitsAlike_1 : decode cX4_bitsAlike 1 = .ok (.istore_n 2, 1) := by decide +kernel
theorem dX4_bitsAlike_2 : decode cX4_bitsAlike 2 = .ok (.iload_n 2, 1) := by decide +kernel
theorem dX4_bitsAlike_3 : decode cX4_bitsAlike 3 = .ok (.bipush 16, 2) := by decide +kernel
theorem dX4_bitsAlike_5 : decode cX4_bitsAlike 5 = .ok (.if_icmp .ge 24, 3) := by decide +kernel
theorem dX4_bitsAlike_8 : decode cX4_bitsAlike 8 = .ok (.iload_n 0, 1) := by decide +kernel
theorem dX4_bitsAlike_9 : decode cX4_bitsAlike 9 = .ok (.bipush 15, 2) := by decide +kernel
theorem dX4_bitsAlike_11 : decode cX4_bitsAlike 11 = .ok (.iload_n 2, 1) := by decide +kernel
theorem dX4_bitsAlike_12 : decode cX4_bitsAlike 12 = .ok (.isub, 1) := by decide +kernel
theorem dX4_bitsAlike_13 : decode cX4_bitsAlike 13 = .ok (.ishr, 1) := by decide +kernel
theorem dX4_bitsAlike_14 : decode cX4_bitsAlike 14 = .ok (.iload_n 1, 1) := by decide +kernel
theorem dX4_bitsAlike_15 : decode cX4_bitsAlike 15 = .ok (.bipush 15, 2) := by decide +kernel
theorem dX4_bitsAlike_17 : decode cX4_bitsAlike 17 = .ok (.iload_n 2, 1) := by decide +kernel
theorem dX4_bitsAlike_18 : decode cX4_bitsAlike 18 = .ok (.isub, 1) := by decide +kernel
theorem dX4_bitsAlike_19 : decode cX4_bitsAlike 19 = .ok (.ishr, 1) := by decide +kernel
theorem dX4_bitsAlike_20 : decode cX4_bitsAlike 20 = .ok (.if_icmp .ne 9, 3) := by decide +kernel
theorem dX4_bitsAlike_23 : decode cX4_bitsAlike 23 = .ok (.iinc 2 1, 3) := by decide +kernel
theorem dX4_bitsAlike_26 : decode cX4_bitsAlike 26 = .ok (.goto (-24), 3) := by decide +kernel
theorem dX4_bitsAlike_29 : decode cX4_bitsAlike 29 = .ok (.iload_n 2, 1) := by decide +kernel
theorem dX4_bitsAlike_30 : decode cX4_bitsAlike 30 = .ok (.ireturn, 1) := by decide +kernel
theorem dX4_verify_0 : decode cX4_verify 0 = .ok (.aload_n 0, 1) := by decide +kernel
theorem dX4_verify_1 : decode cX4_verify 1 = .ok (.iload_n 1, 1) := by decide +kernel
theorem dX4_verify_2 : decode cX4_verify 2 = .ok (.invokevirtual 193, 3) := by decide +kernel
theorem dX4_verify_5 : decode cX4_verify 5 = .ok (.ifCond .eq 10, 3) := by decide +kernel
theorem dX4_verify_8 : decode cX4_verify 8 = .ok (.iload_n 2, 1) := by decide +kernel
theorem dX4_verify_9 : decode cX4_verify 9 = .ok (.invokestatic 182, 3) := by decide +kernel
theorem dX4_verify_12 : decode cX4_verify 12 = .ok (.ifCond .ne 5, 3) := by decide +kernel
theorem dX4_verify_15 : decode cX4_verify 15 = .ok (.iconst (-1), 1) := by decide +kernel
theorem dX4_verify_16 : decode cX4_verify 16 = .ok (.ireturn, 1) := by decide +kernel
theorem dX4_verify_17 : decode cX4_verify 17 = .ok (.aload_n 0, 1) := by decide +kernel
theorem dX4_verify_18 : decode cX4_verify 18 = .ok (.getfield 211, 3) := by decide +kernel
theorem dX4_verify_21 : decode cX4_verify 21 = .ok (.ifCond .eq 21, 3) := by decide +kernel
theorem dX4_verify_24 : decode cX4_verify 24 = .ok (.aload_n 0, 1) := by decide +kernel
theorem dX4_verify_25 : decode cX4_verify 25 = .ok (.getfield 214, 3) := by decide +kernel
theorem dX4_verify_28 : decode cX4_verify 28 = .ok (.iload_n 2, 1) := by decide +kernel
theorem dX4_verify_29 : decode cX4_verify 29 = .ok (.invokestatic 224, 3) := by decide +kernel
theorem dX4_verify_32 : decode cX4_verify 32 = .ok (.aload_n 0, 1) := by decide +kernel
theorem dX4_verify_33 : decode cX4_verify 33 = .ok (.getfield 208, 3) := by decide +kernel
theorem dX4_verify_36 : decode cX4_verify 36 = .ok (.if_icmp .ge 6, 3) := by decide +kernel
theorem dX4_verify_39 : decode cX4_verify 39 = .ok (.bipush (-2), 2) := by decide +kernel
theorem dX4_verify_41 : decode cX4_verify 41 = .ok (.ireturn, 1) := by decide +kernel
theorem dX4_verify_42 : decode cX4_verify 42 = .ok (.aload_n 0, 1) := by decide +kernel
theorem dX4_verify_43 : decode cX4_verify 43 = .ok (.invokevirtual 202, 3) := by decide +kernel
theorem dX4_verify_46 : decode cX4_verify 46 = .ok (.iconst 0, 1) := by decide +kernel
theorem dX4_verify_47 : decode cX4_verify 47 = .ok (.istore_n 3, 1) := by decide +kernel
theorem dX4_verify_48 : decode cX4_verify 48 = .ok (.iload_n 3, 1) := by decide +kernel
theorem dX4_verify_49 : decode cX4_verify 49 = .ok (.bipush 8, 2) := by decide +kernel
theorem dX4_verify_51 : decode cX4_verify 51 = .ok (.if_icmp .ge 16, 3) := by decide +kernel
theorem dX4_verify_54 : decode cX4_verify 54 = .ok (.aload_n 0, 1) := by decide +kernel
theorem dX4_verify_55 : decode cX4_verify 55 = .ok (.getfield 106, 3) := by decide +kernel
theorem dX4_verify_58 : decode cX4_verify 58 = .ok (.iload_n 3, 1) := by decide +kernel
theorem dX4_verify_59 : decode cX4_verify 59 = .ok (.iconst 0, 1) := by decide +kernel
theorem dX4_verify_60 : decode cX4_verify 60 = .ok (.iastore, 1) := by decide +kernel
theorem dX4_verify_61 : decode cX4_verify 61 = .ok (.iinc 3 1, 3) := by decide +kernel
theorem dX4_verify_64 : decode cX4_verify 64 = .ok (.goto (-16), 3) := by decide +kernel
theorem dX4_verify_67 : decode cX4_verify 67 = .ok (.aload_n 0, 1) := by decide +kernel
theorem dX4_verify_68 : decode cX4_verify 68 = .ok (.getfield 211, 3) := by decide +kernel
theorem dX4_verify_71 : decode cX4_verify 71 = .ok (.ifCond .eq 15, 3) := by decide +kernel
theorem dX4_verify_74 : decode cX4_verify 74 = .ok (.aload_n 0, 1) := by decide +kernel
theorem dX4_verify_75 : decode cX4_verify 75 = .ok (.aload_n 0, 1) := by decide +kernel
theorem dX4_verify_76 : decode cX4_verify 76 = .ok (.getfield 214, 3) := by decide +kernel
theorem dX4_verify_79 : decode cX4_verify 79 = .ok (.aload_n 0, 1) := by decide +kernel
theorem dX4_verify_80 : decode cX4_verify 80 = .ok (.getfield 217, 3) := by decide +kernel
theorem dX4_verify_83 : decode cX4_verify 83 = .ok (.invokevirtual 152, 3) := by decide +kernel
theorem dX4_verify_86 : decode cX4_verify 86 = .ok (.aload_n 0, 1) := by decide +kernel
theorem dX4_verify_87 : decode cX4_verify 87 = .ok (.getfield 208, 3) := by decide +kernel
theorem dX4_verify_90 : decode cX4_verify 90 = .ok (.iconst 1, 1) := by decide +kernel
theorem dX4_verify_91 : decode cX4_verify 91 = .ok (.isub, 1) := by decide +kernel
theorem dX4_verify_92 : decode cX4_verify 92 = .ok (.istore_n 3, 1) := by decide +kernel
theorem dX4_verify_93 : decode cX4_verify 93 = .ok (.iload_n 3, 1) := by decide +kernel
theorem dX4_verify_94 : decode cX4_verify 94 = .ok (.ifCond .lt 76, 3) := by decide +kernel
theorem dX4_verify_97 : decode cX4_verify 97 = .ok (.iload_n 2, 1) := by decide +kernel
theorem dX4_verify_98 : decode cX4_verify 98 = .ok (.bipush 15, 2) := by decide +kernel
theorem dX4_verify_100 : decode cX4_verify 100 = .ok (.iload_n 3, 1) := by decide +kernel
theorem dX4_verify_101 : decode cX4_verify 101 = .ok (.isub, 1) := by decide +kernel
theorem dX4_verify_102 : decode cX4_verify 102 = .ok (.ishr, 1) := by decide +kernel
theorem dX4_verify_103 : decode cX4_verify 103 = .ok (.iconst 1, 1) := by decide +kernel
theorem dX4_verify_104 : decode cX4_verify 104 = .ok (.iand, 1) := by decide +kernel
theorem dX4_verify_105 : decode cX4_verify 105 = .ok (.istore 4, 2) := by decide +kernel
theorem dX4_verify_107 : decode cX4_verify 107 = .ok (.iconst 0, 1) := by decide +kernel
theorem dX4_verify_108 : decode cX4_verify 108 = .ok (.istore 5, 2) := by decide +kernel
theorem dX4_verify_110 : decode cX4_verify 110 = .ok (.iload 5, 2) := by decide +kernel
theorem dX4_verify_112 : decode cX4_verify 112 = .ok (.bipush 8, 2) := by decide +kernel
theorem dX4_verify_114 : decode cX4_verify 114 = .ok (.if_icmp .ge 46, 3) := by decide +kernel
theorem dX4_verify_117 : decode cX4_verify 117 = .ok (.aload_n 0, 1) := by decide +kernel
theorem dX4_verify_118 : decode cX4_verify 118 = .ok (.iload 4, 2) := by decide +kernel
theorem dX4_verify_120 : decode cX4_verify 120 = .ok (.iload 5, 2) := by decide +kernel
theorem dX4_verify_122 : decode cX4_verify 122 = .ok (.aload_n 0, 1) := by decide +kernel
theorem dX4_verify_123 : decode cX4_verify 123 = .ok (.getfield 106, 3) := by decide +kernel
theorem dX4_verify_126 : decode cX4_verify 126 = .ok (.iload 5, 2) := by decide +kernel
theorem dX4_verify_128 : decode cX4_verify 128 = .ok (.iaload, 1) := by decide +kernel
theorem dX4_verify_129 : decode cX4_verify 129 = .ok (.invokevirtual 159, 3) := by decide +kernel
theorem dX4_verify_132 : decode cX4_verify 132 = .ok (.aload_n 0, 1) := by decide +kernel
theorem dX4_verify_133 : decode cX4_verify 133 = .ok (.iconst 1, 1) := by decide +kernel
theorem dX4_verify_134 : decode cX4_verify 134 = .ok (.iload 4, 2) := by decide +kernel
theorem dX4_verify_136 : decode cX4_verify 136 = .ok (.isub, 1) := by decide +kernel
theorem dX4_verify_137 : decode cX4_verify 137 = .ok (.iload 5, 2) := by decide +kernel
theorem dX4_verify_139 : decode cX4_verify 139 = .ok (.aload_n 0, 1) := by decide +kernel
theorem dX4_verify_140 : decode cX4_verify 140 = .ok (.getfield 130, 3) := by decide +kernel
theorem dX4_verify_143 : decode cX4_verify 143 = .ok (.bipush 8, 2) := by decide +kernel
theorem dX4_verify_145 : decode cX4_verify 145 = .ok (.iload_n 3, 1) := by decide +kernel
theorem dX4_verify_146 : decode cX4_verify 146 = .ok (.imul, 1) := by decide +kernel
theorem dX4_verify_147 : decode cX4_verify 147 = .ok (.iload 5, 2) := by decide +kernel
theorem dX4_verify_149 : decode cX4_verify 149 = .ok (.iadd, 1) := by decide +kernel
theorem dX4_verify_150 : decode cX4_verify 150 = .ok (.iaload, 1) := by decide +kernel
theorem dX4_verify_151 : decode cX4_verify 151 = .ok (.invokevirtual 159, 3) := by decide +kernel
theorem dX4_verify_154 : decode cX4_verify 154 = .ok (.iinc 5 1, 3) := by decide +kernel
theorem dX4_verify_157 : decode cX4_verify 157 = .ok (.goto (-47), 3) := by decide +kernel
theorem dX4_verify_160 : decode cX4_verify 160 = .ok (.aload_n 0, 1) := by decide +kernel
theorem dX4_verify_161 : decode cX4_verify 161 = .ok (.invokevirtual 163, 3) := by decide +kernel
theorem dX4_verify_164 : decode cX4_verify 164 = .ok (.iinc 3 (-1), 3) := by decide +kernel
theorem dX4_verify_167 : decode cX4_verify 167 = .ok (.goto (-74), 3) := by decide +kernel
theorem dX4_verify_170 : decode cX4_verify 170 = .ok (.iconst 1, 1) := by decide +kernel
theorem dX4_verify_171 : decode cX4_verify 171 = .ok (.istore_n 3, 1) := by decide +kernel
theorem dX4_verify_172 : decode cX4_verify 172 = .ok (.iconst 0, 1) := by decide +kernel
theorem dX4_verify_173 : decode cX4_verify 173 = .ok (.istore 4, 2) := by decide +kernel
theorem dX4_verify_175 : decode cX4_verify 175 = .ok (.iload 4, 2) := by decide +kernel
theorem dX4_verify_177 : decode cX4_verify 177 = .ok (.bipush 8, 2) := by decide +kernel
theorem dX4_verify_179 : decode cX4_verify 179 = .ok (.if_icmp .ge 44, 3) := by decide +kernel
theorem dX4_verify_182 : decode cX4_verify 182 = .ok (.iload_n 3, 1) := by decide +kernel
theorem dX4_verify_183 : decode cX4_verify 183 = .ok (.ifCond .eq 32, 3) := by decide +kernel
theorem dX4_verify_186 : decode cX4_verify 186 = .ok (.aload_n 0, 1) := by decide +kernel
theorem dX4_verify_187 : decode cX4_verify 187 = .ok (.getfield 106, 3) := by decide +kernel
theorem dX4_verify_190 : decode cX4_verify 190 = .ok (.iload 4, 2) := by decide +kernel
theorem dX4_verify_192 : decode cX4_verify 192 = .ok (.iaload, 1) := by decide +kernel
theorem dX4_verify_193 : decode cX4_verify 193 = .ok (.aload_n 0, 1) := by decide +kernel
theorem dX4_verify_194 : decode cX4_verify 194 = .ok (.getfield 97, 3) := by decide +kernel
theorem dX4_verify_197 : decode cX4_verify 197 = .ok (.bipush 8, 2) := by decide +kernel
theorem dX4_verify_199 : decode cX4_verify 199 = .ok (.iload_n 1, 1) := by decide +kernel
theorem dX4_verify_200 : decode cX4_verify 200 = .ok (.invokestatic 198, 3) := by decide +kernel
theorem dX4_verify_203 : decode cX4_verify 203 = .ok (.imul, 1) := by decide +kernel
theorem dX4_verify_204 : decode cX4_verify 204 = .ok (.iload 4, 2) := by decide +kernel
theorem dX4_verify_206 : decode cX4_verify 206 = .ok (.iadd, 1) := by decide +kernel
theorem dX4_verify_207 : decode cX4_verify 207 = .ok (.iaload, 1) := by decide +kernel
theorem dX4_verify_208 : decode cX4_verify 208 = .ok (.if_icmp .ne 7, 3) := by decide +kernel
theorem dX4_verify_211 : decode cX4_verify 211 = .ok (.iconst 1, 1) := by decide +kernel
theorem dX4_verify_212 : decode cX4_verify 212 = .ok (.goto 4, 3) := by decide +kernel
theorem dX4_verify_215 : decode cX4_verify 215 = .ok (.iconst 0, 1) := by decide +kernel
theorem dX4_verify_216 : decode cX4_verify 216 = .ok (.istore_n 3, 1) := by decide +kernel
theorem dX4_verify_217 : decode cX4_verify 217 = .ok (.iinc 4 1, 3) := by decide +kernel
theorem dX4_verify_220 : decode cX4_verify 220 = .ok (.goto (-45), 3) := by decide +kernel
theorem dX4_verify_223 : decode cX4_verify 223 = .ok (.iload_n 3, 1) := by decide +kernel
theorem dX4_verify_224 : decode cX4_verify 224 = .ok (.ifCond .ne 8, 3) := by decide +kernel
theorem dX4_verify_227 : decode cX4_verify 227 = .ok (.bipush (-2), 2) := by decide +kernel
theorem dX4_verify_229 : decode cX4_verify 229 = .ok (.goto 23, 3) := by decide +kernel
theorem dX4_verify_232 : decode cX4_verify 232 = .ok (.aload_n 0, 1) := by decide +kernel
theorem dX4_verify_233 : decode cX4_verify 233 = .ok (.getfield 211, 3) := by decide +kernel
theorem dX4_verify_236 : decode cX4_verify 236 = .ok (.ifCond .eq 15, 3) := by decide +kernel
theorem dX4_verify_239 : decode cX4_verify 239 = .ok (.aload_n 0, 1) := by decide +kernel
theorem dX4_verify_240 : decode cX4_verify 240 = .ok (.getfield 214, 3) := by decide +kernel
theorem dX4_verify_243 : decode cX4_verify 243 = .ok (.iload_n 2, 1) := by decide +kernel
theorem dX4_verify_244 : decode cX4_verify 244 = .ok (.if_icmp .ne 7, 3) := by decide +kernel
theorem dX4_verify_247 : decode cX4_verify 247 = .ok (.iconst 1, 1) := by decide +kernel
theorem dX4_verify_248 : decode cX4_verify 248 = .ok (.goto 4, 3) := by decide +kernel
theorem dX4_verify_251 : decode cX4_verify 251 = .ok (.iconst 0, 1) := by decide +kernel
theorem dX4_verify_252 : decode cX4_verify 252 = .ok (.ireturn, 1) := by decide +kernel
theorem dX4_alike_0 : decode cX4_alike 0 = .ok (.iload_n 1, 1) := by decide +kernel
theorem dX4_alike_1 : decode cX4_alike 1 = .ok (.invokestatic 182, 3) := by decide +kernel
theorem dX4_alike_4 : decode cX4_alike 4 = .ok (.ifCond .eq 18, 3) := by decide +kernel
theorem dX4_alike_7 : decode cX4_alike 7 = .ok (.iload_n 2, 1) := by decide +kernel
theorem dX4_alike_8 : decode cX4_alike 8 = .ok (.invokestatic 182, 3) := by decide +kernel
theorem dX4_alike_11 : decode cX4_alike 11 = .ok (.ifCond .eq 11, 3) := by decide +kernel
theorem dX4_alike_14 : decode cX4_alike 14 = .ok (.iload_n 1, 1) := by decide +kernel
theorem dX4_alike_15 : decode cX4_alike 15 = .ok (.iload_n 2, 1) := by decide +kernel
theorem dX4_alike_16 : decode cX4_alike 16 = .ok (.invokestatic 224, 3) := by decide +kernel
theorem dX4_alike_19 : decode cX4_alike 19 = .ok (.goto 4, 3) := by decide +kernel
theorem dX4_alike_22 : decode cX4_alike 22 = .ok (.iconst (-1), 1) := by decide +kernel
theorem dX4_alike_23 : decode cX4_alike 23 = .ok (.ireturn, 1) := by decide +kernel
theorem dX4_versions_0 : decode cX4_versions 0 = .ok (.aload_n 0, 1) := by decide +kernel
theorem dX4_versions_1 : decode cX4_versions 1 = .ok (.getfield 134, 3) := by decide +kernel
theorem dX4_versions_4 : decode cX4_versions 4 = .ok (.ireturn, 1) := by decide +kernel
theorem dJ9_min_7cf53_0 : decode cJ9_min_7cf53 0 = .ok (.iload_n 0, 1) := by decide +kernel
theorem dJ9_min_7cf53_1 : decode cJ9_min_7cf53 1 = .ok (.iload_n 1, 1) := by decide +kernel
theorem dJ9_min_7cf53_2 : decode cJ9_min_7cf53 2 = .ok (.if_icmp .gt 7, 3) := by decide +kernel
theorem dJ9_min_7cf53_5 : decode cJ9_min_7cf53 5 = .ok (.iload_n 0, 1) := by decide +kernel
theorem dJ9_min_7cf53_6 : decode cJ9_min_7cf53 6 = .ok (.goto 4, 3) := by decide +kernel
theorem dJ9_min_7cf53_9 : decode cJ9_min_7cf53 9 = .ok (.iload_n 1, 1) := by decide +kernel
theorem dJ9_min_7cf53_10 : decode cJ9_min_7cf53 10 = .ok (.ireturn, 1) := by decide +kernel
theorem dL_law_0 : decode cL_law 0 = .ok (.new 7, 3) := by decide +kernel
theorem dL_law_3 : decode cL_law 3 = .ok (.dup, 1) := by decide +kernel
theorem dL_law_4 : decode cL_law 4 = .ok (.invokespecial 9, 3) := by decide +kernel
theorem dL_law_7 : decode cL_law 7 = .ok (.astore_n 1, 1) := by decide +kernel
theorem dL_law_8 : decode cL_law 8 = .ok (.new 10, 3) := by decide +kernel
theorem dL_law_11 : decode cL_law 11 = .ok (.dup, 1) := by decide +kernel
theorem dL_law_12 : decode cL_law 12 = .ok (.invokespecial 12, 3) := by decide +kernel
theorem dL_law_15 : decode cL_law 15 = .ok (.astore_n 2, 1) := by decide +kernel
theorem dL_law_16 : decode cL_law 16 = .ok (.iconst 0, 1) := by decide +kernel
theorem dL_law_17 : decode cL_law 17 = .ok (.istore_n 3, 1) := by decide +kernel
theorem dL_law_18 : decode cL_law 18 = .ok (.iload_n 3, 1) := by decide +kernel
theorem dL_law_19 : decode cL_law 19 = .ok (.aload_n 0, 1) := by decide +kernel
theorem dL_law_20 : decode cL_law 20 = .ok (.arraylength, 1) := by decide +kernel
theorem dL_law_21 : decode cL_law 21 = .ok (.iconst 4, 1) := by decide +kernel
theorem dL_law_22 : decode cL_law 22 = .ok (.isub, 1) := by decide +kernel
theorem dL_law_23 : decode cL_law 23 = .ok (.if_icmp .gt 561, 3) := by decide +kernel
theorem dL_law_26 : decode cL_law 26 = .ok (.aload_n 0, 1) := by decide +kernel
theorem dL_law_27 : decode cL_law 27 = .ok (.iload_n 3, 1) := by decide +kernel
theorem dL_law_28 : decode cL_law 28 = .ok (.iaload, 1) := by decide +kernel
theorem dL_law_29 : decode cL_law 29 = .ok (.bipush 31, 2) := by decide +kernel
theorem dL_law_31 : decode cL_law 31 = .ok (.iand, 1) := by decide +kernel
theorem dL_law_32 : decode cL_law 32 = .ok (.tableswitch 546 0 16 #[84, 117, 140, 174, 197, 210, 233, 266, 299, 312, 345, 368, 411, 444, 467, 500, 533], 84) := by decide +kernel
theorem dL_law_116 : decode cL_law 116 = .ok (.aload_n 1, 1) := by decide +kernel
theorem dL_law_117 : decode cL_law 117 = .ok (.aload_n 0, 1) := by decide +kernel
theorem dL_law_118 : decode cL_law 118 = .ok (.iload_n 3, 1) := by decide +kernel
theorem dL_law_119 : decode cL_law 119 = .ok (.iconst 1, 1) := by decide +kernel
theorem dL_law_120 : decode cL_law 120 = .ok (.iadd, 1) := by decide +kernel
theorem dL_law_121 : decode cL_law 121 = .ok (.iaload, 1) := by decide +kernel
theorem dL_law_122 : decode cL_law 122 = .ok (.aload_n 0, 1) := by decide +kernel
theorem dL_law_123 : decode cL_law 123 = .ok (.iload_n 3, 1) := by decide +kernel
theorem dL_law_124 : decode cL_law 124 = .ok (.iconst 2, 1) := by decide +kernel
theorem dL_law_125 : decode cL_law 125 = .ok (.iadd, 1) := by decide +kernel
theorem dL_law_126 : decode cL_law 126 = .ok (.iaload, 1) := by decide +kernel
theorem dL_law_127 : decode cL_law 127 = .ok (.invokevirtual 13, 3) := by decide +kernel
theorem dL_law_130 : decode cL_law 130 = .ok (.aload_n 2, 1) := by decide +kernel
theorem dL_law_131 : decode cL_law 131 = .ok (.aload_n 0, 1) := by decide +kernel
theorem dL_law_132 : decode cL_law 132 = .ok (.iload_n 3, 1) := by decide +kernel
theorem dL_law_133 : decode cL_law 133 = .ok (.iconst 1, 1) := by decide +kernel
theorem dL_law_134 : decode cL_law 134 = .ok (.iadd, 1) := by decide +kernel
theorem dL_law_135 : decode cL_law 135 = .ok (.iaload, 1) := by decide +kernel
theorem dL_law_136 : decode cL_law 136 = .ok (.aload_n 0, 1) := by decide +kernel
theorem dL_law_137 : decode cL_law 137 = .ok (.iload_n 3, 1) := by decide +kernel
