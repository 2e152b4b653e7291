theorem dX4_leaf_5 : decode cX4_leaf 5 = .ok (.iconst 0, 1) := by decide +kernel
theorem dX4_leaf_6 : decode cX4_leaf 6 = .ok (.iastore, 1) := by decide +kernel
theorem dX4_leaf_7 : decode cX4_leaf 7 = .ok (.aload_n 0, 1) := by decide +kernel
theorem dX4_leaf_8 : decode cX4_leaf 8 = .ok (.getfield 100, 3) := by decide +kernel
theorem dX4_leaf_11 : decode cX4_leaf 11 = .ok (.iconst 1, 1) := by decide +kernel
theorem dX4_leaf_12 : decode cX4_leaf 12 = .ok (.iload_n 1, 1) := by decide +kernel
theorem dX4_leaf_13 : decode cX4_leaf 13 = .ok (.bipush 8, 2) := by decide +kernel
theorem dX4_leaf_15 : decode cX4_leaf 15 = .ok (.ishr, 1) := by decide +kernel
theorem dX4_leaf_16 : decode cX4_leaf 16 = .ok (.iastore, 1) := by decide +kernel
theorem dX4_leaf_17 : decode cX4_leaf 17 = .ok (.aload_n 0, 1) := by decide +kernel
theorem dX4_leaf_18 : decode cX4_leaf 18 = .ok (.getfield 100, 3) := by decide +kernel
theorem dX4_leaf_21 : decode cX4_leaf 21 = .ok (.iconst 2, 1) := by decide +kernel
theorem dX4_leaf_22 : decode cX4_leaf 22 = .ok (.iload_n 1, 1) := by decide +kernel
theorem dX4_leaf_23 : decode cX4_leaf 23 = .ok (.sipush 255, 3) := by decide +kernel
theorem dX4_leaf_26 : decode cX4_leaf 26 = .ok (.iand, 1) := by decide +kernel
theorem dX4_leaf_27 : decode cX4_leaf 27 = .ok (.iastore, 1) := by decide +kernel
theorem dX4_leaf_28 : decode cX4_leaf 28 = .ok (.iconst 0, 1) := by decide +kernel
theorem dX4_leaf_29 : decode cX4_leaf 29 = .ok (.istore_n 3, 1) := by decide +kernel
theorem dX4_leaf_30 : decode cX4_leaf 30 = .ok (.iload_n 3, 1) := by decide +kernel
theorem dX4_leaf_31 : decode cX4_leaf 31 = .ok (.iconst 4, 1) := by decide +kernel
theorem dX4_leaf_32 : decode cX4_leaf 32 = .ok (.if_icmp .ge 30, 3) := by decide +kernel
theorem dX4_leaf_35 : decode cX4_leaf 35 = .ok (.aload_n 0, 1) := by decide +kernel
theorem dX4_leaf_36 : decode cX4_leaf 36 = .ok (.getfield 100, 3) := by decide +kernel
theorem dX4_leaf_39 : decode cX4_leaf 39 = .ok (.iconst 3, 1) := by decide +kernel
theorem dX4_leaf_40 : decode cX4_leaf 40 = .ok (.iload_n 3, 1) := by decide +kernel
theorem dX4_leaf_41 : decode cX4_leaf 41 = .ok (.iadd, 1) := by decide +kernel
theorem dX4_leaf_42 : decode cX4_leaf 42 = .ok (.iload_n 2, 1) := by decide +kernel
theorem dX4_leaf_43 : decode cX4_leaf 43 = .ok (.bipush 24, 2) := by decide +kernel
theorem dX4_leaf_45 : decode cX4_leaf 45 = .ok (.bipush 8, 2) := by decide +kernel
theorem dX4_leaf_47 : decode cX4_leaf 47 = .ok (.iload_n 3, 1) := by decide +kernel
theorem dX4_leaf_48 : decode cX4_leaf 48 = .ok (.imul, 1) := by decide +kernel
theorem dX4_leaf_49 : decode cX4_leaf 49 = .ok (.isub, 1) := by decide +kernel
theorem dX4_leaf_50 : decode cX4_leaf 50 = .ok (.ishr, 1) := by decide +kernel
theorem dX4_leaf_51 : decode cX4_leaf 51 = .ok (.sipush 255, 3) := by decide +kernel
theorem dX4_leaf_54 : decode cX4_leaf 54 = .ok (.iand, 1) := by decide +kernel
theorem dX4_leaf_55 : decode cX4_leaf 55 = .ok (.iastore, 1) := by decide +kernel
theorem dX4_leaf_56 : decode cX4_leaf 56 = .ok (.iinc 3 1, 3) := by decide +kernel
theorem dX4_leaf_59 : decode cX4_leaf 59 = .ok (.goto (-29), 3) := by decide +kernel
theorem dX4_leaf_62 : decode cX4_leaf 62 = .ok (.aload_n 0, 1) := by decide +kernel
theorem dX4_leaf_63 : decode cX4_leaf 63 = .ok (.bipush 7, 2) := by decide +kernel
theorem dX4_leaf_65 : decode cX4_leaf 65 = .ok (.invokevirtual 146, 3) := by decide +kernel
theorem dX4_leaf_68 : decode cX4_leaf 68 = .ok (.return_, 1) := by decide +kernel
theorem dX4_half_0 : decode cX4_half 0 = .ok (.iconst 0, 1) := by decide +kernel
theorem dX4_half_1 : decode cX4_half 1 = .ok (.istore 4, 2) := by decide +kernel
theorem dX4_half_3 : decode cX4_half 3 = .ok (.iload 4, 2) := by decide +kernel
theorem dX4_half_5 : decode cX4_half 5 = .ok (.iconst 4, 1) := by decide +kernel
theorem dX4_half_6 : decode cX4_half 6 = .ok (.if_icmp .ge 41, 3) := by decide +kernel
theorem dX4_half_9 : decode cX4_half 9 = .ok (.aload_n 0, 1) := by decide +kernel
theorem dX4_half_10 : decode cX4_half 10 = .ok (.getfield 100, 3) := by decide +kernel
theorem dX4_half_13 : decode cX4_half 13 = .ok (.iconst 1, 1) := by decide +kernel
theorem dX4_half_14 : decode cX4_half 14 = .ok (.bipush 32, 2) := by decide +kernel
theorem dX4_half_16 : decode cX4_half 16 = .ok (.iload_n 1, 1) := by decide +kernel
theorem dX4_half_17 : decode cX4_half 17 = .ok (.imul, 1) := by decide +kernel
theorem dX4_half_18 : decode cX4_half 18 = .ok (.iadd, 1) := by decide +kernel
theorem dX4_half_19 : decode cX4_half 19 = .ok (.iconst 4, 1) := by decide +kernel
theorem dX4_half_20 : decode cX4_half 20 = .ok (.iload_n 2, 1) := by decide +kernel
theorem dX4_half_21 : decode cX4_half 21 = .ok (.imul, 1) := by decide +kernel
theorem dX4_half_22 : decode cX4_half 22 = .ok (.iadd, 1) := by decide +kernel
theorem dX4_half_23 : decode cX4_half 23 = .ok (.iload 4, 2) := by decide +kernel
theorem dX4_half_25 : decode cX4_half 25 = .ok (.iadd, 1) := by decide +kernel
theorem dX4_half_26 : decode cX4_half 26 = .ok (.iload_n 3, 1) := by decide +kernel
theorem dX4_half_27 : decode cX4_half 27 = .ok (.bipush 24, 2) := by decide +kernel
theorem dX4_half_29 : decode cX4_half 29 = .ok (.bipush 8, 2) := by decide +kernel
theorem dX4_half_31 : decode cX4_half 31 = .ok (.iload 4, 2) := by decide +kernel
theorem dX4_half_33 : decode cX4_half 33 = .ok (.imul, 1) := by decide +kernel
theorem dX4_half_34 : decode cX4_half 34 = .ok (.isub, 1) := by decide +kernel
theorem dX4_half_35 : decode cX4_half 35 = .ok (.ishr, 1) := by decide +kernel
theorem dX4_half_36 : decode cX4_half 36 = .ok (.sipush 255, 3) := by decide +kernel
theorem dX4_half_39 : decode cX4_half 39 = .ok (.iand, 1) := by decide +kernel
theorem dX4_half_40 : decode cX4_half 40 = .ok (.iastore, 1) := by decide +kernel
theorem dX4_half_41 : decode cX4_half 41 = .ok (.iinc 4 1, 3) := by decide +kernel
theorem dX4_half_44 : decode cX4_half 44 = .ok (.goto (-41), 3) := by decide +kernel
theorem dX4_half_47 : decode cX4_half 47 = .ok (.return_, 1) := by decide +kernel
theorem dX4_join_0 : decode cX4_join 0 = .ok (.aload_n 0, 1) := by decide +kernel
theorem dX4_join_1 : decode cX4_join 1 = .ok (.getfield 100, 3) := by decide +kernel
theorem dX4_join_4 : decode cX4_join 4 = .ok (.iconst 0, 1) := by decide +kernel
theorem dX4_join_5 : decode cX4_join 5 = .ok (.iconst 1, 1) := by decide +kernel
theorem dX4_join_6 : decode cX4_join 6 = .ok (.iastore, 1) := by decide +kernel
theorem dX4_join_7 : decode cX4_join 7 = .ok (.aload_n 0, 1) := by decide +kernel
theorem dX4_join_8 : decode cX4_join 8 = .ok (.bipush 65, 2) := by decide +kernel
theorem dX4_join_10 : decode cX4_join 10 = .ok (.invokevirtual 146, 3) := by decide +kernel
theorem dX4_join_13 : decode cX4_join 13 = .ok (.return_, 1) := by decide +kernel
theorem dX4_begin_0 : decode cX4_begin 0 = .ok (.aload_n 0, 1) := by decide +kernel
theorem dX4_begin_1 : decode cX4_begin 1 = .ok (.aload_n 0, 1) := by decide +kernel
theorem dX4_begin_2 : decode cX4_begin 2 = .ok (.getfield 94, 3) := by decide +kernel
theorem dX4_begin_5 : decode cX4_begin 5 = .ok (.iload_n 1, 1) := by decide +kernel
theorem dX4_begin_6 : decode cX4_begin 6 = .ok (.iaload, 1) := by decide +kernel
theorem dX4_begin_7 : decode cX4_begin 7 = .ok (.putfield 149, 3) := by decide +kernel
theorem dX4_begin_10 : decode cX4_begin 10 = .ok (.iconst 0, 1) := by decide +kernel
theorem dX4_begin_11 : decode cX4_begin 11 = .ok (.istore_n 2, 1) := by decide +kernel
theorem dX4_begin_12 : decode cX4_begin 12 = .ok (.iload_n 2, 1) := by decide +kernel
theorem dX4_begin_13 : decode cX4_begin 13 = .ok (.aload_n 0, 1) := by decide +kernel
theorem dX4_begin_14 : decode cX4_begin 14 = .ok (.getfield 149, 3) := by decide +kernel
theorem dX4_begin_17 : decode cX4_begin 17 = .ok (.if_icmp .ge 101, 3) := by decide +kernel
theorem dX4_begin_20 : decode cX4_begin 20 = .ok (.aload_n 0, 1) := by decide +kernel
theorem dX4_begin_21 : decode cX4_begin 21 = .ok (.getfield 88, 3) := by decide +kernel
theorem dX4_begin_24 : decode cX4_begin 24 = .ok (.sipush 300, 3) := by decide +kernel
theorem dX4_begin_27 : decode cX4_begin 27 = .ok (.iload_n 1, 1) := by decide +kernel
theorem dX4_begin_28 : decode cX4_begin 28 = .ok (.imul, 1) := by decide +kernel
theorem dX4_begin_29 : decode cX4_begin 29 = .ok (.iload_n 2, 1) := by decide +kernel
theorem dX4_begin_30 : decode cX4_begin 30 = .ok (.iadd, 1) := by decide +kernel
theorem dX4_begin_31 : decode cX4_begin 31 = .ok (.iaload, 1) := by decide +kernel
theorem dX4_begin_32 : decode cX4_begin 32 = .ok (.istore_n 3, 1) := by decide +kernel
theorem dX4_begin_33 : decode cX4_begin 33 = .ok (.aload_n 0, 1) := by decide +kernel
theorem dX4_begin_34 : decode cX4_begin 34 = .ok (.getfield 109, 3) := by decide +kernel
theorem dX4_begin_37 : decode cX4_begin 37 = .ok (.iload_n 2, 1) := by decide +kernel
theorem dX4_begin_38 : decode cX4_begin 38 = .ok (.iload_n 3, 1) := by decide +kernel
theorem dX4_begin_39 : decode cX4_begin 39 = .ok (.iastore, 1) := by decide +kernel
theorem dX4_begin_40 : decode cX4_begin 40 = .ok (.aload_n 0, 1) := by decide +kernel
theorem dX4_begin_41 : decode cX4_begin 41 = .ok (.getfield 112, 3) := by decide +kernel
theorem dX4_begin_44 : decode cX4_begin 44 = .ok (.iload_n 2, 1) := by decide +kernel
theorem dX4_begin_45 : decode cX4_begin 45 = .ok (.iconst 1, 1) := by decide +kernel
theorem dX4_begin_46 : decode cX4_begin 46 = .ok (.iastore, 1) := by decide +kernel
theorem dX4_begin_47 : decode cX4_begin 47 = .ok (.aload_n 0, 1) := by decide +kernel
theorem dX4_begin_48 : decode cX4_begin 48 = .ok (.getfield 115, 3) := by decide +kernel
theorem dX4_begin_51 : decode cX4_begin 51 = .ok (.iload_n 2, 1) := by decide +kernel
theorem dX4_begin_52 : decode cX4_begin 52 = .ok (.sipush 300, 3) := by decide +kernel
theorem dX4_begin_55 : decode cX4_begin 55 = .ok (.iload_n 1, 1) := by decide +kernel
theorem dX4_begin_56 : decode cX4_begin 56 = .ok (.imul, 1) := by decide +kernel
theorem dX4_begin_57 : decode cX4_begin 57 = .ok (.iload_n 2, 1) := by decide +kernel
theorem dX4_begin_58 : decode cX4_begin 58 = .ok (.iadd, 1) := by decide +kernel
theorem dX4_begin_59 : decode cX4_begin 59 = .ok (.iastore, 1) := by decide +kernel
theorem dX4_begin_60 : decode cX4_begin 60 = .ok (.aload_n 0, 1) := by decide +kernel
theorem dX4_begin_61 : decode cX4_begin 61 = .ok (.iload_n 3, 1) := by decide +kernel
theorem dX4_begin_62 : decode cX4_begin 62 = .ok (.aload_n 0, 1) := by decide +kernel
theorem dX4_begin_63 : decode cX4_begin 63 = .ok (.getfield 91, 3) := by decide +kernel
theorem dX4_begin_66 : decode cX4_begin 66 = .ok (.sipush 300, 3) := by decide +kernel
theorem dX4_begin_69 : decode cX4_begin 69 = .ok (.iload_n 1, 1) := by decide +kernel
theorem dX4_begin_70 : decode cX4_begin 70 = .ok (.imul, 1) := by decide +kernel
theorem dX4_begin_71 : decode cX4_begin 71 = .ok (.iload_n 2, 1) := by decide +kernel
theorem dX4_begin_72 : decode cX4_begin 72 = .ok (.iadd, 1) := by decide +kernel
theorem dX4_begin_73 : decode cX4_begin 73 = .ok (.iaload, 1) := by decide +kernel
theorem dX4_begin_74 : decode cX4_begin 74 = .ok (.invokevirtual 152, 3) := by decide +kernel
theorem dX4_begin_77 : decode cX4_begin 77 = .ok (.iconst 0, 1) := by decide +kernel
theorem dX4_begin_78 : decode cX4_begin 78 = .ok (.istore 4, 2) := by decide +kernel
theorem dX4_begin_80 : decode cX4_begin 80 = .ok (.iload 4, 2) := by decide +kernel
theorem dX4_begin_82 : decode cX4_begin 82 = .ok (.bipush 8, 2) := by decide +kernel
theorem dX4_begin_84 : decode cX4_begin 84 = .ok (.if_icmp .ge 28, 3) := by decide +kernel
theorem dX4_begin_87 : decode cX4_begin 87 = .ok (.aload_n 0, 1) := by decide +kernel
theorem dX4_begin_88 : decode cX4_begin 88 = .ok (.getfield 118, 3) := by decide +kernel
theorem dX4_begin_91 : decode cX4_begin 91 = .ok (.bipush 8, 2) := by decide +kernel
theorem dX4_begin_93 : decode cX4_begin 93 = .ok (.iload_n 2, 1) := by decide +kernel
theorem dX4_begin_94 : decode cX4_begin 94 = .ok (.imul, 1) := by decide +kernel
theorem dX4_begin_95 : decode cX4_begin 95 = .ok (.iload 4, 2) := by decide +kernel
theorem dX4_begin_97 : decode cX4_begin 97 = .ok (.iadd, 1) := by decide +kernel
theorem dX4_begin_98 : decode cX4_begin 98 = .ok (.aload_n 0, 1) := by decide +kernel
theorem dX4_begin_99 : decode cX4_begin 99 = .ok (.getfield 106, 3) := by decide +kernel
theorem dX4_begin_102 : decode cX4_begin 102 = .ok (.iload 4, 2) := by decide +kernel
theorem dX4_begin_104 : decode cX4_begin 104 = .ok (.iaload, 1) := by decide +kernel
theorem dX4_begin_105 : decode cX4_begin 105 = .ok (.iastore, 1) := by decide +kernel
theorem dX4_begin_106 : decode cX4_begin 106 = .ok (.iinc 4 1, 3) := by decide +kernel
theorem dX4_begin_109 : decode cX4_begin 109 = .ok (.goto (-29), 3) := by decide +kernel
theorem dX4_begin_112 : decode cX4_begin 112 = .ok (.iinc 2 1, 3) := by decide +kernel
theorem dX4_begin_115 : decode cX4_begin 115 = .ok (.goto (-103), 3) := by decide +kernel
theorem dX4_begin_118 : decode cX4_begin 118 = .ok (.return_, 1) := by decide +kernel
theorem dX4_look_0 : decode cX4_look 0 = .ok (.iload_n 2, 1) := by decide +kernel
theorem dX4_look_1 : decode cX4_look 1 = .ok (.bipush 16, 2) := by decide +kernel
theorem dX4_look_3 : decode cX4_look 3 = .ok (.iload_n 1, 1) := by decide +kernel
theorem dX4_look_4 : decode cX4_look 4 = .ok (.isub, 1) := by decide +kernel
theorem dX4_look_5 : decode cX4_look 5 = .ok (.ishr, 1) := by decide +kernel
theorem dX4_look_6 : decode cX4_look 6 = .ok (.istore_n 3, 1) := by decide +kernel
theorem dX4_look_7 : decode cX4_look 7 = .ok (.aload_n 0, 1) := by decide +kernel
theorem dX4_look_8 : decode cX4_look 8 = .ok (.getfield 121, 3) := by decide +kernel
theorem dX4_look_11 : decode cX4_look 11 = .ok (.iload_n 1, 1) := by decide +kernel
theorem dX4_look_12 : decode cX4_look 12 = .ok (.iconst 0, 1) := by decide +kernel
theorem dX4_look_13 : decode cX4_look 13 = .ok (.iastore, 1) := by decide +kernel
theorem dX4_look_14 : decode cX4_look 14 = .ok (.iconst 0, 1) := by decide +kernel
theorem dX4_look_15 : decode cX4_look 15 = .ok (.istore 4, 2) := by decide +kernel
theorem dX4_look_17 : decode cX4_look 17 = .ok (.iload 4, 2) := by decide +kernel
theorem dX4_look_19 : decode cX4_look 19 = .ok (.bipush 8, 2) := by decide +kernel
theorem dX4_look_21 : decode cX4_look 21 = .ok (.if_icmp .ge 22, 3) := by decide +kernel
theorem dX4_look_24 : decode cX4_look 24 = .ok (.aload_n 0, 1) := by decide +kernel
theorem dX4_look_25 : decode cX4_look 25 = .ok (.getfield 127, 3) := by decide +kernel
theorem dX4_look_28 : decode cX4_look 28 = .ok (.bipush 8, 2) := by decide +kernel
theorem dX4_look_30 : decode cX4_look 30 = .ok (.iload_n 1, 1) := by decide +kernel
theorem dX4_look_31 : decode cX4_look 31 = .ok (.imul, 1) := by decide +kernel
theorem dX4_look_32 : decode cX4_look 32 = .ok (.iload 4, 2) := by decide +kernel
theorem dX4_look_34 : decode cX4_look 34 = .ok (.iadd, 1) := by decide +kernel
theorem dX4_look_35 : decode cX4_look 35 = .ok (.iconst 0, 1) := by decide +kernel
theorem dX4_look_36 : decode cX4_look 36 = .ok (.iastore, 1) := by decide +kernel
theorem dX4_look_37 : decode cX4_look 37 = .ok (.iinc 4 1, 3) := by decide +kernel
theorem dX4_look_40 : decode cX4_look 40 = .ok (.goto (-23), 3) := by decide +kernel
theorem dX4_look_43 : decode cX4_look 43 = .ok (.iconst 0, 1) := by decide +kernel
theorem dX4_look_44 : decode cX4_look 44 = .ok (.istore 4, 2) := by decide +kernel
theorem dX4_look_46 : decode cX4_look 46 = .ok (.iload 4, 2) := by decide +kernel
theorem dX4_look_48 : decode cX4_look 48 = .ok (.aload_n 0, 1) := by decide +kernel
theorem dX4_look_49 : decode cX4_look 49 = .ok (.getfield 149, 3) := by decide +kernel
theorem dX4_look_52 : decode cX4_look 52 = .ok (.if_icmp .ge 104, 3) := by decide +kernel
theorem dX4_look_55 : decode cX4_look 55 = .ok (.aload_n 0, 1) := by decide +kernel
theorem dX4_look_56 : decode cX4_look 56 = .ok (.getfield 109, 3) := by decide +kernel
theorem dX4_look_59 : decode cX4_look 59 = .ok (.iload 4, 2) := by decide +kernel
theorem dX4_look_61 : decode cX4_look 61 = .ok (.iaload, 1) := by decide +kernel
theorem dX4_look_62 : decode cX4_look 62 = .ok (.iload_n 3, 1) := by decide +kernel
theorem dX4_look_63 : decode cX4_look 63 = .ok (.if_icmp .ne 29, 3) := by decide +kernel
theorem dX4_look_66 : decode cX4_look 66 = .ok (.aload_n 0, 1) := by decide +kernel
theorem dX4_look_67 : decode cX4_look 67 = .ok (.getfield 121, 3) := by decide +kernel
theorem dX4_look_70 : decode cX4_look 70 = .ok (.iload_n 1, 1) := by decide +kernel
theorem dX4_look_71 : decode cX4_look 71 = .ok (.aload_n 0, 1) := by decide +kernel
theorem dX4_look_72 : decode cX4_look 72 = .ok (.getfield 112, 3) := by decide +kernel
theorem dX4_look_75 : decode cX4_look 75 = .ok (.iload 4, 2) := by decide +kernel
theorem dX4_look_77 : decode cX4_look 77 = .ok (.iaload, 1) := by decide +kernel
theorem dX4_look_78 : decode cX4_look 78 = .ok (.iastore, 1) := by decide +kernel
theorem dX4_look_79 : decode cX4_look 79 = .ok (.aload_n 0, 1) := by decide +kernel
theorem dX4_look_80 : decode cX4_look 80 = .ok (.getfield 124, 3) := by decide +kernel
theorem dX4_look_83 : decode cX4_look 83 = .ok (.iload_n 1, 1) := by decide +kernel
theorem dX4_look_84 : decode cX4_look 84 = .ok (.aload_n 0, 1) := by decide +kernel
theorem dX4_look_85 : decode cX4_look 85 = .ok (.getfield 115, 3) := by decide +kernel
theorem dX4_look_88 : decode cX4_look 88 = .ok (.iload 4, 2) := by decide +kernel
theorem dX4_look_90 : decode cX4_look 90 = .ok (.iaload, 1) := by decide +kernel
theorem dX4_look_91 : decode cX4_look 91 = .ok (.iastore, 1) := by decide +kernel
theorem dX4_look_92 : decode cX4_look 92 = .ok (.iconst 0, 1) := by decide +kernel
theorem dX4_look_93 : decode cX4_look 93 = .ok (.istore 5, 2) := by decide +kernel
theorem dX4_look_95 : decode cX4_look 95 = .ok (.iload 5, 2) := by decide +kernel
theorem dX4_look_97 : decode cX4_look 97 = .ok (.bipush 8, 2) := by decide +kernel
theorem dX4_look_99 : decode cX4_look 99 = .ok (.if_icmp .ge 51, 3) := by decide +kernel
theorem dX4_look_102 : decode cX4_look 102 = .ok (.iload_n 1, 1) := by decide +kernel
theorem dX4_look_103 : decode cX4_look 103 = .ok (.ifCond .le 47, 3) := by decide +kernel
theorem dX4_look_106 : decode cX4_look 106 = .ok (.aload_n 0, 1) := by decide +kernel
theorem dX4_look_107 : decode cX4_look 107 = .ok (.getfield 109, 3) := by decide +kernel
theorem dX4_look_110 : decode cX4_look 110 = .ok (.iload 4, 2) := by decide +kernel
theorem dX4_look_112 : decode cX4_look 112 = .ok (.iaload, 1) := by decide +kernel
theorem dX4_look_113 : decode cX4_look 113 = .ok (.iload_n 3, 1) := by decide +kernel
theorem dX4_look_114 : decode cX4_look 114 = .ok (.iconst 1, 1) := by decide +kernel
theorem dX4_look_115 : decode cX4_look 115 = .ok (.ixor, 1) := by decide +kernel
theorem dX4_look_116 : decode cX4_look 116 = .ok (.if_icmp .ne 34, 3) := by decide +kernel
theorem dX4_look_119 : decode cX4_look 119 = .ok (.aload_n 0, 1) := by decide +kernel
theorem dX4_look_120 : decode cX4_look 120 = .ok (.getfield 127, 3) := by decide +kernel
theorem dX4_look_123 : decode cX4_look 123 = .ok (.bipush 8, 2) := by decide +kernel
theorem dX4_look_125 : decode cX4_look 125 = .ok (.iload_n 1, 1) := by decide +kernel
theorem dX4_look_126 : decode cX4_look 126 = .ok (.imul, 1) := by decide +kernel
theorem dX4_look_127 : decode cX4_look 127 = .ok (.iload 5, 2) := by decide +kernel
theorem dX4_look_129 : decode cX4_look 129 = .ok (.iadd, 1) := by decide +kernel
theorem dX4_look_130 : decode cX4_look 130 = .ok (.aload_n 0, 1) := by decide +kernel
theorem dX4_look_131 : decode cX4_look 131 = .ok (.getfield 118, 3) := by decide +kernel
theorem dX4_look_134 : decode cX4_look 134 = .ok (.bipush 8, 2) := by decide +kernel
theorem dX4_look_136 : decode cX4_look 136 = .ok (.iload 4, 2) := by decide +kernel
theorem dX4_look_138 : decode cX4_look 138 = .ok (.imul, 1) := by decide +kernel
theorem dX4_look_139 : decode cX4_look 139 = .ok (.iload 5, 2) := by decide +kernel
theorem dX4_look_141 : decode cX4_look 141 = .ok (.iadd, 1) := by decide +kernel
theorem dX4_look_142 : decode cX4_look 142 = .ok (.iaload, 1) := by decide +kernel
theorem dX4_look_143 : decode cX4_look 143 = .ok (.iastore, 1) := by decide +kernel
theorem dX4_look_144 : decode cX4_look 144 = .ok (.iinc 5 1, 3) := by decide +kernel
theorem dX4_look_147 : decode cX4_look 147 = .ok (.goto (-52), 3) := by decide +kernel
theorem dX4_look_150 : decode cX4_look 150 = .ok (.iinc 4 1, 3) := by decide +kernel
theorem dX4_look_153 : decode cX4_look 153 = .ok (.goto (-107), 3) := by decide +kernel
theorem dX4_look_156 : decode cX4_look 156 = .ok (.return_, 1) := by decide +kernel
theorem dX4_copyNode_0 : decode cX4_copyNode 0 = .ok (.aload_n 0, 1) := by decide +kernel
theorem dX4_copyNode_1 : decode cX4_copyNode 1 = .ok (.getfield 109, 3) := by decide +kernel
theorem dX4_copyNode_4 : decode cX4_copyNode 4 = .ok (.iload_n 2, 1) := by decide +kernel
theorem dX4_copyNode_5 : decode cX4_copyNode 5 = .ok (.aload_n 0, 1) := by decide +kernel
theorem dX4_copyNode_6 : decode cX4_copyNode 6 = .ok (.getfield 109, 3) := by decide +kernel
theorem dX4_copyNode_9 : decode cX4_copyNode 9 = .ok (.iload_n 1, 1) := by decide +kernel
theorem dX4_copyNode_10 : decode cX4_copyNode 10 = .ok (.iaload, 1) := by decide +kernel
theorem dX4_copyNode_11 : decode cX4_copyNode 11 = .ok (.iconst 1, 1) := by decide +kernel
theorem dX4_copyNode_12 : decode cX4_copyNode 12 = .ok (.ishr, 1) := by decide +kernel
theorem dX4_copyNode_13 : decode cX4_copyNode 13 = .ok (.iastore, 1) := by decide +kernel
theorem dX4_copyNode_14 : decode cX4_copyNode 14 = .ok (.aload_n 0, 1) := by decide +kernel
theorem dX4_copyNode_15 : decode cX4_copyNode 15 = .ok (.getfield 112, 3) := by decide +kernel
theorem dX4_copyNode_18 : decode cX4_copyNode 18 = .ok (.iload_n 2, 1) := by decide +kernel
theorem dX4_copyNode_19 : decode cX4_copyNode 19 = .ok (.aload_n 0, 1) := by decide +kernel
theorem dX4_copyNode_20 : decode cX4_copyNode 20 = .ok (.getfield 112, 3) := by decide +kernel
theorem dX4_copyNode_23 : decode cX4_copyNode 23 = .ok (.iload_n 1, 1) := by decide +kernel
theorem dX4_copyNode_24 : decode cX4_copyNode 24 = .ok (.iaload, 1) := by decide +kernel
theorem dX4_copyNode_25 : decode cX4_copyNode 25 = .ok (.iastore, 1) := by decide +kernel
theorem dX4_copyNode_26 : decode cX4_copyNode 26 = .ok (.aload_n 0, 1) := by decide +kernel
theorem dX4_copyNode_27 : decode cX4_copyNode 27 = .ok (.getfield 115, 3) := by decide +kernel
theorem dX4_copyNode_30 : decode cX4_copyNode 30 = .ok (.iload_n 2, 1) := by decide +kernel
theorem dX4_copyNode_31 : decode cX4_copyNode 31 = .ok (.aload_n 0, 1) := by decide +kernel
theorem dX4_copyNode_32 : decode cX4_copyNode 32 = .ok (.getfield 115, 3) := by decide +kernel
theorem dX4_copyNode_35 : decode cX4_copyNode 35 = .ok (.iload_n 1, 1) := by decide +kernel
theorem dX4_copyNode_36 : decode cX4_copyNode 36 = .ok (.iaload, 1) := by decide +kernel
theorem dX4_copyNode_37 : decode cX4_copyNode 37 = .ok (.iastore, 1) := by decide +kernel
theorem dX4_copyNode_38 : decode cX4_copyNode 38 = .ok (.iconst 0, 1) := by decide +kernel
theorem dX4_copyNode_39 : decode cX4_copyNode 39 = .ok (.istore_n 3, 1) := by decide +kernel
theorem dX4_copyNode_40 : decode cX4_copyNode 40 = .ok (.iload_n 3, 1) := by decide +kernel
theorem dX4_copyNode_41 : decode cX4_copyNode 41 = .ok (.bipush 8, 2) := by decide +kernel
theorem dX4_copyNode_43 : decode cX4_copyNode 43 = .ok (.if_icmp .ge 31, 3) := by decide +kernel
theorem dX4_copyNode_46 : decode cX4_copyNode 46 = .ok (.aload_n 0, 1) := by decide +kernel
theorem dX4_copyNode_47 : decode cX4_copyNode 47 = .ok (.getfield 118, 3) := by decide +kernel
theorem dX4_copyNode_50 : decode cX4_copyNode 50 = .ok (.bipush 8, 2) := by decide +kernel
theorem dX4_copyNode_52 : decode cX4_copyNode 52 = .ok (.iload_n 2, 1) := by decide +kernel
theorem dX4_copyNode_53 : decode cX4_copyNode 53 = .ok (.imul, 1) := by decide +kernel
theorem dX4_copyNode_54 : decode cX4_copyNode 54 = .ok (.iload_n 3, 1) := by decide +kernel
theorem dX4_copyNode_55 : decode cX4_copyNode 55 = .ok (.iadd, 1) := by decide +kernel
theorem dX4_copyNode_56 : decode cX4_copyNode 56 = .ok (.aload_n 0, 1) := by decide +kernel
theorem dX4_copyNode_57 : decode cX4_copyNode 57 = .ok (.getfield 118, 3) := by decide +kernel
theorem dX4_copyNode_60 : decode cX4_copyNode 60 = .ok (.bipush 8, 2) := by decide +kernel
theorem dX4_copyNode_62 : decode cX4_copyNode 62 = .ok (.iload_n 1, 1) := by decide +kernel
theorem dX4_copyNode_63 : decode cX4_copyNode 63 = .ok (.imul, 1) := by decide +kernel
theorem dX4_copyNode_64 : decode cX4_copyNode 64 = .ok (.iload_n 3, 1) := by decide +kernel
theorem dX4_copyNode_65 : decode cX4_copyNode 65 = .ok (.iadd, 1) := by decide +kernel
theorem dX4_copyNode_66 : decode cX4_copyNode 66 = .ok (.iaload, 1) := by decide +kernel
theorem dX4_copyNode_67 : decode cX4_copyNode 67 = .ok (.iastore, 1) := by decide +kernel
theorem dX4_copyNode_68 : decode cX4_copyNode 68 = .ok (.iinc 3 1, 3) := by decide +kernel
theorem dX4_copyNode_71 : decode cX4_copyNode 71 = .ok (.goto (-31), 3) := by decide +kernel
theorem dX4_copyNode_74 : decode cX4_copyNode 74 = .ok (.return_, 1) := by decide +kernel
theorem dX4_up_0 : decode cX4_up 0 = .ok (.iconst 0, 1) := by decide +kernel
theorem dX4_up_1 : decode cX4_up 1 = .ok (.istore_n 1, 1) := by decide +kernel
theorem dX4_up_2 : decode cX4_up 2 = .ok (.iconst 0, 1) := by decide +kernel
theorem dX4_up_3 : decode cX4_up 3 = .ok (.istore_n 2, 1) := by decide +kernel
theorem dX4_up_4 : decode cX4_up 4 = .ok (.iload_n 2, 1) := by decide +kernel
theorem dX4_up_5 : decode cX4_up 5 = .ok (.aload_n 0, 1) := by decide +kernel
theorem dX4_up_6 : decode cX4_up 6 = .ok (.getfield 149, 3) := by decide +kernel
theorem dX4_up_9 : decode cX4_up 9 = .ok (.if_icmp .ge 280, 3) := by decide +kernel
theorem dX4_up_12 : decode cX4_up 12 = .ok (.iload_n 2, 1) := by decide +kernel
theorem dX4_up_13 : decode cX4_up 13 = .ok (.iconst 1, 1) := by decide +kernel
theorem dX4_up_14 : decode cX4_up 14 = .ok (.iadd, 1) := by decide +kernel
theorem dX4_up_15 : decode cX4_up 15 = .ok (.aload_n 0, 1) := by decide +kernel
theorem dX4_up_16 : decode cX4_up 16 = .ok (.getfield 149, 3) := by decide +kernel
theorem dX4_up_19 : decode cX4_up 19 = .ok (.if_icmp .ge 28, 3) := by decide +kernel
theorem dX4_up_22 : decode cX4_up 22 = .ok (.aload_n 0, 1) := by decide +kernel
theorem dX4_up_23 : decode cX4_up 23 = .ok (.getfield 109, 3) := by decide +kernel
theorem dX4_up_26 : decode cX4_up 26 = .ok (.iload_n 2, 1) := by decide +kernel
theorem dX4_up_27 : decode cX4_up 27 = .ok (.iaload, 1) := by decide +kernel
theorem dX4_up_28 : decode cX4_up 28 = .ok (.iconst 1, 1) := by decide +kernel
theorem dX4_up_29 : decode cX4_up 29 = .ok (.ishr, 1) := by decide +kernel
theorem dX4_up_30 : decode cX4_up 30 = .ok (.aload_n 0, 1) := by decide +kernel
theorem dX4_up_31 : decode cX4_up 31 = .ok (.getfield 109, 3) := by decide +kernel
theorem dX4_up_34 : decode cX4_up 34 = .ok (.iload_n 2, 1) := by decide +kernel
theorem dX4_up_35 : decode cX4_up 35 = .ok (.iconst 1, 1) := by decide +kernel
theorem dX4_up_36 : decode cX4_up 36 = .ok (.iadd, 1) := by decide +kernel
theorem dX4_up_37 : decode cX4_up 37 = .ok (.iaload, 1) := by decide +kernel
theorem dX4_up_38 : decode cX4_up 38 = .ok (.iconst 1, 1) := by decide +kernel
theorem dX4_up_39 : decode cX4_up 39 = .ok (.ishr, 1) := by decide +kernel
theorem dX4_up_40 : decode cX4_up 40 = .ok (.if_icmp .ne 7, 3) := by decide +kernel
theorem dX4_up_43 : decode cX4_up 43 = .ok (.iconst 1, 1) := by decide +kernel
theorem dX4_up_44 : decode cX4_up 44 = .ok (.goto 4, 3) := by decide +kernel
theorem dX4_up_47 : decode cX4_up 47 = .ok (.iconst 0, 1) := by decide +kernel
theorem dX4_up_48 : decode cX4_up 48 = .ok (.istore_n 3, 1) := by decide +kernel
theorem dX4_up_49 : decode cX4_up 49 = .ok (.iload_n 3, 1) := by decide +kernel
theorem dX4_up_50 : decode cX4_up 50 = .ok (.ifCond .ne 25, 3) := by decide +kernel
theorem dX4_up_53 : decode cX4_up 53 = .ok (.aload_n 0, 1) := by decide +kernel
theorem dX4_up_54 : decode cX4_up 54 = .ok (.getfield 112, 3) := by decide +kernel
theorem dX4_up_57 : decode cX4_up 57 = .ok (.iload_n 2, 1) := by decide +kernel
theorem dX4_up_58 : decode cX4_up 58 = .ok (.iaload, 1) := by decide +kernel
theorem dX4_up_59 : decode cX4_up 59 = .ok (.iconst 1, 1) := by decide +kernel
theorem dX4_up_60 : decode cX4_up 60 = .ok (.if_icmp .ne 15, 3) := by decide +kernel
theorem dX4_up_63 : decode cX4_up 63 = .ok (.aload_n 0, 1) := by decide +kernel
theorem dX4_up_64 : decode cX4_up 64 = .ok (.iload_n 2, 1) := by decide +kernel
theorem dX4_up_65 : decode cX4_up 65 = .ok (.iload_n 1, 1) := by decide +kernel
theorem dX4_up_66 : decode cX4_up 66 = .ok (.invokevirtual 156, 3) := by decide +kernel
theorem dX4_up_69 : decode cX4_up 69 = .ok (.iinc 2 1, 3) := by decide +kernel
theorem dX4_up_72 : decode cX4_up 72 = .ok (.goto 211, 3) := by decide +kernel
theorem dX4_up_75 : decode cX4_up 75 = .ok (.iconst 0, 1) := by decide +kernel
theorem dX4_up_76 : decode cX4_up 76 = .ok (.istore 4, 2) := by decide +kernel
theorem dX4_up_78 : decode cX4_up 78 = .ok (.iload 4, 2) := by decide +kernel
theorem dX4_up_80 : decode cX4_up 80 = .ok (.bipush 8, 2) := by decide +kernel
theorem dX4_up_82 : decode cX4_up 82 = .ok (.if_icmp .ge 104, 3) := by decide +kernel
theorem dX4_up_85 : decode cX4_up 85 = .ok (.aload_n 0, 1) := by decide +kernel
theorem dX4_up_86 : decode cX4_up 86 = .ok (.iconst 0, 1) := by decide +kernel
theorem dX4_up_87 : decode cX4_up 87 = .ok (.iload 4, 2) := by decide +kernel
theorem dX4_up_89 : decode cX4_up 89 = .ok (.iload_n 3, 1) := by decide +kernel
theorem dX4_up_90 : decode cX4_up 90 = .ok (.ifCond .ne 14, 3) := by decide +kernel
theorem dX4_up_93 : decode cX4_up 93 = .ok (.aload_n 0, 1) := by decide +kernel
theorem dX4_up_94 : decode cX4_up 94 = .ok (.getfield 109, 3) := by decide +kernel
theorem dX4_up_97 : decode cX4_up 97 = .ok (.iload_n 2, 1) := by decide +kernel
theorem dX4_up_98 : decode cX4_up 98 = .ok (.iaload, 1) := by decide +kernel
theorem dX4_up_99 : decode cX4_up 99 = .ok (.iconst 1, 1) := by decide +kernel
theorem dX4_up_100 : decode cX4_up 100 = .ok (.iand, 1) := by decide +kernel
theorem dX4_up_101 : decode cX4_up 101 = .ok (.ifCond .ne 18, 3) := by decide +kernel
theorem dX4_up_104 : decode cX4_up 104 = .ok (.aload_n 0, 1) := by decide +kernel
theorem dX4_up_105 : decode cX4_up 105 = .ok (.getfield 118, 3) := by decide +kernel
theorem dX4_up_108 : decode cX4_up 108 = .ok (.bipush 8, 2) := by decide +kernel
theorem dX4_up_110 : decode cX4_up 110 = .ok (.iload_n 2, 1) := by decide +kernel
theorem dX4_up_111 : decode cX4_up 111 = .ok (.imul, 1) := by decide +kernel
theorem dX4_up_112 : decode cX4_up 112 = .ok (.iload 4, 2) := by decide +kernel
theorem dX4_up_114 : decode cX4_up 114 = .ok (.iadd, 1) := by decide +kernel
theorem dX4_up_115 : decode cX4_up 115 = .ok (.iaload, 1) := by decide +kernel
theorem dX4_up_116 : decode cX4_up 116 = .ok (.goto 4, 3) := by decide +kernel
theorem dX4_up_119 : decode cX4_up 119 = .ok (.iconst 0, 1) := by decide +kernel
theorem dX4_up_120 : decode cX4_up 120 = .ok (.invokevirtual 159, 3) := by decide +kernel
theorem dX4_up_123 : decode cX4_up 123 = .ok (.aload_n 0, 1) := by decide +kernel
theorem dX4_up_124 : decode cX4_up 124 = .ok (.iconst 1, 1) := by decide +kernel
theorem dX4_up_125 : decode cX4_up 125 = .ok (.iload 4, 2) := by decide +kernel
theorem dX4_up_127 : decode cX4_up 127 = .ok (.iload_n 3, 1) := by decide +kernel
theorem dX4_up_128 : decode cX4_up 128 = .ok (.ifCond .eq 21, 3) := by decide +kernel
theorem dX4_up_131 : decode cX4_up 131 = .ok (.aload_n 0, 1) := by decide +kernel
theorem dX4_up_132 : decode cX4_up 132 = .ok (.getfield 118, 3) := by decide +kernel
theorem dX4_up_135 : decode cX4_up 135 = .ok (.bipush 8, 2) := by decide +kernel
theorem dX4_up_137 : decode cX4_up 137 = .ok (.iload_n 2, 1) := by decide +kernel
theorem dX4_up_138 : decode cX4_up 138 = .ok (.imul, 1) := by decide +kernel
theorem dX4_up_139 : decode cX4_up 139 = .ok (.bipush 8, 2) := by decide +kernel
theorem dX4_up_141 : decode cX4_up 141 = .ok (.iadd, 1) := by decide +kernel
theorem dX4_up_142 : decode cX4_up 142 = .ok (.iload 4, 2) := by decide +kernel
theorem dX4_up_144 : decode cX4_up 144 = .ok (.iadd, 1) := by decide +kernel
theorem dX4_up_145 : decode cX4_up 145 = .ok (.iaload, 1) := by decide +kernel
theorem dX4_up_146 : decode cX4_up 146 = .ok (.goto 31, 3) := by decide +kernel
theorem dX4_up_149 : decode cX4_up 149 = .ok (.aload_n 0, 1) := by decide +kernel
theorem dX4_up_150 : decode cX4_up 150 = .ok (.getfield 109, 3) := by decide +kernel
theorem dX4_up_153 : decode cX4_up 153 = .ok (.iload_n 2, 1) := by decide +kernel
theorem dX4_up_154 : decode cX4_up 154 = .ok (.iaload, 1) := by decide +kernel
theorem dX4_up_155 : decode cX4_up 155 = .ok (.iconst 1, 1) := by decide +kernel
theorem dX4_up_156 : decode cX4_up 156 = .ok (.iand, 1) := by decide +kernel
theorem dX4_up_157 : decode cX4_up 157 = .ok (.iconst 1, 1) := by decide +kernel
theorem dX4_up_158 : decode cX4_up 158 = .ok (.if_icmp .ne 18, 3) := by decide +kernel
theorem dX4_up_161 : decode cX4_up 161 = .ok (.aload_n 0, 1) := by decide +kernel
theorem dX4_up_162 : decode cX4_up 162 = .ok (.getfield 118, 3) := by decide +kernel
theorem dX4_up_165 : decode cX4_up 165 = .ok (.bipush 8, 2) := by decide +kernel
theorem dX4_up_167 : decode cX4_up 167 = .ok (.iload_n 2, 1) := by decide +kernel
theorem dX4_up_168 : decode cX4_up 168 = .ok (.imul, 1) := by decide +kernel
theorem dX4_up_169 : decode cX4_up 169 = .ok (.iload 4, 2) := by decide +kernel
theorem dX4_up_171 : decode cX4_up 171 = .ok (.iadd, 1) := by decide +kernel
theorem dX4_up_172 : decode cX4_up 172 = .ok (.iaload, 1) := by decide +kernel
theorem dX4_up_173 : decode cX4_up 173 = .ok (.goto 4, 3) := by decide +kernel
theorem dX4_up_176 : decode cX4_up 176 = .ok (.iconst 0, 1) := by decide +kernel
theorem dX4_up_177 : decode cX4_up 177 = .ok (.invokevirtual 159, 3) := by decide +kernel
theorem dX4_up_180 : decode cX4_up 180 = .ok (.iinc 4 1, 3) := by decide +kernel
theorem dX4_up_183 : decode cX4_up 183 = .ok (.goto (-105), 3) := by decide +kernel
theorem dX4_up_186 : decode cX4_up 186 = .ok (.aload_n 0, 1) := by decide +kernel
theorem dX4_up_187 : decode cX4_up 187 = .ok (.invokevirtual 163, 3) := by decide +kernel
theorem dX4_up_190 : decode cX4_up 190 = .ok (.iload_n 3, 1) := by decide +kernel
theorem dX4_up_191 : decode cX4_up 191 = .ok (.ifCond .eq 21, 3) := by decide +kernel
theorem dX4_up_194 : decode cX4_up 194 = .ok (.aload_n 0, 1) := by decide +kernel
theorem dX4_up_195 : decode cX4_up 195 = .ok (.getfield 112, 3) := by decide +kernel
theorem dX4_up_198 : decode cX4_up 198 = .ok (.iload_n 2, 1) := by decide +kernel
theorem dX4_up_199 : decode cX4_up 199 = .ok (.iaload, 1) := by decide +kernel
theorem dX4_up_200 : decode cX4_up 200 = .ok (.aload_n 0, 1) := by decide +kernel
theorem dX4_up_201 : decode cX4_up 201 = .ok (.getfield 112, 3) := by decide +kernel
theorem dX4_up_204 : decode cX4_up 204 = .ok (.iload_n 2, 1) := by decide +kernel
theorem dX4_up_205 : decode cX4_up 205 = .ok (.iconst 1, 1) := by decide +kernel
theorem dX4_up_206 : decode cX4_up 206 = .ok (.iadd, 1) := by decide +kernel
theorem dX4_up_207 : decode cX4_up 207 = .ok (.iaload, 1) := by decide +kernel
theorem dX4_up_208 : decode cX4_up 208 = .ok (.iadd, 1) := by decide +kernel
theorem dX4_up_209 : decode cX4_up 209 = .ok (.goto 9, 3) := by decide +kernel
theorem dX4_up_212 : decode cX4_up 212 = .ok (.aload_n 0, 1) := by decide +kernel
theorem dX4_up_213 : decode cX4_up 213 = .ok (.getfield 112, 3) := by decide +kernel
theorem dX4_up_216 : decode cX4_up 216 = .ok (.iload_n 2, 1) := by decide +kernel
theorem dX4_up_217 : decode cX4_up 217 = .ok (.iaload, 1) := by decide +kernel
theorem dX4_up_218 : decode cX4_up 218 = .ok (.istore 4, 2) := by decide +kernel
theorem dX4_up_220 : decode cX4_up 220 = .ok (.aload_n 0, 1) := by decide +kernel
theorem dX4_up_221 : decode cX4_up 221 = .ok (.iload_n 2, 1) := by decide +kernel
theorem dX4_up_222 : decode cX4_up 222 = .ok (.iload_n 1, 1) := by decide +kernel
theorem dX4_up_223 : decode cX4_up 223 = .ok (.invokevirtual 156, 3) := by decide +kernel
theorem dX4_up_226 : decode cX4_up 226 = .ok (.aload_n 0, 1) := by decide +kernel
theorem dX4_up_227 : decode cX4_up 227 = .ok (.getfield 112, 3) := by decide +kernel
theorem dX4_up_230 : decode cX4_up 230 = .ok (.iload_n 1, 1) := by decide +kernel
theorem dX4_up_231 : decode cX4_up 231 = .ok (.iload 4, 2) := by decide +kernel
theorem dX4_up_233 : decode cX4_up 233 = .ok (.iastore, 1) := by decide +kernel
theorem dX4_up_234 : decode cX4_up 234 = .ok (.iconst 0, 1) := by decide +kernel
theorem dX4_up_235 : decode cX4_up 235 = .ok (.istore 5, 2) := by decide +kernel
theorem dX4_up_237 : decode cX4_up 237 = .ok (.iload 5, 2) := by decide +kernel
theorem dX4_up_239 : decode cX4_up 239 = .ok (.bipush 8, 2) := by decide +kernel
theorem dX4_up_241 : decode cX4_up 241 = .ok (.if_icmp .ge 28, 3) := by decide +kernel
theorem dX4_up_244 : decode cX4_up 244 = .ok (.aload_n 0, 1) := by decide +kernel
theorem dX4_up_245 : decode cX4_up 245 = .ok (.getfield 118, 3) := by decide +kernel
theorem dX4_up_248 : decode cX4_up 248 = .ok (.bipush 8, 2) := by decide +kernel
theorem dX4_up_250 : decode cX4_up 250 = .ok (.iload_n 1, 1) := by decide +kernel
theorem dX4_up_251 : decode cX4_up 251 = .ok (.imul, 1) := by decide +kernel
theorem dX4_up_252 : decode cX4_up 252 = .ok (.iload 5, 2) := by decide +kernel
theorem dX4_up_254 : decode cX4_up 254 = .ok (.iadd, 1) := by decide +kernel
theorem dX4_up_255 : decode cX4_up 255 = .ok (.aload_n 0, 1) := by decide +kernel
theorem dX4_up_256 : decode cX4_up 256 = .ok (.getfield 106, 3) := by decide +kernel
theorem dX4_up_259 : decode cX4_up 259 = .ok (.iload 5, 2) := by decide +kernel
theorem dX4_up_261 : decode cX4_up 261 = .ok (.iaload, 1) := by decide +kernel
theorem dX4_up_262 : decode cX4_up 262 = .ok (.iastore, 1) := by decide +kernel
theorem dX4_up_263 : decode cX4_up 263 = .ok (.iinc 5 1, 3) := by decide +kernel
theorem dX4_up_266 : decode cX4_up 266 = .ok (.goto (-29), 3) := by decide +kernel
theorem dX4_up_269 : decode cX4_up 269 = .ok (.iload_n 3, 1) := by decide +kernel
theorem dX4_up_270 : decode cX4_up 270 = .ok (.ifCond .eq 9, 3) := by decide +kernel
theorem dX4_up_273 : decode cX4_up 273 = .ok (.iload_n 2, 1) := by decide +kernel
theorem dX4_up_274 : decode cX4_up 274 = .ok (.iconst 2, 1) := by decide +kernel
theorem dX4_up_275 : decode cX4_up 275 = .ok (.iadd, 1) := by decide +kernel
theorem dX4_up_276 : decode cX4_up 276 = .ok (.goto 6, 3) := by decide +kernel
theorem dX4_up_279 : decode cX4_up 279 = .ok (.iload_n 2, 1) := by decide +kernel
theorem dX4_up_280 : decode cX4_up 280 = .ok (.iconst 1, 1) := by decide +kernel
theorem dX4_up_281 : decode cX4_up 281 = .ok (.iadd, 1) := by decide +kernel
theorem dX4_up_282 : decode cX4_up 282 = .ok (.istore_n 2, 1) := by decide +kernel
theorem dX4_up_283 : decode cX4_up 283 = .ok (.iinc 1 1, 3) := by decide +kernel
theorem dX4_up_286 : decode cX4_up 286 = .ok (.goto (-282), 3) := by decide +kernel
theorem dX4_up_289 : decode cX4_up 289 = .ok (.aload_n 0, 1) := by decide +kernel
theorem dX4_up_290 : decode cX4_up 290 = .ok (.iload_n 1, 1) := by decide +kernel
theorem dX4_up_291 : decode cX4_up 291 = .ok (.putfield 149, 3) := by decide +kernel
theorem dX4_up_294 : decode cX4_up 294 = .ok (.return_, 1) := by decide +kernel
theorem dX4_work_0 : decode cX4_work 0 = .ok (.aload_n 0, 1) := by decide +kernel
theorem dX4_work_1 : decode cX4_work 1 = .ok (.iload_n 1, 1) := by decide +kernel
theorem dX4_work_2 : decode cX4_work 2 = .ok (.invokevirtual 166, 3) := by decide +kernel
theorem dX4_work_5 : decode cX4_work 5 = .ok (.aload_n 0, 1) := by decide +kernel
theorem dX4_work_6 : decode cX4_work 6 = .ok (.bipush 16, 2) := by decide +kernel
theorem dX4_work_8 : decode cX4_work 8 = .ok (.iload_n 2, 1) := by decide +kernel
theorem dX4_work_9 : decode cX4_work 9 = .ok (.invokevirtual 169, 3) := by decide +kernel
theorem dX4_work_12 : decode cX4_work 12 = .ok (.bipush 15, 2) := by decide +kernel
theorem dX4_work_14 : decode cX4_work 14 = .ok (.istore_n 3, 1) := by decide +kernel
theorem dX4_work_15 : decode cX4_work 15 = .ok (.iload_n 3, 1) := by decide +kernel
theorem dX4_work_16 : decode cX4_work 16 = .ok (.ifCond .lt 19, 3) := by decide +kernel
theorem dX4_work_19 : decode cX4_work 19 = .ok (.aload_n 0, 1) := by decide +kernel
theorem dX4_work_20 : decode cX4_work 20 = .ok (.invokevirtual 172, 3) := by decide +kernel
theorem dX4_work_23 : decode cX4_work 23 = .ok (.aload_n 0, 1) := by decide +kernel
theorem dX4_work_24 : decode cX4_work 24 = .ok (.iload_n 3, 1) := by decide +kernel
theorem dX4_work_25 : decode cX4_work 25 = .ok (.iload_n 2, 1) := by decide +kernel
theorem dX4_work_26 : decode cX4_work 26 = .ok (.invokevirtual 169, 3) := by decide +kernel
theorem dX4_work_29 : decode cX4_work 29 = .ok (.iinc 3 (-1), 3) := by decide +kernel
theorem dX4_work_32 : decode cX4_work 32 = .ok (.goto (-17), 3) := by decide +kernel
theorem dX4_work_35 : decode cX4_work 35 = .ok (.iconst 0, 1) := by decide +kernel
theorem dX4_work_36 : decode cX4_work 36 = .ok (.istore_n 3, 1) := by decide +kernel
theorem dX4_work_37 : decode cX4_work 37 = .ok (.iload_n 3, 1) := by decide +kernel
theorem dX4_work_38 : decode cX4_work 38 = .ok (.bipush 8, 2) := by decide +kernel
theorem dX4_work_40 : decode cX4_work 40 = .ok (.if_icmp .ge 37, 3) := by decide +kernel
theorem dX4_work_43 : decode cX4_work 43 = .ok (.aload_n 0, 1) := by decide +kernel
theorem dX4_work_44 : decode cX4_work 44 = .ok (.getfield 97, 3) := by decide +kernel
theorem dX4_work_47 : decode cX4_work 47 = .ok (.bipush 8, 2) := by decide +kernel
theorem dX4_work_49 : decode cX4_work 49 = .ok (.iload_n 1, 1) := by decide +kernel
theorem dX4_work_50 : decode cX4_work 50 = .ok (.imul, 1) := by decide +kernel
theorem dX4_work_51 : decode cX4_work 51 = .ok (.iload_n 3, 1) := by decide +kernel
theorem dX4_work_52 : decode cX4_work 52 = .ok (.iadd, 1) := by decide +kernel
theorem dX4_work_53 : decode cX4_work 53 = .ok (.aload_n 0, 1) := by decide +kernel
theorem dX4_work_54 : decode cX4_work 54 = .ok (.getfield 149, 3) := by decide +kernel
theorem dX4_work_57 : decode cX4_work 57 = .ok (.ifCond .ne 7, 3) := by decide +kernel
theorem dX4_work_60 : decode cX4_work 60 = .ok (.iconst 0, 1) := by decide +kernel
theorem dX4_work_61 : decode cX4_work 61 = .ok (.goto 9, 3) := by decide +kernel
theorem dX4_work_64 : decode cX4_work 64 = .ok (.aload_n 0, 1) := by decide +kernel
theorem dX4_work_65 : decode cX4_work 65 = .ok (.getfield 118, 3) := by decide +kernel
theorem dX4_work_68 : decode cX4_work 68 = .ok (.iload_n 3, 1) := by decide +kernel
theorem dX4_work_69 : decode cX4_work 69 = .ok (.iaload, 1) := by decide +kernel
theorem dX4_work_70 : decode cX4_work 70 = .ok (.iastore, 1) := by decide +kernel
theorem dX4_work_71 : decode cX4_work 71 = .ok (.iinc 3 1, 3) := by decide +kernel
theorem dX4_work_74 : decode cX4_work 74 = .ok (.goto (-37), 3) := by decide +kernel
theorem dX4_work_77 : decode cX4_work 77 = .ok (.aload_n 0, 1) := by decide +kernel
theorem dX4_work_78 : decode cX4_work 78 = .ok (.aload_n 0, 1) := by decide +kernel
theorem dX4_work_79 : decode cX4_work 79 = .ok (.getfield 175, 3) := by decide +kernel
theorem dX4_work_82 : decode cX4_work 82 = .ok (.ifCond .ne 9, 3) := by decide +kernel
theorem dX4_work_85 : decode cX4_work 85 = .ok (.iload_n 1, 1) := by decide +kernel
theorem dX4_work_86 : decode cX4_work 86 = .ok (.bipush 60, 2) := by decide +kernel
theorem dX4_work_88 : decode cX4_work 88 = .ok (.if_icmp .ne 7, 3) := by decide +kernel
theorem dX4_work_91 : decode cX4_work 91 = .ok (.iconst 1, 1) := by decide +kernel
theorem dX4_work_92 : decode cX4_work 92 = .ok (.goto 4, 3) := by decide +kernel
theorem dX4_work_95 : decode cX4_work 95 = .ok (.iconst 0, 1) := by decide +kernel
theorem dX4_work_96 : decode cX4_work 96 = .ok (.putfield 175, 3) := by decide +kernel
theorem dX4_work_99 : decode cX4_work 99 = .ok (.return_, 1) := by decide +kernel
theorem dX4_know_0 : decode cX4_know 0 = .ok (.aload_n 0, 1) := by decide +kernel
theorem dX4_know_1 : decode cX4_know 1 = .ok (.getfield 175, 3) := by decide +kernel
theorem dX4_know_4 : decode cX4_know 4 = .ok (.ifCond .ne 10, 3) := by decide +kernel
theorem dX4_know_7 : decode cX4_know 7 = .ok (.aload_n 0, 1) := by decide +kernel
theorem dX4_know_8 : decode cX4_know 8 = .ok (.bipush 60, 2) := by decide +kernel
theorem dX4_know_10 : decode cX4_know 10 = .ok (.iconst 0, 1) := by decide +kernel
theorem dX4_know_11 : decode cX4_know 11 = .ok (.invokevirtual 179, 3) := by decide +kernel
theorem dX4_know_14 : decode cX4_know 14 = .ok (.return_, 1) := by decide +kernel
theorem dX4_find_0 : decode cX4_find 0 = .ok (.iconst 0, 1) := by decide +kernel
theorem dX4_find_1 : decode cX4_find 1 = .ok (.istore_n 3, 1) := by decide +kernel
theorem dX4_find_2 : decode cX4_find 2 = .ok (.iload_n 3, 1) := by decide +kernel
theorem dX4_find_3 : decode cX4_find 3 = .ok (.aload_n 0, 1) := by decide +kernel
theorem dX4_find_4 : decode cX4_find 4 = .ok (.getfield 94, 3) := by decide +kernel
theorem dX4_find_7 : decode cX4_find 7 = .ok (.iload_n 1, 1) := by decide +kernel
theorem dX4_find_8 : decode cX4_find 8 = .ok (.iaload, 1) := by decide +kernel
theorem dX4_find_9 : decode cX4_find 9 = .ok (.if_icmp .ge 25, 3) := by decide +kernel
theorem dX4_find_12 : decode cX4_find 12 = .ok (.aload_n 0, 1) := by decide +kernel
theorem dX4_find_13 : decode cX4_find 13 = .ok (.getfield 88, 3) := by decide +kernel
theorem dX4_find_16 : decode cX4_find 16 = .ok (.sipush 300, 3) := by decide +kernel
theorem dX4_find_19 : decode cX4_find 19 = .ok (.iload_n 1, 1) := by decide +kernel
theorem dX4_find_20 : decode cX4_find 20 = .ok (.imul, 1) := by decide +kernel
theorem dX4_find_21 : decode cX4_find 21 = .ok (.iload_n 3, 1) := by decide +kernel
theorem dX4_find_22 : decode cX4_find 22 = .ok (.iadd, 1) := by decide +kernel
theorem dX4_find_23 : decode cX4_find 23 = .ok (.iaload, 1) := by decide +kernel
theorem dX4_find_24 : decode cX4_find 24 = .ok (.iload_n 2, 1) := by decide +kernel
theorem dX4_find_25 : decode cX4_find 25 = .ok (.if_icmp .ge 9, 3) := by decide +kernel
theorem dX4_find_28 : decode cX4_find 28 = .ok (.iinc 3 1, 3) := by decide +kernel
theorem dX4_find_31 : decode cX4_find 31 = .ok (.goto (-29), 3) := by decide +kernel
theorem dX4_find_34 : decode cX4_find 34 = .ok (.iload_n 3, 1) := by decide +kernel
theorem dX4_find_35 : decode cX4_find 35 = .ok (.ireturn, 1) := by decide +kernel
theorem dX4_isThere_0 : decode cX4_isThere 0 = .ok (.iload_n 2, 1) := by decide +kernel
theorem dX4_isThere_1 : decode cX4_isThere 1 = .ok (.aload_n 0, 1) := by decide +kernel
theorem dX4_isThere_2 : decode cX4_isThere 2 = .ok (.getfield 94, 3) := by decide +kernel
theorem dX4_isThere_5 : decode cX4_isThere 5 = .ok (.iload_n 1, 1) := by decide +kernel
theorem dX4_isThere_6 : decode cX4_isThere 6 = .ok (.iaload, 1) := by decide +kernel
theorem dX4_isThere_7 : decode cX4_isThere 7 = .ok (.if_icmp .ge 23, 3) := by decide +kernel
theorem dX4_isThere_10 : decode cX4_isThere 10 = .ok (.aload_n 0, 1) := by decide +kernel
theorem dX4_isThere_11 : decode cX4_isThere 11 = .ok (.getfield 88, 3) := by decide +kernel
theorem dX4_isThere_14 : decode cX4_isThere 14 = .ok (.sipush 300, 3) := by decide +kernel
theorem dX4_isThere_17 : decode cX4_isThere 17 = .ok (.iload_n 1, 1) := by decide +kernel
theorem dX4_isThere_18 : decode cX4_isThere 18 = .ok (.imul, 1) := by decide +kernel
theorem dX4_isThere_19 : decode cX4_isThere 19 = .ok (.iload_n 2, 1) := by decide +kernel
theorem dX4_isThere_20 : decode cX4_isThere 20 = .ok (.iadd, 1) := by decide +kernel
theorem dX4_isThere_21 : decode cX4_isThere 21 = .ok (.iaload, 1) := by decide +kernel
theorem dX4_isThere_22 : decode cX4_isThere 22 = .ok (.iload_n 3, 1) := by decide +kernel
theorem dX4_isThere_23 : decode cX4_isThere 23 = .ok (.if_icmp .ne 7, 3) := by decide +kernel
theorem dX4_isThere_26 : decode cX4_isThere 26 = .ok (.iconst 1, 1) := by decide +kernel
theorem dX4_isThere_27 : decode cX4_isThere 27 = .ok (.goto 4, 3) := by decide +kernel
theorem dX4_isThere_30 : decode cX4_isThere 30 = .ok (.iconst 0, 1) := by decide +kernel
theorem dX4_isThere_31 : decode cX4_isThere 31 = .ok (.ireturn, 1) := by decide +kernel
theorem dX4_put_0 : decode cX4_put 0 = .ok (.iload_n 1, 1) := by decide +kernel
theorem dX4_put_1 : decode cX4_put 1 = .ok (.invokestatic 182, 3) := by decide +kernel
theorem dX4_put_4 : decode cX4_put 4 = .ok (.ifCond .ne 5, 3) := by decide +kernel
theorem dX4_put_7 : decode cX4_put 7 = .ok (.iconst (-1), 1) := by decide +kernel
theorem dX4_put_8 : decode cX4_put 8 = .ok (.ireturn, 1) := by decide +kernel
theorem dX4_put_9 : decode cX4_put 9 = .ok (.aload_n 0, 1) := by decide +kernel
theorem dX4_put_10 : decode cX4_put 10 = .ok (.bipush 60, 2) := by decide +kernel
theorem dX4_put_12 : decode cX4_put 12 = .ok (.iload_n 1, 1) := by decide +kernel
theorem dX4_put_13 : decode cX4_put 13 = .ok (.invokevirtual 186, 3) := by decide +kernel
theorem dX4_put_16 : decode cX4_put 16 = .ok (.istore_n 3, 1) := by decide +kernel
theorem dX4_put_17 : decode cX4_put 17 = .ok (.aload_n 0, 1) := by decide +kernel
theorem dX4_put_18 : decode cX4_put 18 = .ok (.bipush 60, 2) := by decide +kernel
theorem dX4_put_20 : decode cX4_put 20 = .ok (.iload_n 3, 1) := by decide +kernel
theorem dX4_put_21 : decode cX4_put 21 = .ok (.iload_n 1, 1) := by decide +kernel
theorem dX4_put_22 : decode cX4_put 22 = .ok (.invokevirtual 189, 3) := by decide +kernel
theorem dX4_put_25 : decode cX4_put 25 = .ok (.istore 4, 2) := by decide +kernel
theorem dX4_put_27 : decode cX4_put 27 = .ok (.iload 4, 2) := by decide +kernel
theorem dX4_put_29 : decode cX4_put 29 = .ok (.ifCond .ne 19, 3) := by decide +kernel
theorem dX4_put_32 : decode cX4_put 32 = .ok (.aload_n 0, 1) := by decide +kernel
theorem dX4_put_33 : decode cX4_put 33 = .ok (.getfield 94, 3) := by decide +kernel
theorem dX4_put_36 : decode cX4_put 36 = .ok (.bipush 60, 2) := by decide +kernel
theorem dX4_put_38 : decode cX4_put 38 = .ok (.iaload, 1) := by decide +kernel
theorem dX4_put_39 : decode cX4_put 39 = .ok (.sipush 300, 3) := by decide +kernel
theorem dX4_put_42 : decode cX4_put 42 = .ok (.if_icmp .ne 6, 3) := by decide +kernel
theorem dX4_put_45 : decode cX4_put 45 = .ok (.bipush (-3), 2) := by decide +kernel
theorem dX4_put_47 : decode cX4_put 47 = .ok (.ireturn, 1) := by decide +kernel
theorem dX4_put_48 : decode cX4_put 48 = .ok (.sipush 18000, 3) := by decide +kernel
theorem dX4_put_51 : decode cX4_put 51 = .ok (.istore 5, 2) := by decide +kernel
theorem dX4_put_53 : decode cX4_put 53 = .ok (.aload_n 0, 1) := by decide +kernel
theorem dX4_put_54 : decode cX4_put 54 = .ok (.getfield 94, 3) := by decide +kernel
theorem dX4_put_57 : decode cX4_put 57 = .ok (.bipush 60, 2) := by decide +kernel
theorem dX4_put_59 : decode cX4_put 59 = .ok (.iaload, 1) := by decide +kernel
theorem dX4_put_60 : decode cX4_put 60 = .ok (.istore 6, 2) := by decide +kernel
theorem dX4_put_62 : decode cX4_put 62 = .ok (.iload 6, 2) := by decide +kernel
theorem dX4_put_64 : decode cX4_put 64 = .ok (.iload_n 3, 1) := by decide +kernel
theorem dX4_put_65 : decode cX4_put 65 = .ok (.if_icmp .le 58, 3) := by decide +kernel
theorem dX4_put_68 : decode cX4_put 68 = .ok (.iload 4, 2) := by decide +kernel
theorem dX4_put_70 : decode cX4_put 70 = .ok (.ifCond .ne 53, 3) := by decide +kernel
theorem dX4_put_73 : decode cX4_put 73 = .ok (.aload_n 0, 1) := by decide +kernel
theorem dX4_put_74 : decode cX4_put 74 = .ok (.getfield 88, 3) := by decide +kernel
theorem dX4_put_77 : decode cX4_put 77 = .ok (.iload 5, 2) := by decide +kernel
theorem dX4_put_79 : decode cX4_put 79 = .ok (.iload 6, 2) := by decide +kernel
theorem dX4_put_81 : decode cX4_put 81 = .ok (.iadd, 1) := by decide +kernel
theorem dX4_put_82 : decode cX4_put 82 = .ok (.aload_n 0, 1) := by decide +kernel
theorem dX4_put_83 : decode cX4_put 83 = .ok (.getfield 88, 3) := by decide +kernel
theorem dX4_put_86 : decode cX4_put 86 = .ok (.iload 5, 2) := by decide +kernel
theorem dX4_put_88 : decode cX4_put 88 = .ok (.iload 6, 2) := by decide +kernel
theorem dX4_put_90 : decode cX4_put 90 = .ok (.iadd, 1) := by decide +kernel
theorem dX4_put_91 : decode cX4_put 91 = .ok (.iconst 1, 1) := by decide +kernel
theorem dX4_put_92 : decode cX4_put 92 = .ok (.isub, 1) := by decide +kernel
theorem dX4_put_93 : decode cX4_put 93 = .ok (.iaload, 1) := by decide +kernel
theorem dX4_put_94 : decode cX4_put 94 = .ok (.iastore, 1) := by decide +kernel
theorem dX4_put_95 : decode cX4_put 95 = .ok (.aload_n 0, 1) := by decide +kernel
theorem dX4_put_96 : decode cX4_put 96 = .ok (.getfield 91, 3) := by decide +kernel
theorem dX4_put_99 : decode cX4_put 99 = .ok (.iload 5, 2) := by decide +kernel
theorem dX4_put_101 : decode cX4_put 101 = .ok (.iload 6, 2) := by decide +kernel
theorem dX4_put_103 : decode cX4_put 103 = .ok (.iadd, 1) := by decide +kernel
theorem dX4_put_104 : decode cX4_put 104 = .ok (.aload_n 0, 1) := by decide +kernel
theorem dX4_put_105 : decode cX4_put 105 = .ok (.getfield 91, 3) := by decide +kernel
theorem dX4_put_108 : decode cX4_put 108 = .ok (.iload 5, 2) := by decide +kernel
theorem dX4_put_110 : decode cX4_put 110 = .ok (.iload 6, 2) := by decide +kernel
theorem dX4_put_112 : decode cX4_put 112 = .ok (.iadd, 1) := by decide +kernel
theorem dX4_put_113 : decode cX4_put 113 = .ok (.iconst 1, 1) := by decide +kernel
theorem dX4_put_114 : decode cX4_put 114 = .ok (.isub, 1) := by decide +kernel
theorem dX4_put_115 : decode cX4_put 115 = .ok (.iaload, 1) := by decide +kernel
theorem dX4_put_116 : decode cX4_put 116 = .ok (.iastore, 1) := by decide +kernel
theorem dX4_put_117 : decode cX4_put 117 = .ok (.iinc 6 (-1), 3) := by decide +kernel
theorem dX4_put_120 : decode cX4_put 120 = .ok (.goto (-58), 3) := by decide +kernel
theorem dX4_put_123 : decode cX4_put 123 = .ok (.aload_n 0, 1) := by decide +kernel
theorem dX4_put_124 : decode cX4_put 124 = .ok (.getfield 88, 3) := by decide +kernel
theorem dX4_put_127 : decode cX4_put 127 = .ok (.iload 5, 2) := by decide +kernel
theorem dX4_put_129 : decode cX4_put 129 = .ok (.iload_n 3, 1) := by decide +kernel
theorem dX4_put_130 : decode cX4_put 130 = .ok (.iadd, 1) := by decide +kernel
theorem dX4_put_131 : decode cX4_put 131 = .ok (.iload_n 1, 1) := by decide +kernel
theorem dX4_put_132 : decode cX4_put 132 = .ok (.iastore, 1) := by decide +kernel
theorem dX4_put_133 : decode cX4_put 133 = .ok (.aload_n 0, 1) := by decide +kernel
theorem dX4_put_134 : decode cX4_put 134 = .ok (.getfield 91, 3) := by decide +kernel
theorem dX4_put_137 : decode cX4_put 137 = .ok (.iload 5, 2) := by decide +kernel
theorem dX4_put_139 : decode cX4_put 139 = .ok (.iload_n 3, 1) := by decide +kernel
theorem dX4_put_140 : decode cX4_put 140 = .ok (.iadd, 1) := by decide +kernel
theorem dX4_put_141 : decode cX4_put 141 = .ok (.iload_n 2, 1) := by decide +kernel
theorem dX4_put_142 : decode cX4_put 142 = .ok (.iastore, 1) := by decide +kernel
theorem dX4_put_143 : decode cX4_put 143 = .ok (.aload_n 0, 1) := by decide +kernel
theorem dX4_put_144 : decode cX4_put 144 = .ok (.getfield 94, 3) := by decide +kernel
theorem dX4_put_147 : decode cX4_put 147 = .ok (.bipush 60, 2) := by decide +kernel
theorem dX4_put_149 : decode cX4_put 149 = .ok (.iload 4, 2) := by decide +kernel
theorem dX4_put_151 : decode cX4_put 151 = .ok (.ifCond .eq 13, 3) := by decide +kernel
theorem dX4_put_154 : decode cX4_put 154 = .ok (.aload_n 0, 1) := by decide +kernel
theorem dX4_put_155 : decode cX4_put 155 = .ok (.getfield 94, 3) := by decide +kernel
theorem dX4_put_158 : decode cX4_put 158 = .ok (.bipush 60, 2) := by decide +kernel
theorem dX4_put_160 : decode cX4_put 160 = .ok (.iaload, 1) := by decide +kernel
theorem dX4_put_161 : decode cX4_put 161 = .ok (.goto 12, 3) := by decide +kernel
theorem dX4_put_164 : decode cX4_put 164 = .ok (.aload_n 0, 1) := by decide +kernel
theorem dX4_put_165 : decode cX4_put 165 = .ok (.getfield 94, 3) := by decide +kernel
theorem dX4_put_168 : decode cX4_put 168 = .ok (.bipush 60, 2) := by decide +kernel
theorem dX4_put_170 : decode cX4_put 170 = .ok (.iaload, 1) := by decide +kernel
theorem dX4_put_171 : decode cX4_put 171 = .ok (.iconst 1, 1) := by decide +kernel
theorem dX4_put_172 : decode cX4_put 172 = .ok (.iadd, 1) := by decide +kernel
theorem dX4_put_173 : decode cX4_put 173 = .ok (.iastore, 1) := by decide +kernel
theorem dX4_put_174 : decode cX4_put 174 = .ok (.aload_n 0, 1) := by decide +kernel
theorem dX4_put_175 : decode cX4_put 175 = .ok (.iconst 0, 1) := by decide +kernel
theorem dX4_put_176 : decode cX4_put 176 = .ok (.putfield 175, 3) := by decide +kernel
theorem dX4_put_179 : decode cX4_put 179 = .ok (.iload 4, 2) := by decide +kernel
theorem dX4_put_181 : decode cX4_put 181 = .ok (.ifCond .eq 7, 3) := by decide +kernel
theorem dX4_put_184 : decode cX4_put 184 = .ok (.iconst 0, 1) := by decide +kernel
theorem dX4_put_185 : decode cX4_put 185 = .ok (.goto 4, 3) := by decide +kernel
theorem dX4_put_188 : decode cX4_put 188 = .ok (.iconst 1, 1) := by decide +kernel
theorem dX4_put_189 : decode cX4_put 189 = .ok (.ireturn, 1) := by decide +kernel
theorem dX4_remove_0 : decode cX4_remove 0 = .ok (.iload_n 1, 1) := by decide +kernel
theorem dX4_remove_1 : decode cX4_remove 1 = .ok (.invokestatic 182, 3) := by decide +kernel
theorem dX4_remove_4 : decode cX4_remove 4 = .ok (.ifCond .ne 5, 3) := by decide +kernel
theorem dX4_remove_7 : decode cX4_remove 7 = .ok (.iconst (-1), 1) := by decide +kernel
theorem dX4_remove_8 : decode cX4_remove 8 = .ok (.ireturn, 1) := by decide +kernel
theorem dX4_remove_9 : decode cX4_remove 9 = .ok (.aload_n 0, 1) := by decide +kernel
theorem dX4_remove_10 : decode cX4_remove 10 = .ok (.bipush 60, 2) := by decide +kernel
theorem dX4_remove_12 : decode cX4_remove 12 = .ok (.iload_n 1, 1) := by decide +kernel
theorem dX4_remove_13 : decode cX4_remove 13 = .ok (.invokevirtual 186, 3) := by decide +kernel
theorem dX4_remove_16 : decode cX4_remove 16 = .ok (.istore_n 2, 1) := by decide +kernel
theorem dX4_remove_17 : decode cX4_remove 17 = .ok (.aload_n 0, 1) := by decide +kernel
theorem dX4_remove_18 : decode cX4_remove 18 = .ok (.bipush 60, 2) := by decide +kernel
theorem dX4_remove_20 : decode cX4_remove 20 = .ok (.iload_n 2, 1) := by decide +kernel
theorem dX4_remove_21 : decode cX4_remove 21 = .ok (.iload_n 1, 1) := by decide +kernel
