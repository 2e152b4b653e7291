theorem dX0_init_0 : decode cX0_init 0 = .ok (.aload_n 0, 1) := by decide +kernel
theorem dX0_init_1 : decode cX0_init 1 = .ok (.invokespecial 3, 3) := by decide +kernel
theorem dX0_init_4 : decode cX0_init 4 = .ok (.aload_n 0, 1) := by decide +kernel
theorem dX0_init_5 : decode cX0_init 5 = .ok (.bipush 8, 2) := by decide +kernel
theorem dX0_init_7 : decode cX0_init 7 = .ok (.newarray .int, 2) := by decide +kernel
theorem dX0_init_9 : decode cX0_init 9 = .ok (.putfield 9, 3) := by decide +kernel
theorem dX0_init_12 : decode cX0_init 12 = .ok (.aload_n 0, 1) := by decide +kernel
theorem dX0_init_13 : decode cX0_init 13 = .ok (.bipush 32, 2) := by decide +kernel
theorem dX0_init_15 : decode cX0_init 15 = .ok (.newarray .int, 2) := by decide +kernel
theorem dX0_init_17 : decode cX0_init 17 = .ok (.putfield 15, 3) := by decide +kernel
theorem dX0_init_20 : decode cX0_init 20 = .ok (.aload_n 0, 1) := by decide +kernel
theorem dX0_init_21 : decode cX0_init 21 = .ok (.bipush 64, 2) := by decide +kernel
theorem dX0_init_23 : decode cX0_init 23 = .ok (.newarray .int, 2) := by decide +kernel
theorem dX0_init_25 : decode cX0_init 25 = .ok (.putfield 18, 3) := by decide +kernel
theorem dX0_init_28 : decode cX0_init 28 = .ok (.aload_n 0, 1) := by decide +kernel
theorem dX0_init_29 : decode cX0_init 29 = .ok (.bipush 8, 2) := by decide +kernel
theorem dX0_init_31 : decode cX0_init 31 = .ok (.newarray .int, 2) := by decide +kernel
theorem dX0_init_33 : decode cX0_init 33 = .ok (.putfield 21, 3) := by decide +kernel
theorem dX0_init_36 : decode cX0_init 36 = .ok (.return_, 1) := by decide +kernel
theorem dX0_hashEntry_0 : decode cX0_hashEntry 0 = .ok (.aload_n 0, 1) := by decide +kernel
theorem dX0_hashEntry_1 : decode cX0_hashEntry 1 = .ok (.invokevirtual 24, 3) := by decide +kernel
theorem dX0_hashEntry_4 : decode cX0_hashEntry 4 = .ok (.aload_n 0, 1) := by decide +kernel
theorem dX0_hashEntry_5 : decode cX0_hashEntry 5 = .ok (.getfield 15, 3) := by decide +kernel
theorem dX0_hashEntry_8 : decode cX0_hashEntry 8 = .ok (.iconst 0, 1) := by decide +kernel
theorem dX0_hashEntry_9 : decode cX0_hashEntry 9 = .ok (.iload_n 1, 1) := by decide +kernel
theorem dX0_hashEntry_10 : decode cX0_hashEntry 10 = .ok (.bipush 8, 2) := by decide +kernel
theorem dX0_hashEntry_12 : decode cX0_hashEntry 12 = .ok (.ishl, 1) := by decide +kernel
theorem dX0_hashEntry_13 : decode cX0_hashEntry 13 = .ok (.iload_n 2, 1) := by decide +kernel
theorem dX0_hashEntry_14 : decode cX0_hashEntry 14 = .ok (.bipush 24, 2) := by decide +kernel
theorem dX0_hashEntry_16 : decode cX0_hashEntry 16 = .ok (.iushr, 1) := by decide +kernel
theorem dX0_hashEntry_17 : decode cX0_hashEntry 17 = .ok (.ior, 1) := by decide +kernel
theorem dX0_hashEntry_18 : decode cX0_hashEntry 18 = .ok (.iastore, 1) := by decide +kernel
theorem dX0_hashEntry_19 : decode cX0_hashEntry 19 = .ok (.aload_n 0, 1) := by decide +kernel
theorem dX0_hashEntry_20 : decode cX0_hashEntry 20 = .ok (.getfield 15, 3) := by decide +kernel
theorem dX0_hashEntry_23 : decode cX0_hashEntry 23 = .ok (.iconst 1, 1) := by decide +kernel
theorem dX0_hashEntry_24 : decode cX0_hashEntry 24 = .ok (.iload_n 2, 1) := by decide +kernel
theorem dX0_hashEntry_25 : decode cX0_hashEntry 25 = .ok (.bipush 8, 2) := by decide +kernel
theorem dX0_hashEntry_27 : decode cX0_hashEntry 27 = .ok (.ishl, 1) := by decide +kernel
theorem dX0_hashEntry_28 : decode cX0_hashEntry 28 = .ok (.sipush 128, 3) := by decide +kernel
theorem dX0_hashEntry_31 : decode cX0_hashEntry 31 = .ok (.ior, 1) := by decide +kernel
theorem dX0_hashEntry_32 : decode cX0_hashEntry 32 = .ok (.iastore, 1) := by decide +kernel
theorem dX0_hashEntry_33 : decode cX0_hashEntry 33 = .ok (.aload_n 0, 1) := by decide +kernel
theorem dX0_hashEntry_34 : decode cX0_hashEntry 34 = .ok (.getfield 15, 3) := by decide +kernel
theorem dX0_hashEntry_37 : decode cX0_hashEntry 37 = .ok (.bipush 15, 2) := by decide +kernel
theorem dX0_hashEntry_39 : decode cX0_hashEntry 39 = .ok (.bipush 56, 2) := by decide +kernel
theorem dX0_hashEntry_41 : decode cX0_hashEntry 41 = .ok (.iastore, 1) := by decide +kernel
theorem dX0_hashEntry_42 : decode cX0_hashEntry 42 = .ok (.aload_n 0, 1) := by decide +kernel
theorem dX0_hashEntry_43 : decode cX0_hashEntry 43 = .ok (.invokevirtual 27, 3) := by decide +kernel
theorem dX0_hashEntry_46 : decode cX0_hashEntry 46 = .ok (.aload_n 0, 1) := by decide +kernel
theorem dX0_hashEntry_47 : decode cX0_hashEntry 47 = .ok (.iconst 0, 1) := by decide +kernel
theorem dX0_hashEntry_48 : decode cX0_hashEntry 48 = .ok (.invokevirtual 30, 3) := by decide +kernel
theorem dX0_hashEntry_51 : decode cX0_hashEntry 51 = .ok (.aload_n 0, 1) := by decide +kernel
theorem dX0_hashEntry_52 : decode cX0_hashEntry 52 = .ok (.getfield 21, 3) := by decide +kernel
theorem dX0_hashEntry_55 : decode cX0_hashEntry 55 = .ok (.aload_n 3, 1) := by decide +kernel
theorem dX0_hashEntry_56 : decode cX0_hashEntry 56 = .ok (.invokestatic 34, 3) := by decide +kernel
theorem dX0_hashEntry_59 : decode cX0_hashEntry 59 = .ok (.return_, 1) := by decide +kernel
theorem dX0_hashPair_0 : decode cX0_hashPair 0 = .ok (.aload_n 0, 1) := by decide +kernel
theorem dX0_hashPair_1 : decode cX0_hashPair 1 = .ok (.invokevirtual 24, 3) := by decide +kernel
theorem dX0_hashPair_4 : decode cX0_hashPair 4 = .ok (.iconst 1, 1) := by decide +kernel
theorem dX0_hashPair_5 : decode cX0_hashPair 5 = .ok (.istore 4, 2) := by decide +kernel
theorem dX0_hashPair_7 : decode cX0_hashPair 7 = .ok (.iconst 0, 1) := by decide +kernel
theorem dX0_hashPair_8 : decode cX0_hashPair 8 = .ok (.istore 5, 2) := by decide +kernel
theorem dX0_hashPair_10 : decode cX0_hashPair 10 = .ok (.iload 5, 2) := by decide +kernel
theorem dX0_hashPair_12 : decode cX0_hashPair 12 = .ok (.bipush 8, 2) := by decide +kernel
theorem dX0_hashPair_14 : decode cX0_hashPair 14 = .ok (.if_icmp .ge 35, 3) := by decide +kernel
theorem dX0_hashPair_17 : decode cX0_hashPair 17 = .ok (.aload_n 0, 1) := by decide +kernel
theorem dX0_hashPair_18 : decode cX0_hashPair 18 = .ok (.getfield 15, 3) := by decide +kernel
theorem dX0_hashPair_21 : decode cX0_hashPair 21 = .ok (.iload 5, 2) := by decide +kernel
theorem dX0_hashPair_23 : decode cX0_hashPair 23 = .ok (.iload 4, 2) := by decide +kernel
theorem dX0_hashPair_25 : decode cX0_hashPair 25 = .ok (.bipush 24, 2) := by decide +kernel
theorem dX0_hashPair_27 : decode cX0_hashPair 27 = .ok (.ishl, 1) := by decide +kernel
theorem dX0_hashPair_28 : decode cX0_hashPair 28 = .ok (.aload_n 1, 1) := by decide +kernel
theorem dX0_hashPair_29 : decode cX0_hashPair 29 = .ok (.iload 5, 2) := by decide +kernel
theorem dX0_hashPair_31 : decode cX0_hashPair 31 = .ok (.iaload, 1) := by decide +kernel
theorem dX0_hashPair_32 : decode cX0_hashPair 32 = .ok (.bipush 8, 2) := by decide +kernel
theorem dX0_hashPair_34 : decode cX0_hashPair 34 = .ok (.iushr, 1) := by decide +kernel
theorem dX0_hashPair_35 : decode cX0_hashPair 35 = .ok (.ior, 1) := by decide +kernel
theorem dX0_hashPair_36 : decode cX0_hashPair 36 = .ok (.iastore, 1) := by decide +kernel
theorem dX0_hashPair_37 : decode cX0_hashPair 37 = .ok (.aload_n 1, 1) := by decide +kernel
theorem dX0_hashPair_38 : decode cX0_hashPair 38 = .ok (.iload 5, 2) := by decide +kernel
theorem dX0_hashPair_40 : decode cX0_hashPair 40 = .ok (.iaload, 1) := by decide +kernel
theorem dX0_hashPair_41 : decode cX0_hashPair 41 = .ok (.istore 4, 2) := by decide +kernel
theorem dX0_hashPair_43 : decode cX0_hashPair 43 = .ok (.iinc 5 1, 3) := by decide +kernel
theorem dX0_hashPair_46 : decode cX0_hashPair 46 = .ok (.goto (-36), 3) := by decide +kernel
theorem dX0_hashPair_49 : decode cX0_hashPair 49 = .ok (.iconst 0, 1) := by decide +kernel
theorem dX0_hashPair_50 : decode cX0_hashPair 50 = .ok (.istore 5, 2) := by decide +kernel
theorem dX0_hashPair_52 : decode cX0_hashPair 52 = .ok (.iload 5, 2) := by decide +kernel
theorem dX0_hashPair_54 : decode cX0_hashPair 54 = .ok (.bipush 8, 2) := by decide +kernel
theorem dX0_hashPair_56 : decode cX0_hashPair 56 = .ok (.if_icmp .ge 38, 3) := by decide +kernel
theorem dX0_hashPair_59 : decode cX0_hashPair 59 = .ok (.aload_n 0, 1) := by decide +kernel
theorem dX0_hashPair_60 : decode cX0_hashPair 60 = .ok (.getfield 15, 3) := by decide +kernel
theorem dX0_hashPair_63 : decode cX0_hashPair 63 = .ok (.bipush 8, 2) := by decide +kernel
theorem dX0_hashPair_65 : decode cX0_hashPair 65 = .ok (.iload 5, 2) := by decide +kernel
theorem dX0_hashPair_67 : decode cX0_hashPair 67 = .ok (.iadd, 1) := by decide +kernel
theorem dX0_hashPair_68 : decode cX0_hashPair 68 = .ok (.iload 4, 2) := by decide +kernel
theorem dX0_hashPair_70 : decode cX0_hashPair 70 = .ok (.bipush 24, 2) := by decide +kernel
theorem dX0_hashPair_72 : decode cX0_hashPair 72 = .ok (.ishl, 1) := by decide +kernel
theorem dX0_hashPair_73 : decode cX0_hashPair 73 = .ok (.aload_n 2, 1) := by decide +kernel
theorem dX0_hashPair_74 : decode cX0_hashPair 74 = .ok (.iload 5, 2) := by decide +kernel
theorem dX0_hashPair_76 : decode cX0_hashPair 76 = .ok (.iaload, 1) := by decide +kernel
theorem dX0_hashPair_77 : decode cX0_hashPair 77 = .ok (.bipush 8, 2) := by decide +kernel
theorem dX0_hashPair_79 : decode cX0_hashPair 79 = .ok (.iushr, 1) := by decide +kernel
theorem dX0_hashPair_80 : decode cX0_hashPair 80 = .ok (.ior, 1) := by decide +kernel
theorem dX0_hashPair_81 : decode cX0_hashPair 81 = .ok (.iastore, 1) := by decide +kernel
theorem dX0_hashPair_82 : decode cX0_hashPair 82 = .ok (.aload_n 2, 1) := by decide +kernel
theorem dX0_hashPair_83 : decode cX0_hashPair 83 = .ok (.iload 5, 2) := by decide +kernel
theorem dX0_hashPair_85 : decode cX0_hashPair 85 = .ok (.iaload, 1) := by decide +kernel
theorem dX0_hashPair_86 : decode cX0_hashPair 86 = .ok (.istore 4, 2) := by decide +kernel
theorem dX0_hashPair_88 : decode cX0_hashPair 88 = .ok (.iinc 5 1, 3) := by decide +kernel
theorem dX0_hashPair_91 : decode cX0_hashPair 91 = .ok (.goto (-39), 3) := by decide +kernel
theorem dX0_hashPair_94 : decode cX0_hashPair 94 = .ok (.aload_n 0, 1) := by decide +kernel
theorem dX0_hashPair_95 : decode cX0_hashPair 95 = .ok (.getfield 15, 3) := by decide +kernel
theorem dX0_hashPair_98 : decode cX0_hashPair 98 = .ok (.bipush 16, 2) := by decide +kernel
theorem dX0_hashPair_100 : decode cX0_hashPair 100 = .ok (.iload 4, 2) := by decide +kernel
theorem dX0_hashPair_102 : decode cX0_hashPair 102 = .ok (.bipush 24, 2) := by decide +kernel
theorem dX0_hashPair_104 : decode cX0_hashPair 104 = .ok (.ishl, 1) := by decide +kernel
theorem dX0_hashPair_105 : decode cX0_hashPair 105 = .ok (.ldc 38, 2) := by decide +kernel
theorem dX0_hashPair_107 : decode cX0_hashPair 107 = .ok (.ior, 1) := by decide +kernel
theorem dX0_hashPair_108 : decode cX0_hashPair 108 = .ok (.iastore, 1) := by decide +kernel
theorem dX0_hashPair_109 : decode cX0_hashPair 109 = .ok (.aload_n 0, 1) := by decide +kernel
theorem dX0_hashPair_110 : decode cX0_hashPair 110 = .ok (.getfield 15, 3) := by decide +kernel
theorem dX0_hashPair_113 : decode cX0_hashPair 113 = .ok (.bipush 31, 2) := by decide +kernel
theorem dX0_hashPair_115 : decode cX0_hashPair 115 = .ok (.sipush 520, 3) := by decide +kernel
theorem dX0_hashPair_118 : decode cX0_hashPair 118 = .ok (.iastore, 1) := by decide +kernel
theorem dX0_hashPair_119 : decode cX0_hashPair 119 = .ok (.aload_n 0, 1) := by decide +kernel
theorem dX0_hashPair_120 : decode cX0_hashPair 120 = .ok (.invokevirtual 27, 3) := by decide +kernel
theorem dX0_hashPair_123 : decode cX0_hashPair 123 = .ok (.aload_n 0, 1) := by decide +kernel
theorem dX0_hashPair_124 : decode cX0_hashPair 124 = .ok (.iconst 0, 1) := by decide +kernel
theorem dX0_hashPair_125 : decode cX0_hashPair 125 = .ok (.invokevirtual 30, 3) := by decide +kernel
theorem dX0_hashPair_128 : decode cX0_hashPair 128 = .ok (.aload_n 0, 1) := by decide +kernel
theorem dX0_hashPair_129 : decode cX0_hashPair 129 = .ok (.bipush 16, 2) := by decide +kernel
theorem dX0_hashPair_131 : decode cX0_hashPair 131 = .ok (.invokevirtual 30, 3) := by decide +kernel
theorem dX0_hashPair_134 : decode cX0_hashPair 134 = .ok (.aload_n 0, 1) := by decide +kernel
theorem dX0_hashPair_135 : decode cX0_hashPair 135 = .ok (.getfield 21, 3) := by decide +kernel
theorem dX0_hashPair_138 : decode cX0_hashPair 138 = .ok (.aload_n 3, 1) := by decide +kernel
theorem dX0_hashPair_139 : decode cX0_hashPair 139 = .ok (.invokestatic 34, 3) := by decide +kernel
theorem dX0_hashPair_142 : decode cX0_hashPair 142 = .ok (.return_, 1) := by decide +kernel
theorem dX0_clearMessage_0 : decode cX0_clearMessage 0 = .ok (.iconst 0, 1) := by decide +kernel
theorem dX0_clearMessage_1 : decode cX0_clearMessage 1 = .ok (.istore_n 1, 1) := by decide +kernel
theorem dX0_clearMessage_2 : decode cX0_clearMessage 2 = .ok (.iload_n 1, 1) := by decide +kernel
theorem dX0_clearMessage_3 : decode cX0_clearMessage 3 = .ok (.bipush 32, 2) := by decide +kernel
theorem dX0_clearMessage_5 : decode cX0_clearMessage 5 = .ok (.if_icmp .ge 16, 3) := by decide +kernel
theorem dX0_clearMessage_8 : decode cX0_clearMessage 8 = .ok (.aload_n 0, 1) := by decide +kernel
theorem dX0_clearMessage_9 : decode cX0_clearMessage 9 = .ok (.getfield 15, 3) := by decide +kernel
theorem dX0_clearMessage_12 : decode cX0_clearMessage 12 = .ok (.iload_n 1, 1) := by decide +kernel
theorem dX0_clearMessage_13 : decode cX0_clearMessage 13 = .ok (.iconst 0, 1) := by decide +kernel
theorem dX0_clearMessage_14 : decode cX0_clearMessage 14 = .ok (.iastore, 1) := by decide +kernel
theorem dX0_clearMessage_15 : decode cX0_clearMessage 15 = .ok (.iinc 1 1, 3) := by decide +kernel
theorem dX0_clearMessage_18 : decode cX0_clearMessage 18 = .ok (.goto (-16), 3) := by decide +kernel
theorem dX0_clearMessage_21 : decode cX0_clearMessage 21 = .ok (.return_, 1) := by decide +kernel
theorem dX0_start_0 : decode cX0_start 0 = .ok (.getstatic 39, 3) := by decide +kernel
theorem dX0_start_3 : decode cX0_start 3 = .ok (.aload_n 0, 1) := by decide +kernel
theorem dX0_start_4 : decode cX0_start 4 = .ok (.getfield 21, 3) := by decide +kernel
theorem dX0_start_7 : decode cX0_start 7 = .ok (.invokestatic 34, 3) := by decide +kernel
theorem dX0_start_10 : decode cX0_start 10 = .ok (.return_, 1) := by decide +kernel
theorem dX0_compress_0 : decode cX0_compress 0 = .ok (.aload_n 0, 1) := by decide +kernel
theorem dX0_compress_1 : decode cX0_compress 1 = .ok (.iload_n 1, 1) := by decide +kernel
theorem dX0_compress_2 : decode cX0_compress 2 = .ok (.invokevirtual 42, 3) := by decide +kernel
theorem dX0_compress_5 : decode cX0_compress 5 = .ok (.aload_n 0, 1) := by decide +kernel
theorem dX0_compress_6 : decode cX0_compress 6 = .ok (.getfield 21, 3) := by decide +kernel
theorem dX0_compress_9 : decode cX0_compress 9 = .ok (.iconst 0, 1) := by decide +kernel
theorem dX0_compress_10 : decode cX0_compress 10 = .ok (.iaload, 1) := by decide +kernel
theorem dX0_compress_11 : decode cX0_compress 11 = .ok (.istore_n 2, 1) := by decide +kernel
theorem dX0_compress_12 : decode cX0_compress 12 = .ok (.aload_n 0, 1) := by decide +kernel
theorem dX0_compress_13 : decode cX0_compress 13 = .ok (.getfield 21, 3) := by decide +kernel
theorem dX0_compress_16 : decode cX0_compress 16 = .ok (.iconst 1, 1) := by decide +kernel
theorem dX0_compress_17 : decode cX0_compress 17 = .ok (.iaload, 1) := by decide +kernel
theorem dX0_compress_18 : decode cX0_compress 18 = .ok (.istore_n 3, 1) := by decide +kernel
theorem dX0_compress_19 : decode cX0_compress 19 = .ok (.aload_n 0, 1) := by decide +kernel
theorem dX0_compress_20 : decode cX0_compress 20 = .ok (.getfield 21, 3) := by decide +kernel
theorem dX0_compress_23 : decode cX0_compress 23 = .ok (.iconst 2, 1) := by decide +kernel
theorem dX0_compress_24 : decode cX0_compress 24 = .ok (.iaload, 1) := by decide +kernel
theorem dX0_compress_25 : decode cX0_compress 25 = .ok (.istore 4, 2) := by decide +kernel
theorem dX0_compress_27 : decode cX0_compress 27 = .ok (.aload_n 0, 1) := by decide +kernel
theorem dX0_compress_28 : decode cX0_compress 28 = .ok (.getfield 21, 3) := by decide +kernel
theorem dX0_compress_31 : decode cX0_compress 31 = .ok (.iconst 3, 1) := by decide +kernel
theorem dX0_compress_32 : decode cX0_compress 32 = .ok (.iaload, 1) := by decide +kernel
theorem dX0_compress_33 : decode cX0_compress 33 = .ok (.istore 5, 2) := by decide +kernel
theorem dX0_compress_35 : decode cX0_compress 35 = .ok (.aload_n 0, 1) := by decide +kernel
theorem dX0_compress_36 : decode cX0_compress 36 = .ok (.getfield 21, 3) := by decide +kernel
theorem dX0_compress_39 : decode cX0_compress 39 = .ok (.iconst 4, 1) := by decide +kernel
theorem dX0_compress_40 : decode cX0_compress 40 = .ok (.iaload, 1) := by decide +kernel
theorem dX0_compress_41 : decode cX0_compress 41 = .ok (.istore 6, 2) := by decide +kernel
theorem dX0_compress_43 : decode cX0_compress 43 = .ok (.aload_n 0, 1) := by decide +kernel
theorem dX0_compress_44 : decode cX0_compress 44 = .ok (.getfield 21, 3) := by decide +kernel
theorem dX0_compress_47 : decode cX0_compress 47 = .ok (.iconst 5, 1) := by decide +kernel
theorem dX0_compress_48 : decode cX0_compress 48 = .ok (.iaload, 1) := by decide +kernel
theorem dX0_compress_49 : decode cX0_compress 49 = .ok (.istore 7, 2) := by decide +kernel
theorem dX0_compress_51 : decode cX0_compress 51 = .ok (.aload_n 0, 1) := by decide +kernel
theorem dX0_compress_52 : decode cX0_compress 52 = .ok (.getfield 21, 3) := by decide +kernel
theorem dX0_compress_55 : decode cX0_compress 55 = .ok (.bipush 6, 2) := by decide +kernel
theorem dX0_compress_57 : decode cX0_compress 57 = .ok (.iaload, 1) := by decide +kernel
theorem dX0_compress_58 : decode cX0_compress 58 = .ok (.istore 8, 2) := by decide +kernel
theorem dX0_compress_60 : decode cX0_compress 60 = .ok (.aload_n 0, 1) := by decide +kernel
theorem dX0_compress_61 : decode cX0_compress 61 = .ok (.getfield 21, 3) := by decide +kernel
theorem dX0_compress_64 : decode cX0_compress 64 = .ok (.bipush 7, 2) := by decide +kernel
theorem dX0_compress_66 : decode cX0_compress 66 = .ok (.iaload, 1) := by decide +kernel
theorem dX0_compress_67 : decode cX0_compress 67 = .ok (.istore 9, 2) := by decide +kernel
theorem dX0_compress_69 : decode cX0_compress 69 = .ok (.iconst 0, 1) := by decide +kernel
theorem dX0_compress_70 : decode cX0_compress 70 = .ok (.istore 10, 2) := by decide +kernel
theorem dX0_compress_72 : decode cX0_compress 72 = .ok (.iload 10, 2) := by decide +kernel
theorem dX0_compress_74 : decode cX0_compress 74 = .ok (.bipush 64, 2) := by decide +kernel
theorem dX0_compress_76 : decode cX0_compress 76 = .ok (.if_icmp .ge 147, 3) := by decide +kernel
theorem dX0_compress_79 : decode cX0_compress 79 = .ok (.iload 6, 2) := by decide +kernel
theorem dX0_compress_81 : decode cX0_compress 81 = .ok (.bipush 6, 2) := by decide +kernel
theorem dX0_compress_83 : decode cX0_compress 83 = .ok (.invokestatic 45, 3) := by decide +kernel
theorem dX0_compress_86 : decode cX0_compress 86 = .ok (.iload 6, 2) := by decide +kernel
theorem dX0_compress_88 : decode cX0_compress 88 = .ok (.bipush 11, 2) := by decide +kernel
theorem dX0_compress_90 : decode cX0_compress 90 = .ok (.invokestatic 45, 3) := by decide +kernel
theorem dX0_compress_93 : decode cX0_compress 93 = .ok (.ixor, 1) := by decide +kernel
theorem dX0_compress_94 : decode cX0_compress 94 = .ok (.iload 6, 2) := by decide +kernel
theorem dX0_compress_96 : decode cX0_compress 96 = .ok (.bipush 25, 2) := by decide +kernel
theorem dX0_compress_98 : decode cX0_compress 98 = .ok (.invokestatic 45, 3) := by decide +kernel
theorem dX0_compress_101 : decode cX0_compress 101 = .ok (.ixor, 1) := by decide +kernel
theorem dX0_compress_102 : decode cX0_compress 102 = .ok (.istore 11, 2) := by decide +kernel
theorem dX0_compress_104 : decode cX0_compress 104 = .ok (.iload 6, 2) := by decide +kernel
theorem dX0_compress_106 : decode cX0_compress 106 = .ok (.iload 7, 2) := by decide +kernel
theorem dX0_compress_108 : decode cX0_compress 108 = .ok (.iand, 1) := by decide +kernel
theorem dX0_compress_109 : decode cX0_compress 109 = .ok (.iload 6, 2) := by decide +kernel
theorem dX0_compress_111 : decode cX0_compress 111 = .ok (.iconst (-1), 1) := by decide +kernel
theorem dX0_compress_112 : decode cX0_compress 112 = .ok (.ixor, 1) := by decide +kernel
theorem dX0_compress_113 : decode cX0_compress 113 = .ok (.iload 8, 2) := by decide +kernel
theorem dX0_compress_115 : decode cX0_compress 115 = .ok (.iand, 1) := by decide +kernel
theorem dX0_compress_116 : decode cX0_compress 116 = .ok (.ixor, 1) := by decide +kernel
theorem dX0_compress_117 : decode cX0_compress 117 = .ok (.istore 12, 2) := by decide +kernel
theorem dX0_compress_119 : decode cX0_compress 119 = .ok (.iload 9, 2) := by decide +kernel
theorem dX0_compress_121 : decode cX0_compress 121 = .ok (.iload 11, 2) := by decide +kernel
theorem dX0_compress_123 : decode cX0_compress 123 = .ok (.iadd, 1) := by decide +kernel
theorem dX0_compress_124 : decode cX0_compress 124 = .ok (.iload 12, 2) := by decide +kernel
theorem dX0_compress_126 : decode cX0_compress 126 = .ok (.iadd, 1) := by decide +kernel
theorem dX0_compress_127 : decode cX0_compress 127 = .ok (.getstatic 49, 3) := by decide +kernel
theorem dX0_compress_130 : decode cX0_compress 130 = .ok (.iload 10, 2) := by decide +kernel
theorem dX0_compress_132 : decode cX0_compress 132 = .ok (.iaload, 1) := by decide +kernel
theorem dX0_compress_133 : decode cX0_compress 133 = .ok (.iadd, 1) := by decide +kernel
theorem dX0_compress_134 : decode cX0_compress 134 = .ok (.aload_n 0, 1) := by decide +kernel
theorem dX0_compress_135 : decode cX0_compress 135 = .ok (.getfield 18, 3) := by decide +kernel
theorem dX0_compress_138 : decode cX0_compress 138 = .ok (.iload 10, 2) := by decide +kernel
theorem dX0_compress_140 : decode cX0_compress 140 = .ok (.iaload, 1) := by decide +kernel
theorem dX0_compress_141 : decode cX0_compress 141 = .ok (.iadd, 1) := by decide +kernel
theorem dX0_compress_142 : decode cX0_compress 142 = .ok (.istore 13, 2) := by decide +kernel
theorem dX0_compress_144 : decode cX0_compress 144 = .ok (.iload_n 2, 1) := by decide +kernel
theorem dX0_compress_145 : decode cX0_compress 145 = .ok (.iconst 2, 1) := by decide +kernel
theorem dX0_compress_146 : decode cX0_compress 146 = .ok (.invokestatic 45, 3) := by decide +kernel
theorem dX0_compress_149 : decode cX0_compress 149 = .ok (.iload_n 2, 1) := by decide +kernel
theorem dX0_compress_150 : decode cX0_compress 150 = .ok (.bipush 13, 2) := by decide +kernel
theorem dX0_compress_152 : decode cX0_compress 152 = .ok (.invokestatic 45, 3) := by decide +kernel
theorem dX0_compress_155 : decode cX0_compress 155 = .ok (.ixor, 1) := by decide +kernel
theorem dX0_compress_156 : decode cX0_compress 156 = .ok (.iload_n 2, 1) := by decide +kernel
theorem dX0_compress_157 : decode cX0_compress 157 = .ok (.bipush 22, 2) := by decide +kernel
theorem dX0_compress_159 : decode cX0_compress 159 = .ok (.invokestatic 45, 3) := by decide +kernel
theorem dX0_compress_162 : decode cX0_compress 162 = .ok (.ixor, 1) := by decide +kernel
theorem dX0_compress_163 : decode cX0_compress 163 = .ok (.istore 14, 2) := by decide +kernel
theorem dX0_compress_165 : decode cX0_compress 165 = .ok (.iload_n 2, 1) := by decide +kernel
theorem dX0_compress_166 : decode cX0_compress 166 = .ok (.iload_n 3, 1) := by decide +kernel
theorem dX0_compress_167 : decode cX0_compress 167 = .ok (.iand, 1) := by decide +kernel
theorem dX0_compress_168 : decode cX0_compress 168 = .ok (.iload_n 2, 1) := by decide +kernel
theorem dX0_compress_169 : decode cX0_compress 169 = .ok (.iload 4, 2) := by decide +kernel
theorem dX0_compress_171 : decode cX0_compress 171 = .ok (.iand, 1) := by decide +kernel
theorem dX0_compress_172 : decode cX0_compress 172 = .ok (.ixor, 1) := by decide +kernel
theorem dX0_compress_173 : decode cX0_compress 173 = .ok (.iload_n 3, 1) := by decide +kernel
theorem dX0_compress_174 : decode cX0_compress 174 = .ok (.iload 4, 2) := by decide +kernel
theorem dX0_compress_176 : decode cX0_compress 176 = .ok (.iand, 1) := by decide +kernel
theorem dX0_compress_177 : decode cX0_compress 177 = .ok (.ixor, 1) := by decide +kernel
theorem dX0_compress_178 : decode cX0_compress 178 = .ok (.istore 15, 2) := by decide +kernel
theorem dX0_compress_180 : decode cX0_compress 180 = .ok (.iload 8, 2) := by decide +kernel
theorem dX0_compress_182 : decode cX0_compress 182 = .ok (.istore 9, 2) := by decide +kernel
theorem dX0_compress_184 : decode cX0_compress 184 = .ok (.iload 7, 2) := by decide +kernel
theorem dX0_compress_186 : decode cX0_compress 186 = .ok (.istore 8, 2) := by decide +kernel
theorem dX0_compress_188 : decode cX0_compress 188 = .ok (.iload 6, 2) := by decide +kernel
theorem dX0_compress_190 : decode cX0_compress 190 = .ok (.istore 7, 2) := by decide +kernel
theorem dX0_compress_192 : decode cX0_compress 192 = .ok (.iload 5, 2) := by decide +kernel
theorem dX0_compress_194 : decode cX0_compress 194 = .ok (.iload 13, 2) := by decide +kernel
theorem dX0_compress_196 : decode cX0_compress 196 = .ok (.iadd, 1) := by decide +kernel
theorem dX0_compress_197 : decode cX0_compress 197 = .ok (.istore 6, 2) := by decide +kernel
theorem dX0_compress_199 : decode cX0_compress 199 = .ok (.iload 4, 2) := by decide +kernel
theorem dX0_compress_201 : decode cX0_compress 201 = .ok (.istore 5, 2) := by decide +kernel
theorem dX0_compress_203 : decode cX0_compress 203 = .ok (.iload_n 3, 1) := by decide +kernel
theorem dX0_compress_204 : decode cX0_compress 204 = .ok (.istore 4, 2) := by decide +kernel
theorem dX0_compress_206 : decode cX0_compress 206 = .ok (.iload_n 2, 1) := by decide +kernel
theorem dX0_compress_207 : decode cX0_compress 207 = .ok (.istore_n 3, 1) := by decide +kernel
theorem dX0_compress_208 : decode cX0_compress 208 = .ok (.iload 13, 2) := by decide +kernel
theorem dX0_compress_210 : decode cX0_compress 210 = .ok (.iload 14, 2) := by decide +kernel
theorem dX0_compress_212 : decode cX0_compress 212 = .ok (.iadd, 1) := by decide +kernel
theorem dX0_compress_213 : decode cX0_compress 213 = .ok (.iload 15, 2) := by decide +kernel
theorem dX0_compress_215 : decode cX0_compress 215 = .ok (.iadd, 1) := by decide +kernel
theorem dX0_compress_216 : decode cX0_compress 216 = .ok (.istore_n 2, 1) := by decide +kernel
theorem dX0_compress_217 : decode cX0_compress 217 = .ok (.iinc 10 1, 3) := by decide +kernel
theorem dX0_compress_220 : decode cX0_compress 220 = .ok (.goto (-148), 3) := by decide +kernel
theorem dX0_compress_223 : decode cX0_compress 223 = .ok (.aload_n 0, 1) := by decide +kernel
theorem dX0_compress_224 : decode cX0_compress 224 = .ok (.getfield 21, 3) := by decide +kernel
theorem dX0_compress_227 : decode cX0_compress 227 = .ok (.iconst 0, 1) := by decide +kernel
theorem dX0_compress_228 : decode cX0_compress 228 = .ok (.dup2, 1) := by decide +kernel
theorem dX0_compress_229 : decode cX0_compress 229 = .ok (.iaload, 1) := by decide +kernel
theorem dX0_compress_230 : decode cX0_compress 230 = .ok (.iload_n 2, 1) := by decide +kernel
theorem dX0_compress_231 : decode cX0_compress 231 = .ok (.iadd, 1) := by decide +kernel
theorem dX0_compress_232 : decode cX0_compress 232 = .ok (.iastore, 1) := by decide +kernel
theorem dX0_compress_233 : decode cX0_compress 233 = .ok (.aload_n 0, 1) := by decide +kernel
theorem dX0_compress_234 : decode cX0_compress 234 = .ok (.getfield 21, 3) := by decide +kernel
theorem dX0_compress_237 : decode cX0_compress 237 = .ok (.iconst 1, 1) := by decide +kernel
theorem dX0_compress_238 : decode cX0_compress 238 = .ok (.dup2, 1) := by decide +kernel
theorem dX0_compress_239 : decode cX0_compress 239 = .ok (.iaload, 1) := by decide +kernel
theorem dX0_compress_240 : decode cX0_compress 240 = .ok (.iload_n 3, 1) := by decide +kernel
theorem dX0_compress_241 : decode cX0_compress 241 = .ok (.iadd, 1) := by decide +kernel
theorem dX0_compress_242 : decode cX0_compress 242 = .ok (.iastore, 1) := by decide +kernel
theorem dX0_compress_243 : decode cX0_compress 243 = .ok (.aload_n 0, 1) := by decide +kernel
theorem dX0_compress_244 : decode cX0_compress 244 = .ok (.getfield 21, 3) := by decide +kernel
theorem dX0_compress_247 : decode cX0_compress 247 = .ok (.iconst 2, 1) := by decide +kernel
theorem dX0_compress_248 : decode cX0_compress 248 = .ok (.dup2, 1) := by decide +kernel
theorem dX0_compress_249 : decode cX0_compress 249 = .ok (.iaload, 1) := by decide +kernel
theorem dX0_compress_250 : decode cX0_compress 250 = .ok (.iload 4, 2) := by decide +kernel
theorem dX0_compress_252 : decode cX0_compress 252 = .ok (.iadd, 1) := by decide +kernel
theorem dX0_compress_253 : decode cX0_compress 253 = .ok (.iastore, 1) := by decide +kernel
theorem dX0_compress_254 : decode cX0_compress 254 = .ok (.aload_n 0, 1) := by decide +kernel
theorem dX0_compress_255 : decode cX0_compress 255 = .ok (.getfield 21, 3) := by decide +kernel
theorem dX0_compress_258 : decode cX0_compress 258 = .ok (.iconst 3, 1) := by decide +kernel
theorem dX0_compress_259 : decode cX0_compress 259 = .ok (.dup2, 1) := by decide +kernel
theorem dX0_compress_260 : decode cX0_compress 260 = .ok (.iaload, 1) := by decide +kernel
theorem dX0_compress_261 : decode cX0_compress 261 = .ok (.iload 5, 2) := by decide +kernel
theorem dX0_compress_263 : decode cX0_compress 263 = .ok (.iadd, 1) := by decide +kernel
theorem dX0_compress_264 : decode cX0_compress 264 = .ok (.iastore, 1) := by decide +kernel
theorem dX0_compress_265 : decode cX0_compress 265 = .ok (.aload_n 0, 1) := by decide +kernel
theorem dX0_compress_266 : decode cX0_compress 266 = .ok (.getfield 21, 3) := by decide +kernel
theorem dX0_compress_269 : decode cX0_compress 269 = .ok (.iconst 4, 1) := by decide +kernel
theorem dX0_compress_270 : decode cX0_compress 270 = .ok (.dup2, 1) := by decide +kernel
theorem dX0_compress_271 : decode cX0_compress 271 = .ok (.iaload, 1) := by decide +kernel
theorem dX0_compress_272 : decode cX0_compress 272 = .ok (.iload 6, 2) := by decide +kernel
theorem dX0_compress_274 : decode cX0_compress 274 = .ok (.iadd, 1) := by decide +kernel
theorem dX0_compress_275 : decode cX0_compress 275 = .ok (.iastore, 1) := by decide +kernel
theorem dX0_compress_276 : decode cX0_compress 276 = .ok (.aload_n 0, 1) := by decide +kernel
theorem dX0_compress_277 : decode cX0_compress 277 = .ok (.getfield 21, 3) := by decide +kernel
theorem dX0_compress_280 : decode cX0_compress 280 = .ok (.iconst 5, 1) := by decide +kernel
theorem dX0_compress_281 : decode cX0_compress 281 = .ok (.dup2, 1) := by decide +kernel
theorem dX0_compress_282 : decode cX0_compress 282 = .ok (.iaload, 1) := by decide +kernel
theorem dX0_compress_283 : decode cX0_compress 283 = .ok (.iload 7, 2) := by decide +kernel
theorem dX0_compress_285 : decode cX0_compress 285 = .ok (.iadd, 1) := by decide +kernel
theorem dX0_compress_286 : decode cX0_compress 286 = .ok (.iastore, 1) := by decide +kernel
theorem dX0_compress_287 : decode cX0_compress 287 = .ok (.aload_n 0, 1) := by decide +kernel
theorem dX0_compress_288 : decode cX0_compress 288 = .ok (.getfield 21, 3) := by decide +kernel
theorem dX0_compress_291 : decode cX0_compress 291 = .ok (.bipush 6, 2) := by decide +kernel
theorem dX0_compress_293 : decode cX0_compress 293 = .ok (.dup2, 1) := by decide +kernel
theorem dX0_compress_294 : decode cX0_compress 294 = .ok (.iaload, 1) := by decide +kernel
theorem dX0_compress_295 : decode cX0_compress 295 = .ok (.iload 8, 2) := by decide +kernel
theorem dX0_compress_297 : decode cX0_compress 297 = .ok (.iadd, 1) := by decide +kernel
theorem dX0_compress_298 : decode cX0_compress 298 = .ok (.iastore, 1) := by decide +kernel
theorem dX0_compress_299 : decode cX0_compress 299 = .ok (.aload_n 0, 1) := by decide +kernel
theorem dX0_compress_300 : decode cX0_compress 300 = .ok (.getfield 21, 3) := by decide +kernel
theorem dX0_compress_303 : decode cX0_compress 303 = .ok (.bipush 7, 2) := by decide +kernel
theorem dX0_compress_305 : decode cX0_compress 305 = .ok (.dup2, 1) := by decide +kernel
theorem dX0_compress_306 : decode cX0_compress 306 = .ok (.iaload, 1) := by decide +kernel
theorem dX0_compress_307 : decode cX0_compress 307 = .ok (.iload 9, 2) := by decide +kernel
theorem dX0_compress_309 : decode cX0_compress 309 = .ok (.iadd, 1) := by decide +kernel
theorem dX0_compress_310 : decode cX0_compress 310 = .ok (.iastore, 1) := by decide +kernel
theorem dX0_compress_311 : decode cX0_compress 311 = .ok (.return_, 1) := by decide +kernel
theorem dX0_spread_0 : decode cX0_spread 0 = .ok (.iconst 0, 1) := by decide +kernel
theorem dX0_spread_1 : decode cX0_spread 1 = .ok (.istore_n 2, 1) := by decide +kernel
theorem dX0_spread_2 : decode cX0_spread 2 = .ok (.iload_n 2, 1) := by decide +kernel
theorem dX0_spread_3 : decode cX0_spread 3 = .ok (.bipush 16, 2) := by decide +kernel
theorem dX0_spread_5 : decode cX0_spread 5 = .ok (.if_icmp .ge 23, 3) := by decide +kernel
theorem dX0_spread_8 : decode cX0_spread 8 = .ok (.aload_n 0, 1) := by decide +kernel
theorem dX0_spread_9 : decode cX0_spread 9 = .ok (.getfield 18, 3) := by decide +kernel
theorem dX0_spread_12 : decode cX0_spread 12 = .ok (.iload_n 2, 1) := by decide +kernel
theorem dX0_spread_13 : decode cX0_spread 13 = .ok (.aload_n 0, 1) := by decide +kernel
theorem dX0_spread_14 : decode cX0_spread 14 = .ok (.getfield 15, 3) := by decide +kernel
theorem dX0_spread_17 : decode cX0_spread 17 = .ok (.iload_n 1, 1) := by decide +kernel
theorem dX0_spread_18 : decode cX0_spread 18 = .ok (.iload_n 2, 1) := by decide +kernel
theorem dX0_spread_19 : decode cX0_spread 19 = .ok (.iadd, 1) := by decide +kernel
theorem dX0_spread_20 : decode cX0_spread 20 = .ok (.iaload, 1) := by decide +kernel
theorem dX0_spread_21 : decode cX0_spread 21 = .ok (.iastore, 1) := by decide +kernel
theorem dX0_spread_22 : decode cX0_spread 22 = .ok (.iinc 2 1, 3) := by decide +kernel
theorem dX0_spread_25 : decode cX0_spread 25 = .ok (.goto (-23), 3) := by decide +kernel
theorem dX0_spread_28 : decode cX0_spread 28 = .ok (.bipush 16, 2) := by decide +kernel
theorem dX0_spread_30 : decode cX0_spread 30 = .ok (.istore_n 2, 1) := by decide +kernel
theorem dX0_spread_31 : decode cX0_spread 31 = .ok (.iload_n 2, 1) := by decide +kernel
theorem dX0_spread_32 : decode cX0_spread 32 = .ok (.bipush 64, 2) := by decide +kernel
theorem dX0_spread_34 : decode cX0_spread 34 = .ok (.if_icmp .ge 102, 3) := by decide +kernel
theorem dX0_spread_37 : decode cX0_spread 37 = .ok (.aload_n 0, 1) := by decide +kernel
theorem dX0_spread_38 : decode cX0_spread 38 = .ok (.getfield 18, 3) := by decide +kernel
theorem dX0_spread_41 : decode cX0_spread 41 = .ok (.iload_n 2, 1) := by decide +kernel
theorem dX0_spread_42 : decode cX0_spread 42 = .ok (.bipush 15, 2) := by decide +kernel
theorem dX0_spread_44 : decode cX0_spread 44 = .ok (.isub, 1) := by decide +kernel
theorem dX0_spread_45 : decode cX0_spread 45 = .ok (.iaload, 1) := by decide +kernel
theorem dX0_spread_46 : decode cX0_spread 46 = .ok (.istore_n 3, 1) := by decide +kernel
theorem dX0_spread_47 : decode cX0_spread 47 = .ok (.aload_n 0, 1) := by decide +kernel
theorem dX0_spread_48 : decode cX0_spread 48 = .ok (.getfield 18, 3) := by decide +kernel
theorem dX0_spread_51 : decode cX0_spread 51 = .ok (.iload_n 2, 1) := by decide +kernel
theorem dX0_spread_52 : decode cX0_spread 52 = .ok (.iconst 2, 1) := by decide +kernel
theorem dX0_spread_53 : decode cX0_spread 53 = .ok (.isub, 1) := by decide +kernel
theorem dX0_spread_54 : decode cX0_spread 54 = .ok (.iaload, 1) := by decide +kernel
theorem dX0_spread_55 : decode cX0_spread 55 = .ok (.istore 4, 2) := by decide +kernel
theorem dX0_spread_57 : decode cX0_spread 57 = .ok (.iload_n 3, 1) := by decide +kernel
theorem dX0_spread_58 : decode cX0_spread 58 = .ok (.bipush 7, 2) := by decide +kernel
theorem dX0_spread_60 : decode cX0_spread 60 = .ok (.invokestatic 45, 3) := by decide +kernel
theorem dX0_spread_63 : decode cX0_spread 63 = .ok (.iload_n 3, 1) := by decide +kernel
theorem dX0_spread_64 : decode cX0_spread 64 = .ok (.bipush 18, 2) := by decide +kernel
theorem dX0_spread_66 : decode cX0_spread 66 = .ok (.invokestatic 45, 3) := by decide +kernel
theorem dX0_spread_69 : decode cX0_spread 69 = .ok (.ixor, 1) := by decide +kernel
theorem dX0_spread_70 : decode cX0_spread 70 = .ok (.iload_n 3, 1) := by decide +kernel
theorem dX0_spread_71 : decode cX0_spread 71 = .ok (.iconst 3, 1) := by decide +kernel
theorem dX0_spread_72 : decode cX0_spread 72 = .ok (.iushr, 1) := by decide +kernel
theorem dX0_spread_73 : decode cX0_spread 73 = .ok (.ixor, 1) := by decide +kernel
theorem dX0_spread_74 : decode cX0_spread 74 = .ok (.istore 5, 2) := by decide +kernel
theorem dX0_spread_76 : decode cX0_spread 76 = .ok (.iload 4, 2) := by decide +kernel
theorem dX0_spread_78 : decode cX0_spread 78 = .ok (.bipush 17, 2) := by decide +kernel
theorem dX0_spread_80 : decode cX0_spread 80 = .ok (.invokestatic 45, 3) := by decide +kernel
theorem dX0_spread_83 : decode cX0_spread 83 = .ok (.iload 4, 2) := by decide +kernel
theorem dX0_spread_85 : decode cX0_spread 85 = .ok (.bipush 19, 2) := by decide +kernel
theorem dX0_spread_87 : decode cX0_spread 87 = .ok (.invokestatic 45, 3) := by decide +kernel
theorem dX0_spread_90 : decode cX0_spread 90 = .ok (.ixor, 1) := by decide +kernel
theorem dX0_spread_91 : decode cX0_spread 91 = .ok (.iload 4, 2) := by decide +kernel
theorem dX0_spread_93 : decode cX0_spread 93 = .ok (.bipush 10, 2) := by decide +kernel
theorem dX0_spread_95 : decode cX0_spread 95 = .ok (.iushr, 1) := by decide +kernel
theorem dX0_spread_96 : decode cX0_spread 96 = .ok (.ixor, 1) := by decide +kernel
theorem dX0_spread_97 : decode cX0_spread 97 = .ok (.istore 6, 2) := by decide +kernel
theorem dX0_spread_99 : decode cX0_spread 99 = .ok (.aload_n 0, 1) := by decide +kernel
theorem dX0_spread_100 : decode cX0_spread 100 = .ok (.getfield 18, 3) := by decide +kernel
theorem dX0_spread_103 : decode cX0_spread 103 = .ok (.iload_n 2, 1) := by decide +kernel
theorem dX0_spread_104 : decode cX0_spread 104 = .ok (.iload 6, 2) := by decide +kernel
theorem dX0_spread_106 : decode cX0_spread 106 = .ok (.aload_n 0, 1) := by decide +kernel
theorem dX0_spread_107 : decode cX0_spread 107 = .ok (.getfield 18, 3) := by decide +kernel
theorem dX0_spread_110 : decode cX0_spread 110 = .ok (.iload_n 2, 1) := by decide +kernel
theorem dX0_spread_111 : decode cX0_spread 111 = .ok (.bipush 7, 2) := by decide +kernel
theorem dX0_spread_113 : decode cX0_spread 113 = .ok (.isub, 1) := by decide +kernel
theorem dX0_spread_114 : decode cX0_spread 114 = .ok (.iaload, 1) := by decide +kernel
theorem dX0_spread_115 : decode cX0_spread 115 = .ok (.iadd, 1) := by decide +kernel
theorem dX0_spread_116 : decode cX0_spread 116 = .ok (.iload 5, 2) := by decide +kernel
theorem dX0_spread_118 : decode cX0_spread 118 = .ok (.iadd, 1) := by decide +kernel
theorem dX0_spread_119 : decode cX0_spread 119 = .ok (.aload_n 0, 1) := by decide +kernel
theorem dX0_spread_120 : decode cX0_spread 120 = .ok (.getfield 18, 3) := by decide +kernel
theorem dX0_spread_123 : decode cX0_spread 123 = .ok (.iload_n 2, 1) := by decide +kernel
theorem dX0_spread_124 : decode cX0_spread 124 = .ok (.bipush 16, 2) := by decide +kernel
theorem dX0_spread_126 : decode cX0_spread 126 = .ok (.isub, 1) := by decide +kernel
theorem dX0_spread_127 : decode cX0_spread 127 = .ok (.iaload, 1) := by decide +kernel
theorem dX0_spread_128 : decode cX0_spread 128 = .ok (.iadd, 1) := by decide +kernel
theorem dX0_spread_129 : decode cX0_spread 129 = .ok (.iastore, 1) := by decide +kernel
theorem dX0_spread_130 : decode cX0_spread 130 = .ok (.iinc 2 1, 3) := by decide +kernel
theorem dX0_spread_133 : decode cX0_spread 133 = .ok (.goto (-102), 3) := by decide +kernel
theorem dX0_spread_136 : decode cX0_spread 136 = .ok (.return_, 1) := by decide +kernel
theorem dX0_turned_0 : decode cX0_turned 0 = .ok (.iload_n 0, 1) := by decide +kernel
theorem dX0_turned_1 : decode cX0_turned 1 = .ok (.iload_n 1, 1) := by decide +kernel
theorem dX0_turned_2 : decode cX0_turned 2 = .ok (.iushr, 1) := by decide +kernel
theorem dX0_turned_3 : decode cX0_turned 3 = .ok (.iload_n 0, 1) := by decide +kernel
theorem dX0_turned_4 : decode cX0_turned 4 = .ok (.bipush 32, 2) := by decide +kernel
theorem dX0_turned_6 : decode cX0_turned 6 = .ok (.iload_n 1, 1) := by decide +kernel
theorem dX0_turned_7 : decode cX0_turned 7 = .ok (.isub, 1) := by decide +kernel
theorem dX0_turned_8 : decode cX0_turned 8 = .ok (.ishl, 1) := by decide +kernel
theorem dX0_turned_9 : decode cX0_turned 9 = .ok (.ior, 1) := by decide +kernel
theorem dX0_turned_10 : decode cX0_turned 10 = .ok (.ireturn, 1) := by decide +kernel
theorem dX1_init_0 : decode cX1_init 0 = .ok (.aload_n 0, 1) := by decide +kernel
theorem dX1_init_1 : decode cX1_init 1 = .ok (.invokespecial 1, 3) := by decide +kernel
theorem dX1_init_4 : decode cX1_init 4 = .ok (.aload_n 0, 1) := by decide +kernel
theorem dX1_init_5 : decode cX1_init 5 = .ok (.iconst 1, 1) := by decide +kernel
theorem dX1_init_6 : decode cX1_init 6 = .ok (.putfield 7, 3) := by decide +kernel
theorem dX1_init_9 : decode cX1_init 9 = .ok (.aload_n 0, 1) := by decide +kernel
theorem dX1_init_10 : decode cX1_init 10 = .ok (.iload_n 1, 1) := by decide +kernel
theorem dX1_init_11 : decode cX1_init 11 = .ok (.putfield 13, 3) := by decide +kernel
theorem dX1_init_14 : decode cX1_init 14 = .ok (.aload_n 0, 1) := by decide +kernel
theorem dX1_init_15 : decode cX1_init 15 = .ok (.iload_n 2, 1) := by decide +kernel
theorem dX1_init_16 : decode cX1_init 16 = .ok (.putfield 16, 3) := by decide +kernel
theorem dX1_init_19 : decode cX1_init 19 = .ok (.aload_n 0, 1) := by decide +kernel
theorem dX1_init_20 : decode cX1_init 20 = .ok (.aconst_null, 1) := by decide +kernel
theorem dX1_init_21 : decode cX1_init 21 = .ok (.putfield 19, 3) := by decide +kernel
theorem dX1_init_24 : decode cX1_init 24 = .ok (.aload_n 0, 1) := by decide +kernel
theorem dX1_init_25 : decode cX1_init 25 = .ok (.aconst_null, 1) := by decide +kernel
theorem dX1_init_26 : decode cX1_init 26 = .ok (.putfield 23, 3) := by decide +kernel
theorem dX1_init_29 : decode cX1_init 29 = .ok (.aload_n 0, 1) := by decide +kernel
theorem dX1_init_30 : decode cX1_init 30 = .ok (.aconst_null, 1) := by decide +kernel
theorem dX1_init_31 : decode cX1_init 31 = .ok (.putfield 26, 3) := by decide +kernel
theorem dX1_init_34 : decode cX1_init 34 = .ok (.return_, 1) := by decide +kernel
theorem dX1_init__0 : decode cX1_init_ 0 = .ok (.aload_n 0, 1) := by decide +kernel
theorem dX1_init__1 : decode cX1_init_ 1 = .ok (.invokespecial 1, 3) := by decide +kernel
theorem dX1_init__4 : decode cX1_init_ 4 = .ok (.aload_n 0, 1) := by decide +kernel
theorem dX1_init__5 : decode cX1_init_ 5 = .ok (.aload_n 1, 1) := by decide +kernel
theorem dX1_init__6 : decode cX1_init_ 6 = .ok (.invokestatic 30, 3) := by decide +kernel
theorem dX1_init__9 : decode cX1_init_ 9 = .ok (.aload_n 2, 1) := by decide +kernel
theorem dX1_init__10 : decode cX1_init_ 10 = .ok (.invokestatic 30, 3) := by decide +kernel
theorem dX1_init__13 : decode cX1_init_ 13 = .ok (.iadd, 1) := by decide +kernel
theorem dX1_init__14 : decode cX1_init_ 14 = .ok (.putfield 7, 3) := by decide +kernel
theorem dX1_init__17 : decode cX1_init_ 17 = .ok (.aload_n 0, 1) := by decide +kernel
theorem dX1_init__18 : decode cX1_init_ 18 = .ok (.iconst 0, 1) := by decide +kernel
theorem dX1_init__19 : decode cX1_init_ 19 = .ok (.putfield 13, 3) := by decide +kernel
theorem dX1_init__22 : decode cX1_init_ 22 = .ok (.aload_n 0, 1) := by decide +kernel
theorem dX1_init__23 : decode cX1_init_ 23 = .ok (.iconst 0, 1) := by decide +kernel
theorem dX1_init__24 : decode cX1_init_ 24 = .ok (.putfield 16, 3) := by decide +kernel
theorem dX1_init__27 : decode cX1_init_ 27 = .ok (.aload_n 0, 1) := by decide +kernel
theorem dX1_init__28 : decode cX1_init_ 28 = .ok (.aload_n 1, 1) := by decide +kernel
theorem dX1_init__29 : decode cX1_init_ 29 = .ok (.putfield 19, 3) := by decide +kernel
theorem dX1_init__32 : decode cX1_init_ 32 = .ok (.aload_n 0, 1) := by decide +kernel
theorem dX1_init__33 : decode cX1_init_ 33 = .ok (.aload_n 2, 1) := by decide +kernel
theorem dX1_init__34 : decode cX1_init_ 34 = .ok (.putfield 23, 3) := by decide +kernel
theorem dX1_init__37 : decode cX1_init_ 37 = .ok (.aload_n 0, 1) := by decide +kernel
theorem dX1_init__38 : decode cX1_init_ 38 = .ok (.aconst_null, 1) := by decide +kernel
theorem dX1_init__39 : decode cX1_init_ 39 = .ok (.putfield 26, 3) := by decide +kernel
theorem dX1_init__42 : decode cX1_init_ 42 = .ok (.return_, 1) := by decide +kernel
theorem dX2_init_0 : decode cX2_init 0 = .ok (.aload_n 0, 1) := by decide +kernel
theorem dX2_init_1 : decode cX2_init 1 = .ok (.invokespecial 3, 3) := by decide +kernel
theorem dX2_init_4 : decode cX2_init 4 = .ok (.aload_n 0, 1) := by decide +kernel
theorem dX2_init_5 : decode cX2_init 5 = .ok (.bipush 16, 2) := by decide +kernel
theorem dX2_init_7 : decode cX2_init 7 = .ok (.bipush 8, 2) := by decide +kernel
theorem dX2_init_9 : decode cX2_init 9 = .ok (.multianewarray 9 2, 4) := by decide +kernel
theorem dX2_init_13 : decode cX2_init 13 = .ok (.putfield 11, 3) := by decide +kernel
theorem dX2_init_16 : decode cX2_init 16 = .ok (.aload_n 0, 1) := by decide +kernel
theorem dX2_init_17 : decode cX2_init 17 = .ok (.iconst 0, 1) := by decide +kernel
theorem dX2_init_18 : decode cX2_init 18 = .ok (.putfield 16, 3) := by decide +kernel
theorem dX2_init_21 : decode cX2_init 21 = .ok (.aload_n 0, 1) := by decide +kernel
theorem dX2_init_22 : decode cX2_init 22 = .ok (.iconst 0, 1) := by decide +kernel
theorem dX2_init_23 : decode cX2_init 23 = .ok (.putfield 20, 3) := by decide +kernel
theorem dX2_init_26 : decode cX2_init 26 = .ok (.aload_n 0, 1) := by decide +kernel
theorem dX2_init_27 : decode cX2_init 27 = .ok (.iconst 0, 1) := by decide +kernel
theorem dX2_init_28 : decode cX2_init 28 = .ok (.putfield 24, 3) := by decide +kernel
theorem dX2_init_31 : decode cX2_init 31 = .ok (.aload_n 0, 1) := by decide +kernel
theorem dX2_init_32 : decode cX2_init 32 = .ok (.iconst 0, 1) := by decide +kernel
theorem dX2_init_33 : decode cX2_init 33 = .ok (.putfield 27, 3) := by decide +kernel
theorem dX2_init_36 : decode cX2_init 36 = .ok (.return_, 1) := by decide +kernel
theorem dX2_endWithNothing_0 : decode cX2_endWithNothing 0 = .ok (.aload_n 0, 1) := by decide +kernel
theorem dX2_endWithNothing_1 : decode cX2_endWithNothing 1 = .ok (.iconst 0, 1) := by decide +kernel
theorem dX2_endWithNothing_2 : decode cX2_endWithNothing 2 = .ok (.putfield 20, 3) := by decide +kernel
theorem dX2_endWithNothing_5 : decode cX2_endWithNothing 5 = .ok (.aload_n 0, 1) := by decide +kernel
theorem dX2_endWithNothing_6 : decode cX2_endWithNothing 6 = .ok (.iconst 0, 1) := by decide +kernel
theorem dX2_endWithNothing_7 : decode cX2_endWithNothing 7 = .ok (.putfield 24, 3) := by decide +kernel
theorem dX2_endWithNothing_10 : decode cX2_endWithNothing 10 = .ok (.aload_n 0, 1) := by decide +kernel
theorem dX2_endWithNothing_11 : decode cX2_endWithNothing 11 = .ok (.iconst 0, 1) := by decide +kernel
theorem dX2_endWithNothing_12 : decode cX2_endWithNothing 12 = .ok (.putfield 27, 3) := by decide +kernel
theorem dX2_endWithNothing_15 : decode cX2_endWithNothing 15 = .ok (.return_, 1) := by decide +kernel
theorem dX2_endWithEntry_0 : decode cX2_endWithEntry 0 = .ok (.aload_n 0, 1) := by decide +kernel
theorem dX2_endWithEntry_1 : decode cX2_endWithEntry 1 = .ok (.iconst 1, 1) := by decide +kernel
theorem dX2_endWithEntry_2 : decode cX2_endWithEntry 2 = .ok (.putfield 20, 3) := by decide +kernel
theorem dX2_endWithEntry_5 : decode cX2_endWithEntry 5 = .ok (.aload_n 0, 1) := by decide +kernel
theorem dX2_endWithEntry_6 : decode cX2_endWithEntry 6 = .ok (.iload_n 1, 1) := by decide +kernel
theorem dX2_endWithEntry_7 : decode cX2_endWithEntry 7 = .ok (.putfield 24, 3) := by decide +kernel
theorem dX2_endWithEntry_10 : decode cX2_endWithEntry 10 = .ok (.aload_n 0, 1) := by decide +kernel
theorem dX2_endWithEntry_11 : decode cX2_endWithEntry 11 = .ok (.iload_n 2, 1) := by decide +kernel
theorem dX2_endWithEntry_12 : decode cX2_endWithEntry 12 = .ok (.putfield 27, 3) := by decide +kernel
theorem dX2_endWithEntry_15 : decode cX2_endWithEntry 15 = .ok (.return_, 1) := by decide +kernel
theorem dX3_init_0 : decode cX3_init 0 = .ok (.aload_n 0, 1) := by decide +kernel
theorem dX3_init_1 : decode cX3_init 1 = .ok (.invokespecial 1, 3) := by decide +kernel
theorem dX3_init_4 : decode cX3_init 4 = .ok (.aload_n 0, 1) := by decide +kernel
theorem dX3_init_5 : decode cX3_init 5 = .ok (.bipush 60, 2) := by decide +kernel
theorem dX3_init_7 : decode cX3_init 7 = .ok (.anewarray 9, 3) := by decide +kernel
theorem dX3_init_10 : decode cX3_init 10 = .ok (.putfield 11, 3) := by decide +kernel
theorem dX3_init_13 : decode cX3_init 13 = .ok (.aload_n 0, 1) := by decide +kernel
theorem dX3_init_14 : decode cX3_init 14 = .ok (.iconst 0, 1) := by decide +kernel
theorem dX3_init_15 : decode cX3_init 15 = .ok (.putfield 15, 3) := by decide +kernel
theorem dX3_init_18 : decode cX3_init 18 = .ok (.aload_n 0, 1) := by decide +kernel
theorem dX3_init_19 : decode cX3_init 19 = .ok (.aconst_null, 1) := by decide +kernel
theorem dX3_init_20 : decode cX3_init 20 = .ok (.putfield 19, 3) := by decide +kernel
theorem dX3_init_23 : decode cX3_init 23 = .ok (.aload_n 0, 1) := by decide +kernel
theorem dX3_init_24 : decode cX3_init 24 = .ok (.new 23, 3) := by decide +kernel
theorem dX3_init_27 : decode cX3_init 27 = .ok (.dup, 1) := by decide +kernel
theorem dX3_init_28 : decode cX3_init 28 = .ok (.invokespecial 25, 3) := by decide +kernel
theorem dX3_init_31 : decode cX3_init 31 = .ok (.putfield 26, 3) := by decide +kernel
theorem dX3_init_34 : decode cX3_init 34 = .ok (.aload_n 0, 1) := by decide +kernel
theorem dX3_init_35 : decode cX3_init 35 = .ok (.new 30, 3) := by decide +kernel
theorem dX3_init_38 : decode cX3_init 38 = .ok (.dup, 1) := by decide +kernel
theorem dX3_init_39 : decode cX3_init 39 = .ok (.invokespecial 32, 3) := by decide +kernel
theorem dX3_init_42 : decode cX3_init 42 = .ok (.putfield 33, 3) := by decide +kernel
theorem dX3_init_45 : decode cX3_init 45 = .ok (.aload_n 0, 1) := by decide +kernel
theorem dX3_init_46 : decode cX3_init 46 = .ok (.bipush 8, 2) := by decide +kernel
theorem dX3_init_48 : decode cX3_init 48 = .ok (.newarray .int, 2) := by decide +kernel
theorem dX3_init_50 : decode cX3_init 50 = .ok (.putfield 37, 3) := by decide +kernel
theorem dX3_init_53 : decode cX3_init 53 = .ok (.return_, 1) := by decide +kernel
theorem dX3_put_0 : decode cX3_put 0 = .ok (.iload_n 1, 1) := by decide +kernel
theorem dX3_put_1 : decode cX3_put 1 = .ok (.invokestatic 41, 3) := by decide +kernel
theorem dX3_put_4 : decode cX3_put 4 = .ok (.ifCond .ne 5, 3) := by decide +kernel
theorem dX3_put_7 : decode cX3_put 7 = .ok (.iconst (-1), 1) := by decide +kernel
theorem dX3_put_8 : decode cX3_put 8 = .ok (.ireturn, 1) := by decide +kernel
theorem dX3_put_9 : decode cX3_put 9 = .ok (.aload_n 0, 1) := by decide +kernel
theorem dX3_put_10 : decode cX3_put 10 = .ok (.getfield 19, 3) := by decide +kernel
theorem dX3_put_13 : decode cX3_put 13 = .ok (.iload_n 1, 1) := by decide +kernel
theorem dX3_put_14 : decode cX3_put 14 = .ok (.invokestatic 45, 3) := by decide +kernel
theorem dX3_put_17 : decode cX3_put 17 = .ok (.iload_n 1, 1) := by decide +kernel
theorem dX3_put_18 : decode cX3_put 18 = .ok (.invokestatic 49, 3) := by decide +kernel
theorem dX3_put_21 : decode cX3_put 21 = .ok (.istore_n 3, 1) := by decide +kernel
theorem dX3_put_22 : decode cX3_put 22 = .ok (.iload_n 3, 1) := by decide +kernel
theorem dX3_put_23 : decode cX3_put 23 = .ok (.ifCond .ne 19, 3) := by decide +kernel
theorem dX3_put_26 : decode cX3_put 26 = .ok (.aload_n 0, 1) := by decide +kernel
theorem dX3_put_27 : decode cX3_put 27 = .ok (.getfield 19, 3) := by decide +kernel
theorem dX3_put_30 : decode cX3_put 30 = .ok (.invokestatic 53, 3) := by decide +kernel
theorem dX3_put_33 : decode cX3_put 33 = .ok (.sipush 300, 3) := by decide +kernel
theorem dX3_put_36 : decode cX3_put 36 = .ok (.if_icmp .lt 6, 3) := by decide +kernel
theorem dX3_put_39 : decode cX3_put 39 = .ok (.bipush (-3), 2) := by decide +kernel
theorem dX3_put_41 : decode cX3_put 41 = .ok (.ireturn, 1) := by decide +kernel
theorem dX3_put_42 : decode cX3_put 42 = .ok (.aload_n 0, 1) := by decide +kernel
theorem dX3_put_43 : decode cX3_put 43 = .ok (.aload_n 0, 1) := by decide +kernel
theorem dX3_put_44 : decode cX3_put 44 = .ok (.getfield 19, 3) := by decide +kernel
theorem dX3_put_47 : decode cX3_put 47 = .ok (.iconst 0, 1) := by decide +kernel
theorem dX3_put_48 : decode cX3_put 48 = .ok (.iload_n 1, 1) := by decide +kernel
theorem dX3_put_49 : decode cX3_put 49 = .ok (.new 9, 3) := by decide +kernel
theorem dX3_put_52 : decode cX3_put 52 = .ok (.dup, 1) := by decide +kernel
theorem dX3_put_53 : decode cX3_put 53 = .ok (.iload_n 1, 1) := by decide +kernel
theorem dX3_put_54 : decode cX3_put 54 = .ok (.iload_n 2, 1) := by decide +kernel
theorem dX3_put_55 : decode cX3_put 55 = .ok (.invokespecial 57, 3) := by decide +kernel
theorem dX3_put_58 : decode cX3_put 58 = .ok (.invokestatic 60, 3) := by decide +kernel
theorem dX3_put_61 : decode cX3_put 61 = .ok (.putfield 19, 3) := by decide +kernel
theorem dX3_put_64 : decode cX3_put 64 = .ok (.iload_n 3, 1) := by decide +kernel
theorem dX3_put_65 : decode cX3_put 65 = .ok (.ifCond .eq 7, 3) := by decide +kernel
theorem dX3_put_68 : decode cX3_put 68 = .ok (.iconst 0, 1) := by decide +kernel
theorem dX3_put_69 : decode cX3_put 69 = .ok (.goto 4, 3) := by decide +kernel
theorem dX3_put_72 : decode cX3_put 72 = .ok (.iconst 1, 1) := by decide +kernel
theorem dX3_put_73 : decode cX3_put 73 = .ok (.ireturn, 1) := by decide +kernel
theorem dX3_remove_0 : decode cX3_remove 0 = .ok (.iload_n 1, 1) := by decide +kernel
theorem dX3_remove_1 : decode cX3_remove 1 = .ok (.invokestatic 41, 3) := by decide +kernel
theorem dX3_remove_4 : decode cX3_remove 4 = .ok (.ifCond .ne 5, 3) := by decide +kernel
theorem dX3_remove_7 : decode cX3_remove 7 = .ok (.iconst (-1), 1) := by decide +kernel
theorem dX3_remove_8 : decode cX3_remove 8 = .ok (.ireturn, 1) := by decide +kernel
theorem dX3_remove_9 : decode cX3_remove 9 = .ok (.aload_n 0, 1) := by decide +kernel
theorem dX3_remove_10 : decode cX3_remove 10 = .ok (.getfield 19, 3) := by decide +kernel
theorem dX3_remove_13 : decode cX3_remove 13 = .ok (.iload_n 1, 1) := by decide +kernel
theorem dX3_remove_14 : decode cX3_remove 14 = .ok (.invokestatic 45, 3) := by decide +kernel
theorem dX3_remove_17 : decode cX3_remove 17 = .ok (.iload_n 1, 1) := by decide +kernel
theorem dX3_remove_18 : decode cX3_remove 18 = .ok (.invokestatic 49, 3) := by decide +kernel
theorem dX3_remove_21 : decode cX3_remove 21 = .ok (.ifCond .ne 5, 3) := by decide +kernel
theorem dX3_remove_24 : decode cX3_remove 24 = .ok (.iconst 0, 1) := by decide +kernel
theorem dX3_remove_25 : decode cX3_remove 25 = .ok (.ireturn, 1) := by decide +kernel
theorem dX3_remove_26 : decode cX3_remove 26 = .ok (.aload_n 0, 1) := by decide +kernel
theorem dX3_remove_27 : decode cX3_remove 27 = .ok (.aload_n 0, 1) := by decide +kernel
theorem dX3_remove_28 : decode cX3_remove 28 = .ok (.getfield 19, 3) := by decide +kernel
theorem dX3_remove_31 : decode cX3_remove 31 = .ok (.iconst 0, 1) := by decide +kernel
theorem dX3_remove_32 : decode cX3_remove 32 = .ok (.iload_n 1, 1) := by decide +kernel
theorem dX3_remove_33 : decode cX3_remove 33 = .ok (.aconst_null, 1) := by decide +kernel
theorem dX3_remove_34 : decode cX3_remove 34 = .ok (.invokestatic 60, 3) := by decide +kernel
theorem dX3_remove_37 : decode cX3_remove 37 = .ok (.putfield 19, 3) := by decide +kernel
theorem dX3_remove_40 : decode cX3_remove 40 = .ok (.iconst 1, 1) := by decide +kernel
theorem dX3_remove_41 : decode cX3_remove 41 = .ok (.ireturn, 1) := by decide +kernel
theorem dX3_get_0 : decode cX3_get 0 = .ok (.aload_n 0, 1) := by decide +kernel
theorem dX3_get_1 : decode cX3_get 1 = .ok (.iload_n 1, 1) := by decide +kernel
theorem dX3_get_2 : decode cX3_get 2 = .ok (.invokevirtual 64, 3) := by decide +kernel
theorem dX3_get_5 : decode cX3_get 5 = .ok (.ifCond .eq 10, 3) := by decide +kernel
theorem dX3_get_8 : decode cX3_get 8 = .ok (.iload_n 2, 1) := by decide +kernel
theorem dX3_get_9 : decode cX3_get 9 = .ok (.invokestatic 41, 3) := by decide +kernel
theorem dX3_get_12 : decode cX3_get 12 = .ok (.ifCond .ne 7, 3) := by decide +kernel
theorem dX3_get_15 : decode cX3_get 15 = .ok (.ldc2_w 67, 3) := by decide +kernel
theorem dX3_get_18 : decode cX3_get 18 = .ok (.lreturn, 1) := by decide +kernel
theorem dX3_get_19 : decode cX3_get 19 = .ok (.aload_n 0, 1) := by decide +kernel
theorem dX3_get_20 : decode cX3_get 20 = .ok (.iload_n 1, 1) := by decide +kernel
theorem dX3_get_21 : decode cX3_get 21 = .ok (.invokevirtual 69, 3) := by decide +kernel
theorem dX3_get_24 : decode cX3_get 24 = .ok (.iload_n 2, 1) := by decide +kernel
theorem dX3_get_25 : decode cX3_get 25 = .ok (.invokestatic 45, 3) := by decide +kernel
theorem dX3_get_28 : decode cX3_get 28 = .ok (.astore_n 3, 1) := by decide +kernel
theorem dX3_get_29 : decode cX3_get 29 = .ok (.aload_n 3, 1) := by decide +kernel
theorem dX3_get_30 : decode cX3_get 30 = .ok (.ifnull 19, 3) := by decide +kernel
theorem dX3_get_33 : decode cX3_get 33 = .ok (.aload_n 3, 1) := by decide +kernel
theorem dX3_get_34 : decode cX3_get 34 = .ok (.iload_n 2, 1) := by decide +kernel
theorem dX3_get_35 : decode cX3_get 35 = .ok (.invokestatic 49, 3) := by decide +kernel
theorem dX3_get_38 : decode cX3_get 38 = .ok (.ifCond .eq 11, 3) := by decide +kernel
theorem dX3_get_41 : decode cX3_get 41 = .ok (.aload_n 3, 1) := by decide +kernel
theorem dX3_get_42 : decode cX3_get 42 = .ok (.getfield 73, 3) := by decide +kernel
theorem dX3_get_45 : decode cX3_get 45 = .ok (.i2l, 1) := by decide +kernel
theorem dX3_get_46 : decode cX3_get 46 = .ok (.goto 6, 3) := by decide +kernel
theorem dX3_get_49 : decode cX3_get 49 = .ok (.ldc2_w 67, 3) := by decide +kernel
theorem dX3_get_52 : decode cX3_get 52 = .ok (.lreturn, 1) := by decide +kernel
theorem dX3_size_0 : decode cX3_size 0 = .ok (.aload_n 0, 1) := by decide +kernel
theorem dX3_size_1 : decode cX3_size 1 = .ok (.iload_n 1, 1) := by decide +kernel
theorem dX3_size_2 : decode cX3_size 2 = .ok (.invokevirtual 64, 3) := by decide +kernel
theorem dX3_size_5 : decode cX3_size 5 = .ok (.ifCond .eq 14, 3) := by decide +kernel
theorem dX3_size_8 : decode cX3_size 8 = .ok (.aload_n 0, 1) := by decide +kernel
theorem dX3_size_9 : decode cX3_size 9 = .ok (.iload_n 1, 1) := by decide +kernel
theorem dX3_size_10 : decode cX3_size 10 = .ok (.invokevirtual 69, 3) := by decide +kernel
theorem dX3_size_13 : decode cX3_size 13 = .ok (.invokestatic 53, 3) := by decide +kernel
theorem dX3_size_16 : decode cX3_size 16 = .ok (.goto 4, 3) := by decide +kernel
theorem dX3_size_19 : decode cX3_size 19 = .ok (.iconst (-1), 1) := by decide +kernel
theorem dX3_size_20 : decode cX3_size 20 = .ok (.ireturn, 1) := by decide +kernel
theorem dX3_commit_0 : decode cX3_commit 0 = .ok (.aload_n 0, 1) := by decide +kernel
theorem dX3_commit_1 : decode cX3_commit 1 = .ok (.getfield 15, 3) := by decide +kernel
theorem dX3_commit_4 : decode cX3_commit 4 = .ok (.ifCond .lt 12, 3) := by decide +kernel
theorem dX3_commit_7 : decode cX3_commit 7 = .ok (.aload_n 0, 1) := by decide +kernel
theorem dX3_commit_8 : decode cX3_commit 8 = .ok (.getfield 15, 3) := by decide +kernel
theorem dX3_commit_11 : decode cX3_commit 11 = .ok (.bipush 60, 2) := by decide +kernel
theorem dX3_commit_13 : decode cX3_commit 13 = .ok (.if_icmp .lt 6, 3) := by decide +kernel
theorem dX3_commit_16 : decode cX3_commit 16 = .ok (.bipush (-3), 2) := by decide +kernel
theorem dX3_commit_18 : decode cX3_commit 18 = .ok (.ireturn, 1) := by decide +kernel
theorem dX3_commit_19 : decode cX3_commit 19 = .ok (.aload_n 0, 1) := by decide +kernel
theorem dX3_commit_20 : decode cX3_commit 20 = .ok (.getfield 15, 3) := by decide +kernel
theorem dX3_commit_23 : decode cX3_commit 23 = .ok (.istore_n 1, 1) := by decide +kernel
theorem dX3_commit_24 : decode cX3_commit 24 = .ok (.aload_n 0, 1) := by decide +kernel
theorem dX3_commit_25 : decode cX3_commit 25 = .ok (.getfield 11, 3) := by decide +kernel
theorem dX3_commit_28 : decode cX3_commit 28 = .ok (.iload_n 1, 1) := by decide +kernel
theorem dX3_commit_29 : decode cX3_commit 29 = .ok (.aload_n 0, 1) := by decide +kernel
theorem dX3_commit_30 : decode cX3_commit 30 = .ok (.getfield 19, 3) := by decide +kernel
theorem dX3_commit_33 : decode cX3_commit 33 = .ok (.aastore, 1) := by decide +kernel
theorem dX3_commit_34 : decode cX3_commit 34 = .ok (.aload_n 0, 1) := by decide +kernel
theorem dX3_commit_35 : decode cX3_commit 35 = .ok (.iload_n 1, 1) := by decide +kernel
theorem dX3_commit_36 : decode cX3_commit 36 = .ok (.iconst 1, 1) := by decide +kernel
theorem dX3_commit_37 : decode cX3_commit 37 = .ok (.iadd, 1) := by decide +kernel
theorem dX3_commit_38 : decode cX3_commit 38 = .ok (.putfield 15, 3) := by decide +kernel
theorem dX3_commit_41 : decode cX3_commit 41 = .ok (.iload_n 1, 1) := by decide +kernel
theorem dX3_commit_42 : decode cX3_commit 42 = .ok (.ireturn, 1) := by decide +kernel
theorem dX3_back_0 : decode cX3_back 0 = .ok (.iload_n 1, 1) := by decide +kernel
theorem dX3_back_1 : decode cX3_back 1 = .ok (.iconst (-1), 1) := by decide +kernel
theorem dX3_back_2 : decode cX3_back 2 = .ok (.if_icmp .eq 11, 3) := by decide +kernel
theorem dX3_back_5 : decode cX3_back 5 = .ok (.aload_n 0, 1) := by decide +kernel
theorem dX3_back_6 : decode cX3_back 6 = .ok (.iload_n 1, 1) := by decide +kernel
theorem dX3_back_7 : decode cX3_back 7 = .ok (.invokevirtual 64, 3) := by decide +kernel
theorem dX3_back_10 : decode cX3_back 10 = .ok (.ifCond .ne 5, 3) := by decide +kernel
theorem dX3_back_13 : decode cX3_back 13 = .ok (.iconst (-1), 1) := by decide +kernel
theorem dX3_back_14 : decode cX3_back 14 = .ok (.ireturn, 1) := by decide +kernel
theorem dX3_back_15 : decode cX3_back 15 = .ok (.aload_n 0, 1) := by decide +kernel
theorem dX3_back_16 : decode cX3_back 16 = .ok (.aload_n 0, 1) := by decide +kernel
theorem dX3_back_17 : decode cX3_back 17 = .ok (.iload_n 1, 1) := by decide +kernel
theorem dX3_back_18 : decode cX3_back 18 = .ok (.invokevirtual 69, 3) := by decide +kernel
theorem dX3_back_21 : decode cX3_back 21 = .ok (.putfield 19, 3) := by decide +kernel
