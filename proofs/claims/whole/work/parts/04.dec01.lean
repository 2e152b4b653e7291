theorem dX3_back_24 : decode cX3_back 24 = .ok (.aload_n 0, 1) := by decide +kernel
theorem dX3_back_25 : decode cX3_back 25 = .ok (.getfield 19, 3) := by decide +kernel
theorem dX3_back_28 : decode cX3_back 28 = .ok (.invokestatic 53, 3) := by decide +kernel
theorem dX3_back_31 : decode cX3_back 31 = .ok (.ireturn, 1) := by decide +kernel
theorem dX3_word_0 : decode cX3_word 0 = .ok (.aload_n 0, 1) := by decide +kernel
theorem dX3_word_1 : decode cX3_word 1 = .ok (.iload_n 1, 1) := by decide +kernel
theorem dX3_word_2 : decode cX3_word 2 = .ok (.invokevirtual 64, 3) := by decide +kernel
theorem dX3_word_5 : decode cX3_word 5 = .ok (.ifCond .eq 10, 3) := by decide +kernel
theorem dX3_word_8 : decode cX3_word 8 = .ok (.iload_n 2, 1) := by decide +kernel
theorem dX3_word_9 : decode cX3_word 9 = .ok (.invokestatic 76, 3) := by decide +kernel
theorem dX3_word_12 : decode cX3_word 12 = .ok (.ifCond .ne 5, 3) := by decide +kernel
theorem dX3_word_15 : decode cX3_word 15 = .ok (.iconst 0, 1) := by decide +kernel
theorem dX3_word_16 : decode cX3_word 16 = .ok (.ireturn, 1) := by decide +kernel
theorem dX3_word_17 : decode cX3_word 17 = .ok (.aload_n 0, 1) := by decide +kernel
theorem dX3_word_18 : decode cX3_word 18 = .ok (.iload_n 1, 1) := by decide +kernel
theorem dX3_word_19 : decode cX3_word 19 = .ok (.invokevirtual 69, 3) := by decide +kernel
theorem dX3_word_22 : decode cX3_word 22 = .ok (.iconst 0, 1) := by decide +kernel
theorem dX3_word_23 : decode cX3_word 23 = .ok (.aload_n 0, 1) := by decide +kernel
theorem dX3_word_24 : decode cX3_word 24 = .ok (.getfield 33, 3) := by decide +kernel
theorem dX3_word_27 : decode cX3_word 27 = .ok (.invokestatic 79, 3) := by decide +kernel
theorem dX3_word_30 : decode cX3_word 30 = .ok (.iload_n 2, 1) := by decide +kernel
theorem dX3_word_31 : decode cX3_word 31 = .ok (.iaload, 1) := by decide +kernel
theorem dX3_word_32 : decode cX3_word 32 = .ok (.ireturn, 1) := by decide +kernel
theorem dX3_prove_0 : decode cX3_prove 0 = .ok (.aload_n 0, 1) := by decide +kernel
theorem dX3_prove_1 : decode cX3_prove 1 = .ok (.iload_n 1, 1) := by decide +kernel
theorem dX3_prove_2 : decode cX3_prove 2 = .ok (.invokevirtual 64, 3) := by decide +kernel
theorem dX3_prove_5 : decode cX3_prove 5 = .ok (.ifCond .eq 10, 3) := by decide +kernel
theorem dX3_prove_8 : decode cX3_prove 8 = .ok (.iload_n 2, 1) := by decide +kernel
theorem dX3_prove_9 : decode cX3_prove 9 = .ok (.invokestatic 41, 3) := by decide +kernel
theorem dX3_prove_12 : decode cX3_prove 12 = .ok (.ifCond .ne 5, 3) := by decide +kernel
theorem dX3_prove_15 : decode cX3_prove 15 = .ok (.iconst (-1), 1) := by decide +kernel
theorem dX3_prove_16 : decode cX3_prove 16 = .ok (.ireturn, 1) := by decide +kernel
theorem dX3_prove_17 : decode cX3_prove 17 = .ok (.aload_n 0, 1) := by decide +kernel
theorem dX3_prove_18 : decode cX3_prove 18 = .ok (.iload_n 1, 1) := by decide +kernel
theorem dX3_prove_19 : decode cX3_prove 19 = .ok (.invokevirtual 69, 3) := by decide +kernel
theorem dX3_prove_22 : decode cX3_prove 22 = .ok (.astore_n 3, 1) := by decide +kernel
theorem dX3_prove_23 : decode cX3_prove 23 = .ok (.iconst 0, 1) := by decide +kernel
theorem dX3_prove_24 : decode cX3_prove 24 = .ok (.istore 4, 2) := by decide +kernel
theorem dX3_prove_26 : decode cX3_prove 26 = .ok (.iload 4, 2) := by decide +kernel
theorem dX3_prove_28 : decode cX3_prove 28 = .ok (.bipush 16, 2) := by decide +kernel
theorem dX3_prove_30 : decode cX3_prove 30 = .ok (.if_icmp .ge 68, 3) := by decide +kernel
theorem dX3_prove_33 : decode cX3_prove 33 = .ok (.aload_n 3, 1) := by decide +kernel
theorem dX3_prove_34 : decode cX3_prove 34 = .ok (.invokestatic 53, 3) := by decide +kernel
theorem dX3_prove_37 : decode cX3_prove 37 = .ok (.iconst 1, 1) := by decide +kernel
theorem dX3_prove_38 : decode cX3_prove 38 = .ok (.if_icmp .le 60, 3) := by decide +kernel
theorem dX3_prove_41 : decode cX3_prove 41 = .ok (.iload_n 2, 1) := by decide +kernel
theorem dX3_prove_42 : decode cX3_prove 42 = .ok (.iload 4, 2) := by decide +kernel
theorem dX3_prove_44 : decode cX3_prove 44 = .ok (.invokestatic 83, 3) := by decide +kernel
theorem dX3_prove_47 : decode cX3_prove 47 = .ok (.istore 5, 2) := by decide +kernel
theorem dX3_prove_49 : decode cX3_prove 49 = .ok (.aload_n 3, 1) := by decide +kernel
theorem dX3_prove_50 : decode cX3_prove 50 = .ok (.iload 4, 2) := by decide +kernel
theorem dX3_prove_52 : decode cX3_prove 52 = .ok (.iconst 1, 1) := by decide +kernel
theorem dX3_prove_53 : decode cX3_prove 53 = .ok (.iload 5, 2) := by decide +kernel
theorem dX3_prove_55 : decode cX3_prove 55 = .ok (.isub, 1) := by decide +kernel
theorem dX3_prove_56 : decode cX3_prove 56 = .ok (.invokestatic 87, 3) := by decide +kernel
theorem dX3_prove_59 : decode cX3_prove 59 = .ok (.iload 4, 2) := by decide +kernel
theorem dX3_prove_61 : decode cX3_prove 61 = .ok (.iconst 1, 1) := by decide +kernel
theorem dX3_prove_62 : decode cX3_prove 62 = .ok (.iadd, 1) := by decide +kernel
theorem dX3_prove_63 : decode cX3_prove 63 = .ok (.aload_n 0, 1) := by decide +kernel
theorem dX3_prove_64 : decode cX3_prove 64 = .ok (.getfield 33, 3) := by decide +kernel
theorem dX3_prove_67 : decode cX3_prove 67 = .ok (.invokestatic 79, 3) := by decide +kernel
theorem dX3_prove_70 : decode cX3_prove 70 = .ok (.aload_n 0, 1) := by decide +kernel
theorem dX3_prove_71 : decode cX3_prove 71 = .ok (.getfield 26, 3) := by decide +kernel
theorem dX3_prove_74 : decode cX3_prove 74 = .ok (.getfield 91, 3) := by decide +kernel
theorem dX3_prove_77 : decode cX3_prove 77 = .ok (.iload 4, 2) := by decide +kernel
theorem dX3_prove_79 : decode cX3_prove 79 = .ok (.aaload, 1) := by decide +kernel
theorem dX3_prove_80 : decode cX3_prove 80 = .ok (.invokestatic 95, 3) := by decide +kernel
theorem dX3_prove_83 : decode cX3_prove 83 = .ok (.aload_n 3, 1) := by decide +kernel
theorem dX3_prove_84 : decode cX3_prove 84 = .ok (.iload 4, 2) := by decide +kernel
theorem dX3_prove_86 : decode cX3_prove 86 = .ok (.iload 5, 2) := by decide +kernel
theorem dX3_prove_88 : decode cX3_prove 88 = .ok (.invokestatic 87, 3) := by decide +kernel
theorem dX3_prove_91 : decode cX3_prove 91 = .ok (.astore_n 3, 1) := by decide +kernel
theorem dX3_prove_92 : decode cX3_prove 92 = .ok (.iinc 4 1, 3) := by decide +kernel
theorem dX3_prove_95 : decode cX3_prove 95 = .ok (.goto (-69), 3) := by decide +kernel
theorem dX3_prove_98 : decode cX3_prove 98 = .ok (.aload_n 0, 1) := by decide +kernel
theorem dX3_prove_99 : decode cX3_prove 99 = .ok (.getfield 26, 3) := by decide +kernel
theorem dX3_prove_102 : decode cX3_prove 102 = .ok (.iload 4, 2) := by decide +kernel
theorem dX3_prove_104 : decode cX3_prove 104 = .ok (.putfield 99, 3) := by decide +kernel
theorem dX3_prove_107 : decode cX3_prove 107 = .ok (.aload_n 3, 1) := by decide +kernel
theorem dX3_prove_108 : decode cX3_prove 108 = .ok (.ifnonnull 13, 3) := by decide +kernel
theorem dX3_prove_111 : decode cX3_prove 111 = .ok (.aload_n 0, 1) := by decide +kernel
theorem dX3_prove_112 : decode cX3_prove 112 = .ok (.getfield 26, 3) := by decide +kernel
theorem dX3_prove_115 : decode cX3_prove 115 = .ok (.invokevirtual 102, 3) := by decide +kernel
theorem dX3_prove_118 : decode cX3_prove 118 = .ok (.goto 18, 3) := by decide +kernel
theorem dX3_prove_121 : decode cX3_prove 121 = .ok (.aload_n 0, 1) := by decide +kernel
theorem dX3_prove_122 : decode cX3_prove 122 = .ok (.getfield 26, 3) := by decide +kernel
theorem dX3_prove_125 : decode cX3_prove 125 = .ok (.aload_n 3, 1) := by decide +kernel
theorem dX3_prove_126 : decode cX3_prove 126 = .ok (.getfield 105, 3) := by decide +kernel
theorem dX3_prove_129 : decode cX3_prove 129 = .ok (.aload_n 3, 1) := by decide +kernel
theorem dX3_prove_130 : decode cX3_prove 130 = .ok (.getfield 73, 3) := by decide +kernel
theorem dX3_prove_133 : decode cX3_prove 133 = .ok (.invokevirtual 108, 3) := by decide +kernel
theorem dX3_prove_136 : decode cX3_prove 136 = .ok (.iload 4, 2) := by decide +kernel
theorem dX3_prove_138 : decode cX3_prove 138 = .ok (.ireturn, 1) := by decide +kernel
theorem dX3_siblings_0 : decode cX3_siblings 0 = .ok (.aload_n 0, 1) := by decide +kernel
theorem dX3_siblings_1 : decode cX3_siblings 1 = .ok (.getfield 26, 3) := by decide +kernel
theorem dX3_siblings_4 : decode cX3_siblings 4 = .ok (.getfield 99, 3) := by decide +kernel
theorem dX3_siblings_7 : decode cX3_siblings 7 = .ok (.ireturn, 1) := by decide +kernel
theorem dX3_sibling_0 : decode cX3_sibling 0 = .ok (.aload_n 0, 1) := by decide +kernel
theorem dX3_sibling_1 : decode cX3_sibling 1 = .ok (.iload_n 1, 1) := by decide +kernel
theorem dX3_sibling_2 : decode cX3_sibling 2 = .ok (.invokevirtual 111, 3) := by decide +kernel
theorem dX3_sibling_5 : decode cX3_sibling 5 = .ok (.ifCond .eq 24, 3) := by decide +kernel
theorem dX3_sibling_8 : decode cX3_sibling 8 = .ok (.iload_n 2, 1) := by decide +kernel
theorem dX3_sibling_9 : decode cX3_sibling 9 = .ok (.invokestatic 76, 3) := by decide +kernel
theorem dX3_sibling_12 : decode cX3_sibling 12 = .ok (.ifCond .eq 17, 3) := by decide +kernel
theorem dX3_sibling_15 : decode cX3_sibling 15 = .ok (.aload_n 0, 1) := by decide +kernel
theorem dX3_sibling_16 : decode cX3_sibling 16 = .ok (.getfield 26, 3) := by decide +kernel
theorem dX3_sibling_19 : decode cX3_sibling 19 = .ok (.getfield 91, 3) := by decide +kernel
theorem dX3_sibling_22 : decode cX3_sibling 22 = .ok (.iload_n 1, 1) := by decide +kernel
theorem dX3_sibling_23 : decode cX3_sibling 23 = .ok (.aaload, 1) := by decide +kernel
theorem dX3_sibling_24 : decode cX3_sibling 24 = .ok (.iload_n 2, 1) := by decide +kernel
theorem dX3_sibling_25 : decode cX3_sibling 25 = .ok (.iaload, 1) := by decide +kernel
theorem dX3_sibling_26 : decode cX3_sibling 26 = .ok (.goto 4, 3) := by decide +kernel
theorem dX3_sibling_29 : decode cX3_sibling 29 = .ok (.iconst 0, 1) := by decide +kernel
theorem dX3_sibling_30 : decode cX3_sibling 30 = .ok (.ireturn, 1) := by decide +kernel
theorem dX3_end_0 : decode cX3_end 0 = .ok (.iload_n 1, 1) := by decide +kernel
theorem dX3_end_1 : decode cX3_end 1 = .ok (.tableswitch 59 0 2 #[27, 43, 51], 27) := by decide +kernel
theorem dX3_end_28 : decode cX3_end 28 = .ok (.aload_n 0, 1) := by decide +kernel
theorem dX3_end_29 : decode cX3_end 29 = .ok (.getfield 26, 3) := by decide +kernel
theorem dX3_end_32 : decode cX3_end 32 = .ok (.getfield 114, 3) := by decide +kernel
theorem dX3_end_35 : decode cX3_end 35 = .ok (.ifCond .eq 7, 3) := by decide +kernel
theorem dX3_end_38 : decode cX3_end 38 = .ok (.iconst 1, 1) := by decide +kernel
theorem dX3_end_39 : decode cX3_end 39 = .ok (.goto 4, 3) := by decide +kernel
theorem dX3_end_42 : decode cX3_end 42 = .ok (.iconst 0, 1) := by decide +kernel
theorem dX3_end_43 : decode cX3_end 43 = .ok (.ireturn, 1) := by decide +kernel
theorem dX3_end_44 : decode cX3_end 44 = .ok (.aload_n 0, 1) := by decide +kernel
theorem dX3_end_45 : decode cX3_end 45 = .ok (.getfield 26, 3) := by decide +kernel
theorem dX3_end_48 : decode cX3_end 48 = .ok (.getfield 118, 3) := by decide +kernel
theorem dX3_end_51 : decode cX3_end 51 = .ok (.ireturn, 1) := by decide +kernel
theorem dX3_end_52 : decode cX3_end 52 = .ok (.aload_n 0, 1) := by decide +kernel
theorem dX3_end_53 : decode cX3_end 53 = .ok (.getfield 26, 3) := by decide +kernel
theorem dX3_end_56 : decode cX3_end 56 = .ok (.getfield 119, 3) := by decide +kernel
theorem dX3_end_59 : decode cX3_end 59 = .ok (.ireturn, 1) := by decide +kernel
theorem dX3_end_60 : decode cX3_end 60 = .ok (.iconst (-1), 1) := by decide +kernel
theorem dX3_end_61 : decode cX3_end 61 = .ok (.ireturn, 1) := by decide +kernel
theorem dX3_alter_0 : decode cX3_alter 0 = .ok (.aload_n 0, 1) := by decide +kernel
theorem dX3_alter_1 : decode cX3_alter 1 = .ok (.iload_n 1, 1) := by decide +kernel
theorem dX3_alter_2 : decode cX3_alter 2 = .ok (.invokevirtual 111, 3) := by decide +kernel
theorem dX3_alter_5 : decode cX3_alter 5 = .ok (.ifCond .eq 10, 3) := by decide +kernel
theorem dX3_alter_8 : decode cX3_alter 8 = .ok (.iload_n 2, 1) := by decide +kernel
theorem dX3_alter_9 : decode cX3_alter 9 = .ok (.invokestatic 76, 3) := by decide +kernel
theorem dX3_alter_12 : decode cX3_alter 12 = .ok (.ifCond .ne 5, 3) := by decide +kernel
theorem dX3_alter_15 : decode cX3_alter 15 = .ok (.iconst (-1), 1) := by decide +kernel
theorem dX3_alter_16 : decode cX3_alter 16 = .ok (.ireturn, 1) := by decide +kernel
theorem dX3_alter_17 : decode cX3_alter 17 = .ok (.aload_n 0, 1) := by decide +kernel
theorem dX3_alter_18 : decode cX3_alter 18 = .ok (.getfield 26, 3) := by decide +kernel
theorem dX3_alter_21 : decode cX3_alter 21 = .ok (.getfield 91, 3) := by decide +kernel
theorem dX3_alter_24 : decode cX3_alter 24 = .ok (.iload_n 1, 1) := by decide +kernel
theorem dX3_alter_25 : decode cX3_alter 25 = .ok (.aaload, 1) := by decide +kernel
theorem dX3_alter_26 : decode cX3_alter 26 = .ok (.iload_n 2, 1) := by decide +kernel
theorem dX3_alter_27 : decode cX3_alter 27 = .ok (.dup2, 1) := by decide +kernel
theorem dX3_alter_28 : decode cX3_alter 28 = .ok (.iaload, 1) := by decide +kernel
theorem dX3_alter_29 : decode cX3_alter 29 = .ok (.iload_n 3, 1) := by decide +kernel
theorem dX3_alter_30 : decode cX3_alter 30 = .ok (.ixor, 1) := by decide +kernel
theorem dX3_alter_31 : decode cX3_alter 31 = .ok (.iastore, 1) := by decide +kernel
theorem dX3_alter_32 : decode cX3_alter 32 = .ok (.iconst 1, 1) := by decide +kernel
theorem dX3_alter_33 : decode cX3_alter 33 = .ok (.ireturn, 1) := by decide +kernel
theorem dX3_claim_0 : decode cX3_claim 0 = .ok (.iload_n 1, 1) := by decide +kernel
theorem dX3_claim_1 : decode cX3_claim 1 = .ok (.iconst (-1), 1) := by decide +kernel
theorem dX3_claim_2 : decode cX3_claim 2 = .ok (.if_icmp .ne 12, 3) := by decide +kernel
theorem dX3_claim_5 : decode cX3_claim 5 = .ok (.aload_n 0, 1) := by decide +kernel
theorem dX3_claim_6 : decode cX3_claim 6 = .ok (.getfield 26, 3) := by decide +kernel
theorem dX3_claim_9 : decode cX3_claim 9 = .ok (.invokevirtual 102, 3) := by decide +kernel
theorem dX3_claim_12 : decode cX3_claim 12 = .ok (.iconst 1, 1) := by decide +kernel
theorem dX3_claim_13 : decode cX3_claim 13 = .ok (.ireturn, 1) := by decide +kernel
theorem dX3_claim_14 : decode cX3_claim 14 = .ok (.iload_n 1, 1) := by decide +kernel
theorem dX3_claim_15 : decode cX3_claim 15 = .ok (.invokestatic 41, 3) := by decide +kernel
theorem dX3_claim_18 : decode cX3_claim 18 = .ok (.ifCond .ne 5, 3) := by decide +kernel
theorem dX3_claim_21 : decode cX3_claim 21 = .ok (.iconst (-1), 1) := by decide +kernel
theorem dX3_claim_22 : decode cX3_claim 22 = .ok (.ireturn, 1) := by decide +kernel
theorem dX3_claim_23 : decode cX3_claim 23 = .ok (.aload_n 0, 1) := by decide +kernel
theorem dX3_claim_24 : decode cX3_claim 24 = .ok (.getfield 26, 3) := by decide +kernel
theorem dX3_claim_27 : decode cX3_claim 27 = .ok (.iload_n 1, 1) := by decide +kernel
theorem dX3_claim_28 : decode cX3_claim 28 = .ok (.iload_n 2, 1) := by decide +kernel
theorem dX3_claim_29 : decode cX3_claim 29 = .ok (.invokevirtual 108, 3) := by decide +kernel
theorem dX3_claim_32 : decode cX3_claim 32 = .ok (.iconst 1, 1) := by decide +kernel
theorem dX3_claim_33 : decode cX3_claim 33 = .ok (.ireturn, 1) := by decide +kernel
theorem dX3_cut_0 : decode cX3_cut 0 = .ok (.iload_n 1, 1) := by decide +kernel
theorem dX3_cut_1 : decode cX3_cut 1 = .ok (.ifCond .lt 14, 3) := by decide +kernel
theorem dX3_cut_4 : decode cX3_cut 4 = .ok (.iload_n 1, 1) := by decide +kernel
theorem dX3_cut_5 : decode cX3_cut 5 = .ok (.aload_n 0, 1) := by decide +kernel
theorem dX3_cut_6 : decode cX3_cut 6 = .ok (.getfield 26, 3) := by decide +kernel
theorem dX3_cut_9 : decode cX3_cut 9 = .ok (.getfield 99, 3) := by decide +kernel
theorem dX3_cut_12 : decode cX3_cut 12 = .ok (.if_icmp .le 5, 3) := by decide +kernel
theorem dX3_cut_15 : decode cX3_cut 15 = .ok (.iconst (-1), 1) := by decide +kernel
theorem dX3_cut_16 : decode cX3_cut 16 = .ok (.ireturn, 1) := by decide +kernel
theorem dX3_cut_17 : decode cX3_cut 17 = .ok (.aload_n 0, 1) := by decide +kernel
theorem dX3_cut_18 : decode cX3_cut 18 = .ok (.getfield 26, 3) := by decide +kernel
theorem dX3_cut_21 : decode cX3_cut 21 = .ok (.iload_n 1, 1) := by decide +kernel
theorem dX3_cut_22 : decode cX3_cut 22 = .ok (.putfield 99, 3) := by decide +kernel
theorem dX3_cut_25 : decode cX3_cut 25 = .ok (.iconst 1, 1) := by decide +kernel
theorem dX3_cut_26 : decode cX3_cut 26 = .ok (.ireturn, 1) := by decide +kernel
theorem dX3_verify_0 : decode cX3_verify 0 = .ok (.aload_n 0, 1) := by decide +kernel
theorem dX3_verify_1 : decode cX3_verify 1 = .ok (.iload_n 1, 1) := by decide +kernel
theorem dX3_verify_2 : decode cX3_verify 2 = .ok (.invokevirtual 64, 3) := by decide +kernel
theorem dX3_verify_5 : decode cX3_verify 5 = .ok (.ifCond .eq 10, 3) := by decide +kernel
theorem dX3_verify_8 : decode cX3_verify 8 = .ok (.iload_n 2, 1) := by decide +kernel
theorem dX3_verify_9 : decode cX3_verify 9 = .ok (.invokestatic 41, 3) := by decide +kernel
theorem dX3_verify_12 : decode cX3_verify 12 = .ok (.ifCond .ne 5, 3) := by decide +kernel
theorem dX3_verify_15 : decode cX3_verify 15 = .ok (.iconst (-1), 1) := by decide +kernel
theorem dX3_verify_16 : decode cX3_verify 16 = .ok (.ireturn, 1) := by decide +kernel
theorem dX3_verify_17 : decode cX3_verify 17 = .ok (.aload_n 0, 1) := by decide +kernel
theorem dX3_verify_18 : decode cX3_verify 18 = .ok (.getfield 26, 3) := by decide +kernel
theorem dX3_verify_21 : decode cX3_verify 21 = .ok (.getfield 114, 3) := by decide +kernel
theorem dX3_verify_24 : decode cX3_verify 24 = .ok (.ifCond .eq 27, 3) := by decide +kernel
theorem dX3_verify_27 : decode cX3_verify 27 = .ok (.aload_n 0, 1) := by decide +kernel
theorem dX3_verify_28 : decode cX3_verify 28 = .ok (.getfield 26, 3) := by decide +kernel
theorem dX3_verify_31 : decode cX3_verify 31 = .ok (.getfield 118, 3) := by decide +kernel
theorem dX3_verify_34 : decode cX3_verify 34 = .ok (.iload_n 2, 1) := by decide +kernel
theorem dX3_verify_35 : decode cX3_verify 35 = .ok (.invokestatic 120, 3) := by decide +kernel
theorem dX3_verify_38 : decode cX3_verify 38 = .ok (.aload_n 0, 1) := by decide +kernel
theorem dX3_verify_39 : decode cX3_verify 39 = .ok (.getfield 26, 3) := by decide +kernel
theorem dX3_verify_42 : decode cX3_verify 42 = .ok (.getfield 99, 3) := by decide +kernel
theorem dX3_verify_45 : decode cX3_verify 45 = .ok (.if_icmp .ge 6, 3) := by decide +kernel
theorem dX3_verify_48 : decode cX3_verify 48 = .ok (.bipush (-2), 2) := by decide +kernel
theorem dX3_verify_50 : decode cX3_verify 50 = .ok (.ireturn, 1) := by decide +kernel
theorem dX3_verify_51 : decode cX3_verify 51 = .ok (.aload_n 0, 1) := by decide +kernel
theorem dX3_verify_52 : decode cX3_verify 52 = .ok (.iload_n 2, 1) := by decide +kernel
theorem dX3_verify_53 : decode cX3_verify 53 = .ok (.invokevirtual 123, 3) := by decide +kernel
theorem dX3_verify_56 : decode cX3_verify 56 = .ok (.aload_n 0, 1) := by decide +kernel
theorem dX3_verify_57 : decode cX3_verify 57 = .ok (.getfield 37, 3) := by decide +kernel
theorem dX3_verify_60 : decode cX3_verify 60 = .ok (.aload_n 0, 1) := by decide +kernel
theorem dX3_verify_61 : decode cX3_verify 61 = .ok (.iload_n 1, 1) := by decide +kernel
theorem dX3_verify_62 : decode cX3_verify 62 = .ok (.invokevirtual 69, 3) := by decide +kernel
theorem dX3_verify_65 : decode cX3_verify 65 = .ok (.iconst 0, 1) := by decide +kernel
theorem dX3_verify_66 : decode cX3_verify 66 = .ok (.aload_n 0, 1) := by decide +kernel
theorem dX3_verify_67 : decode cX3_verify 67 = .ok (.getfield 33, 3) := by decide +kernel
theorem dX3_verify_70 : decode cX3_verify 70 = .ok (.invokestatic 79, 3) := by decide +kernel
theorem dX3_verify_73 : decode cX3_verify 73 = .ok (.invokestatic 127, 3) := by decide +kernel
theorem dX3_verify_76 : decode cX3_verify 76 = .ok (.ifCond .ne 6, 3) := by decide +kernel
theorem dX3_verify_79 : decode cX3_verify 79 = .ok (.bipush (-2), 2) := by decide +kernel
theorem dX3_verify_81 : decode cX3_verify 81 = .ok (.ireturn, 1) := by decide +kernel
theorem dX3_verify_82 : decode cX3_verify 82 = .ok (.aload_n 0, 1) := by decide +kernel
theorem dX3_verify_83 : decode cX3_verify 83 = .ok (.getfield 26, 3) := by decide +kernel
theorem dX3_verify_86 : decode cX3_verify 86 = .ok (.getfield 114, 3) := by decide +kernel
theorem dX3_verify_89 : decode cX3_verify 89 = .ok (.ifCond .eq 18, 3) := by decide +kernel
theorem dX3_verify_92 : decode cX3_verify 92 = .ok (.aload_n 0, 1) := by decide +kernel
theorem dX3_verify_93 : decode cX3_verify 93 = .ok (.getfield 26, 3) := by decide +kernel
theorem dX3_verify_96 : decode cX3_verify 96 = .ok (.getfield 118, 3) := by decide +kernel
theorem dX3_verify_99 : decode cX3_verify 99 = .ok (.iload_n 2, 1) := by decide +kernel
theorem dX3_verify_100 : decode cX3_verify 100 = .ok (.if_icmp .ne 7, 3) := by decide +kernel
theorem dX3_verify_103 : decode cX3_verify 103 = .ok (.iconst 1, 1) := by decide +kernel
theorem dX3_verify_104 : decode cX3_verify 104 = .ok (.goto 4, 3) := by decide +kernel
theorem dX3_verify_107 : decode cX3_verify 107 = .ok (.iconst 0, 1) := by decide +kernel
theorem dX3_verify_108 : decode cX3_verify 108 = .ok (.ireturn, 1) := by decide +kernel
theorem dX3_alike_0 : decode cX3_alike 0 = .ok (.iload_n 1, 1) := by decide +kernel
theorem dX3_alike_1 : decode cX3_alike 1 = .ok (.invokestatic 41, 3) := by decide +kernel
theorem dX3_alike_4 : decode cX3_alike 4 = .ok (.ifCond .eq 18, 3) := by decide +kernel
theorem dX3_alike_7 : decode cX3_alike 7 = .ok (.iload_n 2, 1) := by decide +kernel
theorem dX3_alike_8 : decode cX3_alike 8 = .ok (.invokestatic 41, 3) := by decide +kernel
theorem dX3_alike_11 : decode cX3_alike 11 = .ok (.ifCond .eq 11, 3) := by decide +kernel
theorem dX3_alike_14 : decode cX3_alike 14 = .ok (.iload_n 1, 1) := by decide +kernel
theorem dX3_alike_15 : decode cX3_alike 15 = .ok (.iload_n 2, 1) := by decide +kernel
theorem dX3_alike_16 : decode cX3_alike 16 = .ok (.invokestatic 120, 3) := by decide +kernel
theorem dX3_alike_19 : decode cX3_alike 19 = .ok (.goto 4, 3) := by decide +kernel
theorem dX3_alike_22 : decode cX3_alike 22 = .ok (.iconst (-1), 1) := by decide +kernel
theorem dX3_alike_23 : decode cX3_alike 23 = .ok (.ireturn, 1) := by decide +kernel
theorem dX3_versions_0 : decode cX3_versions 0 = .ok (.aload_n 0, 1) := by decide +kernel
theorem dX3_versions_1 : decode cX3_versions 1 = .ok (.getfield 15, 3) := by decide +kernel
theorem dX3_versions_4 : decode cX3_versions 4 = .ok (.ireturn, 1) := by decide +kernel
theorem dX3_isKey_0 : decode cX3_isKey 0 = .ok (.iload_n 0, 1) := by decide +kernel
theorem dX3_isKey_1 : decode cX3_isKey 1 = .ok (.ifCond .lt 13, 3) := by decide +kernel
theorem dX3_isKey_4 : decode cX3_isKey 4 = .ok (.iload_n 0, 1) := by decide +kernel
theorem dX3_isKey_5 : decode cX3_isKey 5 = .ok (.ldc 131, 2) := by decide +kernel
theorem dX3_isKey_7 : decode cX3_isKey 7 = .ok (.if_icmp .ge 7, 3) := by decide +kernel
theorem dX3_isKey_10 : decode cX3_isKey 10 = .ok (.iconst 1, 1) := by decide +kernel
theorem dX3_isKey_11 : decode cX3_isKey 11 = .ok (.goto 4, 3) := by decide +kernel
theorem dX3_isKey_14 : decode cX3_isKey 14 = .ok (.iconst 0, 1) := by decide +kernel
theorem dX3_isKey_15 : decode cX3_isKey 15 = .ok (.ireturn, 1) := by decide +kernel
theorem dX3_isWord_0 : decode cX3_isWord 0 = .ok (.iload_n 0, 1) := by decide +kernel
theorem dX3_isWord_1 : decode cX3_isWord 1 = .ok (.ifCond .lt 13, 3) := by decide +kernel
theorem dX3_isWord_4 : decode cX3_isWord 4 = .ok (.iload_n 0, 1) := by decide +kernel
theorem dX3_isWord_5 : decode cX3_isWord 5 = .ok (.bipush 8, 2) := by decide +kernel
theorem dX3_isWord_7 : decode cX3_isWord 7 = .ok (.if_icmp .ge 7, 3) := by decide +kernel
theorem dX3_isWord_10 : decode cX3_isWord 10 = .ok (.iconst 1, 1) := by decide +kernel
theorem dX3_isWord_11 : decode cX3_isWord 11 = .ok (.goto 4, 3) := by decide +kernel
theorem dX3_isWord_14 : decode cX3_isWord 14 = .ok (.iconst 0, 1) := by decide +kernel
theorem dX3_isWord_15 : decode cX3_isWord 15 = .ok (.ireturn, 1) := by decide +kernel
theorem dX3_isVersion_0 : decode cX3_isVersion 0 = .ok (.iload_n 1, 1) := by decide +kernel
theorem dX3_isVersion_1 : decode cX3_isVersion 1 = .ok (.iconst (-1), 1) := by decide +kernel
theorem dX3_isVersion_2 : decode cX3_isVersion 2 = .ok (.if_icmp .lt 15, 3) := by decide +kernel
theorem dX3_isVersion_5 : decode cX3_isVersion 5 = .ok (.iload_n 1, 1) := by decide +kernel
theorem dX3_isVersion_6 : decode cX3_isVersion 6 = .ok (.aload_n 0, 1) := by decide +kernel
theorem dX3_isVersion_7 : decode cX3_isVersion 7 = .ok (.getfield 15, 3) := by decide +kernel
theorem dX3_isVersion_10 : decode cX3_isVersion 10 = .ok (.if_icmp .ge 7, 3) := by decide +kernel
theorem dX3_isVersion_13 : decode cX3_isVersion 13 = .ok (.iconst 1, 1) := by decide +kernel
theorem dX3_isVersion_14 : decode cX3_isVersion 14 = .ok (.goto 4, 3) := by decide +kernel
theorem dX3_isVersion_17 : decode cX3_isVersion 17 = .ok (.iconst 0, 1) := by decide +kernel
theorem dX3_isVersion_18 : decode cX3_isVersion 18 = .ok (.ireturn, 1) := by decide +kernel
theorem dX3_isSibling_0 : decode cX3_isSibling 0 = .ok (.iload_n 1, 1) := by decide +kernel
theorem dX3_isSibling_1 : decode cX3_isSibling 1 = .ok (.ifCond .lt 24, 3) := by decide +kernel
theorem dX3_isSibling_4 : decode cX3_isSibling 4 = .ok (.iload_n 1, 1) := by decide +kernel
theorem dX3_isSibling_5 : decode cX3_isSibling 5 = .ok (.aload_n 0, 1) := by decide +kernel
theorem dX3_isSibling_6 : decode cX3_isSibling 6 = .ok (.getfield 26, 3) := by decide +kernel
theorem dX3_isSibling_9 : decode cX3_isSibling 9 = .ok (.getfield 99, 3) := by decide +kernel
theorem dX3_isSibling_12 : decode cX3_isSibling 12 = .ok (.if_icmp .ge 13, 3) := by decide +kernel
theorem dX3_isSibling_15 : decode cX3_isSibling 15 = .ok (.iload_n 1, 1) := by decide +kernel
theorem dX3_isSibling_16 : decode cX3_isSibling 16 = .ok (.bipush 16, 2) := by decide +kernel
theorem dX3_isSibling_18 : decode cX3_isSibling 18 = .ok (.if_icmp .ge 7, 3) := by decide +kernel
theorem dX3_isSibling_21 : decode cX3_isSibling 21 = .ok (.iconst 1, 1) := by decide +kernel
theorem dX3_isSibling_22 : decode cX3_isSibling 22 = .ok (.goto 4, 3) := by decide +kernel
theorem dX3_isSibling_25 : decode cX3_isSibling 25 = .ok (.iconst 0, 1) := by decide +kernel
theorem dX3_isSibling_26 : decode cX3_isSibling 26 = .ok (.ireturn, 1) := by decide +kernel
theorem dX3_rootOf_0 : decode cX3_rootOf 0 = .ok (.iload_n 1, 1) := by decide +kernel
theorem dX3_rootOf_1 : decode cX3_rootOf 1 = .ok (.ifCond .lt 18, 3) := by decide +kernel
theorem dX3_rootOf_4 : decode cX3_rootOf 4 = .ok (.iload_n 1, 1) := by decide +kernel
theorem dX3_rootOf_5 : decode cX3_rootOf 5 = .ok (.bipush 60, 2) := by decide +kernel
theorem dX3_rootOf_7 : decode cX3_rootOf 7 = .ok (.if_icmp .ge 12, 3) := by decide +kernel
theorem dX3_rootOf_10 : decode cX3_rootOf 10 = .ok (.aload_n 0, 1) := by decide +kernel
theorem dX3_rootOf_11 : decode cX3_rootOf 11 = .ok (.getfield 11, 3) := by decide +kernel
theorem dX3_rootOf_14 : decode cX3_rootOf 14 = .ok (.iload_n 1, 1) := by decide +kernel
theorem dX3_rootOf_15 : decode cX3_rootOf 15 = .ok (.aaload, 1) := by decide +kernel
theorem dX3_rootOf_16 : decode cX3_rootOf 16 = .ok (.goto 7, 3) := by decide +kernel
theorem dX3_rootOf_19 : decode cX3_rootOf 19 = .ok (.aload_n 0, 1) := by decide +kernel
theorem dX3_rootOf_20 : decode cX3_rootOf 20 = .ok (.getfield 19, 3) := by decide +kernel
theorem dX3_rootOf_23 : decode cX3_rootOf 23 = .ok (.areturn, 1) := by decide +kernel
theorem dX3_bitAt_0 : decode cX3_bitAt 0 = .ok (.iload_n 0, 1) := by decide +kernel
theorem dX3_bitAt_1 : decode cX3_bitAt 1 = .ok (.bipush 15, 2) := by decide +kernel
theorem dX3_bitAt_3 : decode cX3_bitAt 3 = .ok (.iload_n 1, 1) := by decide +kernel
theorem dX3_bitAt_4 : decode cX3_bitAt 4 = .ok (.isub, 1) := by decide +kernel
theorem dX3_bitAt_5 : decode cX3_bitAt 5 = .ok (.iushr, 1) := by decide +kernel
theorem dX3_bitAt_6 : decode cX3_bitAt 6 = .ok (.iconst 1, 1) := by decide +kernel
theorem dX3_bitAt_7 : decode cX3_bitAt 7 = .ok (.iand, 1) := by decide +kernel
theorem dX3_bitAt_8 : decode cX3_bitAt 8 = .ok (.ireturn, 1) := by decide +kernel
theorem dX3_sameFirstBits_0 : decode cX3_sameFirstBits 0 = .ok (.iconst 0, 1) := by decide +kernel
theorem dX3_sameFirstBits_1 : decode cX3_sameFirstBits 1 = .ok (.istore_n 2, 1) := by decide +kernel
theorem dX3_sameFirstBits_2 : decode cX3_sameFirstBits 2 = .ok (.iload_n 2, 1) := by decide +kernel
theorem dX3_sameFirstBits_3 : decode cX3_sameFirstBits 3 = .ok (.bipush 16, 2) := by decide +kernel
theorem dX3_sameFirstBits_5 : decode cX3_sameFirstBits 5 = .ok (.if_icmp .ge 22, 3) := by decide +kernel
theorem dX3_sameFirstBits_8 : decode cX3_sameFirstBits 8 = .ok (.iload_n 0, 1) := by decide +kernel
theorem dX3_sameFirstBits_9 : decode cX3_sameFirstBits 9 = .ok (.iload_n 2, 1) := by decide +kernel
theorem dX3_sameFirstBits_10 : decode cX3_sameFirstBits 10 = .ok (.invokestatic 83, 3) := by decide +kernel
theorem dX3_sameFirstBits_13 : decode cX3_sameFirstBits 13 = .ok (.iload_n 1, 1) := by decide +kernel
theorem dX3_sameFirstBits_14 : decode cX3_sameFirstBits 14 = .ok (.iload_n 2, 1) := by decide +kernel
theorem dX3_sameFirstBits_15 : decode cX3_sameFirstBits 15 = .ok (.invokestatic 83, 3) := by decide +kernel
theorem dX3_sameFirstBits_18 : decode cX3_sameFirstBits 18 = .ok (.if_icmp .ne 9, 3) := by decide +kernel
theorem dX3_sameFirstBits_21 : decode cX3_sameFirstBits 21 = .ok (.iinc 2 1, 3) := by decide +kernel
theorem dX3_sameFirstBits_24 : decode cX3_sameFirstBits 24 = .ok (.goto (-22), 3) := by decide +kernel
theorem dX3_sameFirstBits_27 : decode cX3_sameFirstBits 27 = .ok (.iload_n 2, 1) := by decide +kernel
theorem dX3_sameFirstBits_28 : decode cX3_sameFirstBits 28 = .ok (.ireturn, 1) := by decide +kernel
theorem dX3_countOf_0 : decode cX3_countOf 0 = .ok (.aload_n 0, 1) := by decide +kernel
theorem dX3_countOf_1 : decode cX3_countOf 1 = .ok (.ifnonnull 7, 3) := by decide +kernel
theorem dX3_countOf_4 : decode cX3_countOf 4 = .ok (.iconst 0, 1) := by decide +kernel
theorem dX3_countOf_5 : decode cX3_countOf 5 = .ok (.goto 7, 3) := by decide +kernel
theorem dX3_countOf_8 : decode cX3_countOf 8 = .ok (.aload_n 0, 1) := by decide +kernel
theorem dX3_countOf_9 : decode cX3_countOf 9 = .ok (.getfield 132, 3) := by decide +kernel
theorem dX3_countOf_12 : decode cX3_countOf 12 = .ok (.ireturn, 1) := by decide +kernel
theorem dX3_isEntry_0 : decode cX3_isEntry 0 = .ok (.aload_n 0, 1) := by decide +kernel
theorem dX3_isEntry_1 : decode cX3_isEntry 1 = .ok (.ifnull 23, 3) := by decide +kernel
theorem dX3_isEntry_4 : decode cX3_isEntry 4 = .ok (.aload_n 0, 1) := by decide +kernel
theorem dX3_isEntry_5 : decode cX3_isEntry 5 = .ok (.getfield 132, 3) := by decide +kernel
theorem dX3_isEntry_8 : decode cX3_isEntry 8 = .ok (.iconst 1, 1) := by decide +kernel
theorem dX3_isEntry_9 : decode cX3_isEntry 9 = .ok (.if_icmp .ne 15, 3) := by decide +kernel
theorem dX3_isEntry_12 : decode cX3_isEntry 12 = .ok (.aload_n 0, 1) := by decide +kernel
theorem dX3_isEntry_13 : decode cX3_isEntry 13 = .ok (.getfield 105, 3) := by decide +kernel
theorem dX3_isEntry_16 : decode cX3_isEntry 16 = .ok (.iload_n 1, 1) := by decide +kernel
theorem dX3_isEntry_17 : decode cX3_isEntry 17 = .ok (.if_icmp .ne 7, 3) := by decide +kernel
theorem dX3_isEntry_20 : decode cX3_isEntry 20 = .ok (.iconst 1, 1) := by decide +kernel
theorem dX3_isEntry_21 : decode cX3_isEntry 21 = .ok (.goto 4, 3) := by decide +kernel
theorem dX3_isEntry_24 : decode cX3_isEntry 24 = .ok (.iconst 0, 1) := by decide +kernel
theorem dX3_isEntry_25 : decode cX3_isEntry 25 = .ok (.ireturn, 1) := by decide +kernel
theorem dX3_half_0 : decode cX3_half 0 = .ok (.aload_n 0, 1) := by decide +kernel
theorem dX3_half_1 : decode cX3_half 1 = .ok (.ifnonnull 5, 3) := by decide +kernel
theorem dX3_half_4 : decode cX3_half 4 = .ok (.aconst_null, 1) := by decide +kernel
theorem dX3_half_5 : decode cX3_half 5 = .ok (.areturn, 1) := by decide +kernel
theorem dX3_half_6 : decode cX3_half 6 = .ok (.aload_n 0, 1) := by decide +kernel
theorem dX3_half_7 : decode cX3_half 7 = .ok (.getfield 132, 3) := by decide +kernel
theorem dX3_half_10 : decode cX3_half 10 = .ok (.iconst 1, 1) := by decide +kernel
theorem dX3_half_11 : decode cX3_half 11 = .ok (.if_icmp .ne 21, 3) := by decide +kernel
theorem dX3_half_14 : decode cX3_half 14 = .ok (.aload_n 0, 1) := by decide +kernel
theorem dX3_half_15 : decode cX3_half 15 = .ok (.getfield 105, 3) := by decide +kernel
theorem dX3_half_18 : decode cX3_half 18 = .ok (.iload_n 1, 1) := by decide +kernel
theorem dX3_half_19 : decode cX3_half 19 = .ok (.invokestatic 83, 3) := by decide +kernel
theorem dX3_half_22 : decode cX3_half 22 = .ok (.iload_n 2, 1) := by decide +kernel
theorem dX3_half_23 : decode cX3_half 23 = .ok (.if_icmp .ne 7, 3) := by decide +kernel
theorem dX3_half_26 : decode cX3_half 26 = .ok (.aload_n 0, 1) := by decide +kernel
theorem dX3_half_27 : decode cX3_half 27 = .ok (.goto 4, 3) := by decide +kernel
theorem dX3_half_30 : decode cX3_half 30 = .ok (.aconst_null, 1) := by decide +kernel
theorem dX3_half_31 : decode cX3_half 31 = .ok (.areturn, 1) := by decide +kernel
theorem dX3_half_32 : decode cX3_half 32 = .ok (.iload_n 2, 1) := by decide +kernel
theorem dX3_half_33 : decode cX3_half 33 = .ok (.ifCond .ne 10, 3) := by decide +kernel
theorem dX3_half_36 : decode cX3_half 36 = .ok (.aload_n 0, 1) := by decide +kernel
theorem dX3_half_37 : decode cX3_half 37 = .ok (.getfield 135, 3) := by decide +kernel
theorem dX3_half_40 : decode cX3_half 40 = .ok (.goto 7, 3) := by decide +kernel
theorem dX3_half_43 : decode cX3_half 43 = .ok (.aload_n 0, 1) := by decide +kernel
theorem dX3_half_44 : decode cX3_half 44 = .ok (.getfield 138, 3) := by decide +kernel
theorem dX3_half_47 : decode cX3_half 47 = .ok (.areturn, 1) := by decide +kernel
theorem dX3_endOf_0 : decode cX3_endOf 0 = .ok (.aload_n 0, 1) := by decide +kernel
theorem dX3_endOf_1 : decode cX3_endOf 1 = .ok (.astore_n 2, 1) := by decide +kernel
theorem dX3_endOf_2 : decode cX3_endOf 2 = .ok (.iconst 0, 1) := by decide +kernel
theorem dX3_endOf_3 : decode cX3_endOf 3 = .ok (.istore_n 3, 1) := by decide +kernel
theorem dX3_endOf_4 : decode cX3_endOf 4 = .ok (.iload_n 3, 1) := by decide +kernel
theorem dX3_endOf_5 : decode cX3_endOf 5 = .ok (.bipush 16, 2) := by decide +kernel
theorem dX3_endOf_7 : decode cX3_endOf 7 = .ok (.if_icmp .ge 28, 3) := by decide +kernel
theorem dX3_endOf_10 : decode cX3_endOf 10 = .ok (.aload_n 2, 1) := by decide +kernel
theorem dX3_endOf_11 : decode cX3_endOf 11 = .ok (.invokestatic 53, 3) := by decide +kernel
theorem dX3_endOf_14 : decode cX3_endOf 14 = .ok (.iconst 1, 1) := by decide +kernel
theorem dX3_endOf_15 : decode cX3_endOf 15 = .ok (.if_icmp .le 20, 3) := by decide +kernel
theorem dX3_endOf_18 : decode cX3_endOf 18 = .ok (.aload_n 2, 1) := by decide +kernel
theorem dX3_endOf_19 : decode cX3_endOf 19 = .ok (.iload_n 3, 1) := by decide +kernel
theorem dX3_endOf_20 : decode cX3_endOf 20 = .ok (.iload_n 1, 1) := by decide +kernel
theorem dX3_endOf_21 : decode cX3_endOf 21 = .ok (.iload_n 3, 1) := by decide +kernel
theorem dX3_endOf_22 : decode cX3_endOf 22 = .ok (.invokestatic 83, 3) := by decide +kernel
theorem dX3_endOf_25 : decode cX3_endOf 25 = .ok (.invokestatic 87, 3) := by decide +kernel
theorem dX3_endOf_28 : decode cX3_endOf 28 = .ok (.astore_n 2, 1) := by decide +kernel
theorem dX3_endOf_29 : decode cX3_endOf 29 = .ok (.iinc 3 1, 3) := by decide +kernel
theorem dX3_endOf_32 : decode cX3_endOf 32 = .ok (.goto (-28), 3) := by decide +kernel
theorem dX3_endOf_35 : decode cX3_endOf 35 = .ok (.aload_n 2, 1) := by decide +kernel
theorem dX3_endOf_36 : decode cX3_endOf 36 = .ok (.areturn, 1) := by decide +kernel
theorem dX3_replaced_0 : decode cX3_replaced 0 = .ok (.aload_n 0, 1) := by decide +kernel
theorem dX3_replaced_1 : decode cX3_replaced 1 = .ok (.ifnull 17, 3) := by decide +kernel
theorem dX3_replaced_4 : decode cX3_replaced 4 = .ok (.iload_n 1, 1) := by decide +kernel
theorem dX3_replaced_5 : decode cX3_replaced 5 = .ok (.bipush 16, 2) := by decide +kernel
theorem dX3_replaced_7 : decode cX3_replaced 7 = .ok (.if_icmp .ge 11, 3) := by decide +kernel
theorem dX3_replaced_10 : decode cX3_replaced 10 = .ok (.aload_n 0, 1) := by decide +kernel
theorem dX3_replaced_11 : decode cX3_replaced 11 = .ok (.iload_n 2, 1) := by decide +kernel
theorem dX3_replaced_12 : decode cX3_replaced 12 = .ok (.invokestatic 49, 3) := by decide +kernel
theorem dX3_replaced_15 : decode cX3_replaced 15 = .ok (.ifCond .eq 5, 3) := by decide +kernel
theorem dX3_replaced_18 : decode cX3_replaced 18 = .ok (.aload_n 3, 1) := by decide +kernel
theorem dX3_replaced_19 : decode cX3_replaced 19 = .ok (.areturn, 1) := by decide +kernel
theorem dX3_replaced_20 : decode cX3_replaced 20 = .ok (.iload_n 2, 1) := by decide +kernel
theorem dX3_replaced_21 : decode cX3_replaced 21 = .ok (.iload_n 1, 1) := by decide +kernel
theorem dX3_replaced_22 : decode cX3_replaced 22 = .ok (.invokestatic 83, 3) := by decide +kernel
theorem dX3_replaced_25 : decode cX3_replaced 25 = .ok (.istore 4, 2) := by decide +kernel
theorem dX3_replaced_27 : decode cX3_replaced 27 = .ok (.aload_n 0, 1) := by decide +kernel
theorem dX3_replaced_28 : decode cX3_replaced 28 = .ok (.iload_n 1, 1) := by decide +kernel
theorem dX3_replaced_29 : decode cX3_replaced 29 = .ok (.iload 4, 2) := by decide +kernel
theorem dX3_replaced_31 : decode cX3_replaced 31 = .ok (.invokestatic 87, 3) := by decide +kernel
theorem dX3_replaced_34 : decode cX3_replaced 34 = .ok (.iload_n 1, 1) := by decide +kernel
theorem dX3_replaced_35 : decode cX3_replaced 35 = .ok (.iconst 1, 1) := by decide +kernel
theorem dX3_replaced_36 : decode cX3_replaced 36 = .ok (.iadd, 1) := by decide +kernel
theorem dX3_replaced_37 : decode cX3_replaced 37 = .ok (.iload_n 2, 1) := by decide +kernel
theorem dX3_replaced_38 : decode cX3_replaced 38 = .ok (.aload_n 3, 1) := by decide +kernel
theorem dX3_replaced_39 : decode cX3_replaced 39 = .ok (.invokestatic 60, 3) := by decide +kernel
theorem dX3_replaced_42 : decode cX3_replaced 42 = .ok (.astore 5, 2) := by decide +kernel
theorem dX3_replaced_44 : decode cX3_replaced 44 = .ok (.aload_n 0, 1) := by decide +kernel
theorem dX3_replaced_45 : decode cX3_replaced 45 = .ok (.iload_n 1, 1) := by decide +kernel
theorem dX3_replaced_46 : decode cX3_replaced 46 = .ok (.iconst 1, 1) := by decide +kernel
theorem dX3_replaced_47 : decode cX3_replaced 47 = .ok (.iload 4, 2) := by decide +kernel
theorem dX3_replaced_49 : decode cX3_replaced 49 = .ok (.isub, 1) := by decide +kernel
theorem dX3_replaced_50 : decode cX3_replaced 50 = .ok (.invokestatic 87, 3) := by decide +kernel
theorem dX3_replaced_53 : decode cX3_replaced 53 = .ok (.astore 6, 2) := by decide +kernel
theorem dX3_replaced_55 : decode cX3_replaced 55 = .ok (.iload 4, 2) := by decide +kernel
theorem dX3_replaced_57 : decode cX3_replaced 57 = .ok (.ifCond .ne 13, 3) := by decide +kernel
theorem dX3_replaced_60 : decode cX3_replaced 60 = .ok (.aload 5, 2) := by decide +kernel
theorem dX3_replaced_62 : decode cX3_replaced 62 = .ok (.aload 6, 2) := by decide +kernel
theorem dX3_replaced_64 : decode cX3_replaced 64 = .ok (.invokestatic 141, 3) := by decide +kernel
theorem dX3_replaced_67 : decode cX3_replaced 67 = .ok (.goto 10, 3) := by decide +kernel
theorem dX3_replaced_70 : decode cX3_replaced 70 = .ok (.aload 6, 2) := by decide +kernel
theorem dX3_replaced_72 : decode cX3_replaced 72 = .ok (.aload 5, 2) := by decide +kernel
theorem dX3_replaced_74 : decode cX3_replaced 74 = .ok (.invokestatic 141, 3) := by decide +kernel
theorem dX3_replaced_77 : decode cX3_replaced 77 = .ok (.areturn, 1) := by decide +kernel
theorem dX3_joined_0 : decode cX3_joined 0 = .ok (.aload_n 0, 1) := by decide +kernel
theorem dX3_joined_1 : decode cX3_joined 1 = .ok (.invokestatic 53, 3) := by decide +kernel
theorem dX3_joined_4 : decode cX3_joined 4 = .ok (.aload_n 1, 1) := by decide +kernel
theorem dX3_joined_5 : decode cX3_joined 5 = .ok (.invokestatic 53, 3) := by decide +kernel
theorem dX3_joined_8 : decode cX3_joined 8 = .ok (.iadd, 1) := by decide +kernel
theorem dX3_joined_9 : decode cX3_joined 9 = .ok (.iconst 1, 1) := by decide +kernel
theorem dX3_joined_10 : decode cX3_joined 10 = .ok (.if_icmp .le 13, 3) := by decide +kernel
theorem dX3_joined_13 : decode cX3_joined 13 = .ok (.new 9, 3) := by decide +kernel
theorem dX3_joined_16 : decode cX3_joined 16 = .ok (.dup, 1) := by decide +kernel
theorem dX3_joined_17 : decode cX3_joined 17 = .ok (.aload_n 0, 1) := by decide +kernel
theorem dX3_joined_18 : decode cX3_joined 18 = .ok (.aload_n 1, 1) := by decide +kernel
theorem dX3_joined_19 : decode cX3_joined 19 = .ok (.invokespecial 145, 3) := by decide +kernel
theorem dX3_joined_22 : decode cX3_joined 22 = .ok (.areturn, 1) := by decide +kernel
theorem dX3_joined_23 : decode cX3_joined 23 = .ok (.aload_n 0, 1) := by decide +kernel
theorem dX3_joined_24 : decode cX3_joined 24 = .ok (.ifnonnull 7, 3) := by decide +kernel
theorem dX3_joined_27 : decode cX3_joined 27 = .ok (.aload_n 1, 1) := by decide +kernel
theorem dX3_joined_28 : decode cX3_joined 28 = .ok (.goto 4, 3) := by decide +kernel
theorem dX3_joined_31 : decode cX3_joined 31 = .ok (.aload_n 0, 1) := by decide +kernel
theorem dX3_joined_32 : decode cX3_joined 32 = .ok (.areturn, 1) := by decide +kernel
theorem dX3_digestOf_0 : decode cX3_digestOf 0 = .ok (.aload_n 0, 1) := by decide +kernel
theorem dX3_digestOf_1 : decode cX3_digestOf 1 = .ok (.ifnull 9, 3) := by decide +kernel
theorem dX3_digestOf_4 : decode cX3_digestOf 4 = .ok (.iload_n 1, 1) := by decide +kernel
theorem dX3_digestOf_5 : decode cX3_digestOf 5 = .ok (.bipush 16, 2) := by decide +kernel
theorem dX3_digestOf_7 : decode cX3_digestOf 7 = .ok (.if_icmp .le 8, 3) := by decide +kernel
theorem dX3_digestOf_10 : decode cX3_digestOf 10 = .ok (.aload_n 2, 1) := by decide +kernel
theorem dX3_digestOf_11 : decode cX3_digestOf 11 = .ok (.getfield 148, 3) := by decide +kernel
theorem dX3_digestOf_14 : decode cX3_digestOf 14 = .ok (.areturn, 1) := by decide +kernel
theorem dX3_digestOf_15 : decode cX3_digestOf 15 = .ok (.aload_n 0, 1) := by decide +kernel
theorem dX3_digestOf_16 : decode cX3_digestOf 16 = .ok (.getfield 151, 3) := by decide +kernel
theorem dX3_digestOf_19 : decode cX3_digestOf 19 = .ok (.ifnonnull 72, 3) := by decide +kernel
theorem dX3_digestOf_22 : decode cX3_digestOf 22 = .ok (.bipush 8, 2) := by decide +kernel
theorem dX3_digestOf_24 : decode cX3_digestOf 24 = .ok (.newarray .int, 2) := by decide +kernel
theorem dX3_digestOf_26 : decode cX3_digestOf 26 = .ok (.astore_n 3, 1) := by decide +kernel
theorem dX3_digestOf_27 : decode cX3_digestOf 27 = .ok (.aload_n 0, 1) := by decide +kernel
theorem dX3_digestOf_28 : decode cX3_digestOf 28 = .ok (.getfield 132, 3) := by decide +kernel
theorem dX3_digestOf_31 : decode cX3_digestOf 31 = .ok (.iconst 1, 1) := by decide +kernel
theorem dX3_digestOf_32 : decode cX3_digestOf 32 = .ok (.if_icmp .ne 19, 3) := by decide +kernel
theorem dX3_digestOf_35 : decode cX3_digestOf 35 = .ok (.aload_n 2, 1) := by decide +kernel
theorem dX3_digestOf_36 : decode cX3_digestOf 36 = .ok (.aload_n 0, 1) := by decide +kernel
theorem dX3_digestOf_37 : decode cX3_digestOf 37 = .ok (.getfield 105, 3) := by decide +kernel
theorem dX3_digestOf_40 : decode cX3_digestOf 40 = .ok (.aload_n 0, 1) := by decide +kernel
theorem dX3_digestOf_41 : decode cX3_digestOf 41 = .ok (.getfield 73, 3) := by decide +kernel
theorem dX3_digestOf_44 : decode cX3_digestOf 44 = .ok (.aload_n 3, 1) := by decide +kernel
theorem dX3_digestOf_45 : decode cX3_digestOf 45 = .ok (.invokevirtual 154, 3) := by decide +kernel
theorem dX3_digestOf_48 : decode cX3_digestOf 48 = .ok (.goto 38, 3) := by decide +kernel
theorem dX3_digestOf_51 : decode cX3_digestOf 51 = .ok (.aload_n 0, 1) := by decide +kernel
theorem dX3_digestOf_52 : decode cX3_digestOf 52 = .ok (.getfield 135, 3) := by decide +kernel
theorem dX3_digestOf_55 : decode cX3_digestOf 55 = .ok (.iload_n 1, 1) := by decide +kernel
theorem dX3_digestOf_56 : decode cX3_digestOf 56 = .ok (.iconst 1, 1) := by decide +kernel
theorem dX3_digestOf_57 : decode cX3_digestOf 57 = .ok (.iadd, 1) := by decide +kernel
theorem dX3_digestOf_58 : decode cX3_digestOf 58 = .ok (.aload_n 2, 1) := by decide +kernel
theorem dX3_digestOf_59 : decode cX3_digestOf 59 = .ok (.invokestatic 79, 3) := by decide +kernel
theorem dX3_digestOf_62 : decode cX3_digestOf 62 = .ok (.astore 4, 2) := by decide +kernel
theorem dX3_digestOf_64 : decode cX3_digestOf 64 = .ok (.aload_n 0, 1) := by decide +kernel
theorem dX3_digestOf_65 : decode cX3_digestOf 65 = .ok (.getfield 138, 3) := by decide +kernel
theorem dX3_digestOf_68 : decode cX3_digestOf 68 = .ok (.iload_n 1, 1) := by decide +kernel
theorem dX3_digestOf_69 : decode cX3_digestOf 69 = .ok (.iconst 1, 1) := by decide +kernel
theorem dX3_digestOf_70 : decode cX3_digestOf 70 = .ok (.iadd, 1) := by decide +kernel
theorem dX3_digestOf_71 : decode cX3_digestOf 71 = .ok (.aload_n 2, 1) := by decide +kernel
theorem dX3_digestOf_72 : decode cX3_digestOf 72 = .ok (.invokestatic 79, 3) := by decide +kernel
theorem dX3_digestOf_75 : decode cX3_digestOf 75 = .ok (.astore 5, 2) := by decide +kernel
theorem dX3_digestOf_77 : decode cX3_digestOf 77 = .ok (.aload_n 2, 1) := by decide +kernel
theorem dX3_digestOf_78 : decode cX3_digestOf 78 = .ok (.aload 4, 2) := by decide +kernel
theorem dX3_digestOf_80 : decode cX3_digestOf 80 = .ok (.aload 5, 2) := by decide +kernel
theorem dX3_digestOf_82 : decode cX3_digestOf 82 = .ok (.aload_n 3, 1) := by decide +kernel
theorem dX3_digestOf_83 : decode cX3_digestOf 83 = .ok (.invokevirtual 158, 3) := by decide +kernel
theorem dX3_digestOf_86 : decode cX3_digestOf 86 = .ok (.aload_n 0, 1) := by decide +kernel
theorem dX3_digestOf_87 : decode cX3_digestOf 87 = .ok (.aload_n 3, 1) := by decide +kernel
theorem dX3_digestOf_88 : decode cX3_digestOf 88 = .ok (.putfield 151, 3) := by decide +kernel
theorem dX3_digestOf_91 : decode cX3_digestOf 91 = .ok (.aload_n 0, 1) := by decide +kernel
theorem dX3_digestOf_92 : decode cX3_digestOf 92 = .ok (.getfield 151, 3) := by decide +kernel
theorem dX3_digestOf_95 : decode cX3_digestOf 95 = .ok (.areturn, 1) := by decide +kernel
theorem dX3_foldProof_0 : decode cX3_foldProof 0 = .ok (.aload_n 0, 1) := by decide +kernel
theorem dX3_foldProof_1 : decode cX3_foldProof 1 = .ok (.getfield 26, 3) := by decide +kernel
theorem dX3_foldProof_4 : decode cX3_foldProof 4 = .ok (.getfield 114, 3) := by decide +kernel
theorem dX3_foldProof_7 : decode cX3_foldProof 7 = .ok (.ifCond .eq 31, 3) := by decide +kernel
theorem dX3_foldProof_10 : decode cX3_foldProof 10 = .ok (.aload_n 0, 1) := by decide +kernel
theorem dX3_foldProof_11 : decode cX3_foldProof 11 = .ok (.getfield 33, 3) := by decide +kernel
theorem dX3_foldProof_14 : decode cX3_foldProof 14 = .ok (.aload_n 0, 1) := by decide +kernel
theorem dX3_foldProof_15 : decode cX3_foldProof 15 = .ok (.getfield 26, 3) := by decide +kernel
theorem dX3_foldProof_18 : decode cX3_foldProof 18 = .ok (.getfield 118, 3) := by decide +kernel
theorem dX3_foldProof_21 : decode cX3_foldProof 21 = .ok (.aload_n 0, 1) := by decide +kernel
theorem dX3_foldProof_22 : decode cX3_foldProof 22 = .ok (.getfield 26, 3) := by decide +kernel
theorem dX3_foldProof_25 : decode cX3_foldProof 25 = .ok (.getfield 119, 3) := by decide +kernel
theorem dX3_foldProof_28 : decode cX3_foldProof 28 = .ok (.aload_n 0, 1) := by decide +kernel
theorem dX3_foldProof_29 : decode cX3_foldProof 29 = .ok (.getfield 37, 3) := by decide +kernel
theorem dX3_foldProof_32 : decode cX3_foldProof 32 = .ok (.invokevirtual 154, 3) := by decide +kernel
theorem dX3_foldProof_35 : decode cX3_foldProof 35 = .ok (.goto 17, 3) := by decide +kernel
theorem dX3_foldProof_38 : decode cX3_foldProof 38 = .ok (.aload_n 0, 1) := by decide +kernel
theorem dX3_foldProof_39 : decode cX3_foldProof 39 = .ok (.getfield 33, 3) := by decide +kernel
theorem dX3_foldProof_42 : decode cX3_foldProof 42 = .ok (.getfield 148, 3) := by decide +kernel
theorem dX3_foldProof_45 : decode cX3_foldProof 45 = .ok (.aload_n 0, 1) := by decide +kernel
theorem dX3_foldProof_46 : decode cX3_foldProof 46 = .ok (.getfield 37, 3) := by decide +kernel
theorem dX3_foldProof_49 : decode cX3_foldProof 49 = .ok (.invokestatic 95, 3) := by decide +kernel
theorem dX3_foldProof_52 : decode cX3_foldProof 52 = .ok (.aload_n 0, 1) := by decide +kernel
theorem dX3_foldProof_53 : decode cX3_foldProof 53 = .ok (.getfield 26, 3) := by decide +kernel
theorem dX3_foldProof_56 : decode cX3_foldProof 56 = .ok (.getfield 99, 3) := by decide +kernel
theorem dX3_foldProof_59 : decode cX3_foldProof 59 = .ok (.bipush 16, 2) := by decide +kernel
theorem dX3_foldProof_61 : decode cX3_foldProof 61 = .ok (.invokestatic 162, 3) := by decide +kernel
theorem dX3_foldProof_64 : decode cX3_foldProof 64 = .ok (.iconst 1, 1) := by decide +kernel
theorem dX3_foldProof_65 : decode cX3_foldProof 65 = .ok (.isub, 1) := by decide +kernel
theorem dX3_foldProof_66 : decode cX3_foldProof 66 = .ok (.istore_n 2, 1) := by decide +kernel
theorem dX3_foldProof_67 : decode cX3_foldProof 67 = .ok (.iload_n 2, 1) := by decide +kernel
theorem dX3_foldProof_68 : decode cX3_foldProof 68 = .ok (.ifCond .lt 68, 3) := by decide +kernel
theorem dX3_foldProof_71 : decode cX3_foldProof 71 = .ok (.iload_n 1, 1) := by decide +kernel
theorem dX3_foldProof_72 : decode cX3_foldProof 72 = .ok (.iload_n 2, 1) := by decide +kernel
theorem dX3_foldProof_73 : decode cX3_foldProof 73 = .ok (.invokestatic 83, 3) := by decide +kernel
theorem dX3_foldProof_76 : decode cX3_foldProof 76 = .ok (.ifCond .ne 30, 3) := by decide +kernel
theorem dX3_foldProof_79 : decode cX3_foldProof 79 = .ok (.aload_n 0, 1) := by decide +kernel
theorem dX3_foldProof_80 : decode cX3_foldProof 80 = .ok (.getfield 33, 3) := by decide +kernel
theorem dX3_foldProof_83 : decode cX3_foldProof 83 = .ok (.aload_n 0, 1) := by decide +kernel
theorem dX3_foldProof_84 : decode cX3_foldProof 84 = .ok (.getfield 37, 3) := by decide +kernel
theorem dX3_foldProof_87 : decode cX3_foldProof 87 = .ok (.aload_n 0, 1) := by decide +kernel
theorem dX3_foldProof_88 : decode cX3_foldProof 88 = .ok (.getfield 26, 3) := by decide +kernel
theorem dX3_foldProof_91 : decode cX3_foldProof 91 = .ok (.getfield 91, 3) := by decide +kernel
theorem dX3_foldProof_94 : decode cX3_foldProof 94 = .ok (.iload_n 2, 1) := by decide +kernel
theorem dX3_foldProof_95 : decode cX3_foldProof 95 = .ok (.aaload, 1) := by decide +kernel
theorem dX3_foldProof_96 : decode cX3_foldProof 96 = .ok (.aload_n 0, 1) := by decide +kernel
theorem dX3_foldProof_97 : decode cX3_foldProof 97 = .ok (.getfield 37, 3) := by decide +kernel
theorem dX3_foldProof_100 : decode cX3_foldProof 100 = .ok (.invokevirtual 158, 3) := by decide +kernel
theorem dX3_foldProof_103 : decode cX3_foldProof 103 = .ok (.goto 27, 3) := by decide +kernel
theorem dX3_foldProof_106 : decode cX3_foldProof 106 = .ok (.aload_n 0, 1) := by decide +kernel
theorem dX3_foldProof_107 : decode cX3_foldProof 107 = .ok (.getfield 33, 3) := by decide +kernel
theorem dX3_foldProof_110 : decode cX3_foldProof 110 = .ok (.aload_n 0, 1) := by decide +kernel
theorem dX3_foldProof_111 : decode cX3_foldProof 111 = .ok (.getfield 26, 3) := by decide +kernel
theorem dX3_foldProof_114 : decode cX3_foldProof 114 = .ok (.getfield 91, 3) := by decide +kernel
theorem dX3_foldProof_117 : decode cX3_foldProof 117 = .ok (.iload_n 2, 1) := by decide +kernel
theorem dX3_foldProof_118 : decode cX3_foldProof 118 = .ok (.aaload, 1) := by decide +kernel
theorem dX3_foldProof_119 : decode cX3_foldProof 119 = .ok (.aload_n 0, 1) := by decide +kernel
theorem dX3_foldProof_120 : decode cX3_foldProof 120 = .ok (.getfield 37, 3) := by decide +kernel
theorem dX3_foldProof_123 : decode cX3_foldProof 123 = .ok (.aload_n 0, 1) := by decide +kernel
theorem dX3_foldProof_124 : decode cX3_foldProof 124 = .ok (.getfield 37, 3) := by decide +kernel
theorem dX3_foldProof_127 : decode cX3_foldProof 127 = .ok (.invokevirtual 158, 3) := by decide +kernel
theorem dX3_foldProof_130 : decode cX3_foldProof 130 = .ok (.iinc 2 (-1), 3) := by decide +kernel
theorem dX3_foldProof_133 : decode cX3_foldProof 133 = .ok (.goto (-66), 3) := by decide +kernel
theorem dX3_foldProof_136 : decode cX3_foldProof 136 = .ok (.return_, 1) := by decide +kernel
theorem dX3_copyWords_0 : decode cX3_copyWords 0 = .ok (.iconst 0, 1) := by decide +kernel
theorem dX3_copyWords_1 : decode cX3_copyWords 1 = .ok (.istore_n 2, 1) := by decide +kernel
theorem dX3_copyWords_2 : decode cX3_copyWords 2 = .ok (.iload_n 2, 1) := by decide +kernel
theorem dX3_copyWords_3 : decode cX3_copyWords 3 = .ok (.bipush 8, 2) := by decide +kernel
theorem dX3_copyWords_5 : decode cX3_copyWords 5 = .ok (.if_icmp .ge 15, 3) := by decide +kernel
theorem dX3_copyWords_8 : decode cX3_copyWords 8 = .ok (.aload_n 1, 1) := by decide +kernel
theorem dX3_copyWords_9 : decode cX3_copyWords 9 = .ok (.iload_n 2, 1) := by decide +kernel
theorem dX3_copyWords_10 : decode cX3_copyWords 10 = .ok (.aload_n 0, 1) := by decide +kernel
theorem dX3_copyWords_11 : decode cX3_copyWords 11 = .ok (.iload_n 2, 1) := by decide +kernel
theorem dX3_copyWords_12 : decode cX3_copyWords 12 = .ok (.iaload, 1) := by decide +kernel
theorem dX3_copyWords_13 : decode cX3_copyWords 13 = .ok (.iastore, 1) := by decide +kernel
theorem dX3_copyWords_14 : decode cX3_copyWords 14 = .ok (.iinc 2 1, 3) := by decide +kernel
theorem dX3_copyWords_17 : decode cX3_copyWords 17 = .ok (.goto (-15), 3) := by decide +kernel
theorem dX3_copyWords_20 : decode cX3_copyWords 20 = .ok (.return_, 1) := by decide +kernel
theorem dX3_sameWords_0 : decode cX3_sameWords 0 = .ok (.iconst 0, 1) := by decide +kernel
theorem dX3_sameWords_1 : decode cX3_sameWords 1 = .ok (.istore_n 2, 1) := by decide +kernel
theorem dX3_sameWords_2 : decode cX3_sameWords 2 = .ok (.iload_n 2, 1) := by decide +kernel
theorem dX3_sameWords_3 : decode cX3_sameWords 3 = .ok (.bipush 8, 2) := by decide +kernel
theorem dX3_sameWords_5 : decode cX3_sameWords 5 = .ok (.if_icmp .ge 20, 3) := by decide +kernel
theorem dX3_sameWords_8 : decode cX3_sameWords 8 = .ok (.aload_n 0, 1) := by decide +kernel
theorem dX3_sameWords_9 : decode cX3_sameWords 9 = .ok (.iload_n 2, 1) := by decide +kernel
theorem dX3_sameWords_10 : decode cX3_sameWords 10 = .ok (.iaload, 1) := by decide +kernel
theorem dX3_sameWords_11 : decode cX3_sameWords 11 = .ok (.aload_n 1, 1) := by decide +kernel
theorem dX3_sameWords_12 : decode cX3_sameWords 12 = .ok (.iload_n 2, 1) := by decide +kernel
theorem dX3_sameWords_13 : decode cX3_sameWords 13 = .ok (.iaload, 1) := by decide +kernel
theorem dX3_sameWords_14 : decode cX3_sameWords 14 = .ok (.if_icmp .eq 5, 3) := by decide +kernel
theorem dX3_sameWords_17 : decode cX3_sameWords 17 = .ok (.iconst 0, 1) := by decide +kernel
theorem dX3_sameWords_18 : decode cX3_sameWords 18 = .ok (.ireturn, 1) := by decide +kernel
theorem dX3_sameWords_19 : decode cX3_sameWords 19 = .ok (.iinc 2 1, 3) := by decide +kernel
theorem dX3_sameWords_22 : decode cX3_sameWords 22 = .ok (.goto (-20), 3) := by decide +kernel
theorem dX3_sameWords_25 : decode cX3_sameWords 25 = .ok (.iconst 1, 1) := by decide +kernel
theorem dX3_sameWords_26 : decode cX3_sameWords 26 = .ok (.ireturn, 1) := by decide +kernel
theorem dX4_init_0 : decode cX4_init 0 = .ok (.aload_n 0, 1) := by decide +kernel
theorem dX4_init_1 : decode cX4_init 1 = .ok (.invokespecial 1, 3) := by decide +kernel
theorem dX4_init_4 : decode cX4_init 4 = .ok (.aload_n 0, 1) := by decide +kernel
theorem dX4_init_5 : decode cX4_init 5 = .ok (.bipush 64, 2) := by decide +kernel
theorem dX4_init_7 : decode cX4_init 7 = .ok (.newarray .int, 2) := by decide +kernel
theorem dX4_init_9 : decode cX4_init 9 = .ok (.dup, 1) := by decide +kernel
theorem dX4_init_10 : decode cX4_init 10 = .ok (.iconst 0, 1) := by decide +kernel
theorem dX4_init_11 : decode cX4_init 11 = .ok (.ldc 7, 2) := by decide +kernel
theorem dX4_init_13 : decode cX4_init 13 = .ok (.iastore, 1) := by decide +kernel
theorem dX4_init_14 : decode cX4_init 14 = .ok (.dup, 1) := by decide +kernel
theorem dX4_init_15 : decode cX4_init 15 = .ok (.iconst 1, 1) := by decide +kernel
theorem dX4_init_16 : decode cX4_init 16 = .ok (.ldc 8, 2) := by decide +kernel
theorem dX4_init_18 : decode cX4_init 18 = .ok (.iastore, 1) := by decide +kernel
theorem dX4_init_19 : decode cX4_init 19 = .ok (.dup, 1) := by decide +kernel
theorem dX4_init_20 : decode cX4_init 20 = .ok (.iconst 2, 1) := by decide +kernel
theorem dX4_init_21 : decode cX4_init 21 = .ok (.ldc 9, 2) := by decide +kernel
theorem dX4_init_23 : decode cX4_init 23 = .ok (.iastore, 1) := by decide +kernel
theorem dX4_init_24 : decode cX4_init 24 = .ok (.dup, 1) := by decide +kernel
theorem dX4_init_25 : decode cX4_init 25 = .ok (.iconst 3, 1) := by decide +kernel
theorem dX4_init_26 : decode cX4_init 26 = .ok (.ldc 10, 2) := by decide +kernel
theorem dX4_init_28 : decode cX4_init 28 = .ok (.iastore, 1) := by decide +kernel
theorem dX4_init_29 : decode cX4_init 29 = .ok (.dup, 1) := by decide +kernel
theorem dX4_init_30 : decode cX4_init 30 = .ok (.iconst 4, 1) := by decide +kernel
theorem dX4_init_31 : decode cX4_init 31 = .ok (.ldc 11, 2) := by decide +kernel
theorem dX4_init_33 : decode cX4_init 33 = .ok (.iastore, 1) := by decide +kernel
theorem dX4_init_34 : decode cX4_init 34 = .ok (.dup, 1) := by decide +kernel
theorem dX4_init_35 : decode cX4_init 35 = .ok (.iconst 5, 1) := by decide +kernel
theorem dX4_init_36 : decode cX4_init 36 = .ok (.ldc 12, 2) := by decide +kernel
theorem dX4_init_38 : decode cX4_init 38 = .ok (.iastore, 1) := by decide +kernel
theorem dX4_init_39 : decode cX4_init 39 = .ok (.dup, 1) := by decide +kernel
theorem dX4_init_40 : decode cX4_init 40 = .ok (.bipush 6, 2) := by decide +kernel
theorem dX4_init_42 : decode cX4_init 42 = .ok (.ldc 13, 2) := by decide +kernel
theorem dX4_init_44 : decode cX4_init 44 = .ok (.iastore, 1) := by decide +kernel
theorem dX4_init_45 : decode cX4_init 45 = .ok (.dup, 1) := by decide +kernel
theorem dX4_init_46 : decode cX4_init 46 = .ok (.bipush 7, 2) := by decide +kernel
theorem dX4_init_48 : decode cX4_init 48 = .ok (.ldc 14, 2) := by decide +kernel
theorem dX4_init_50 : decode cX4_init 50 = .ok (.iastore, 1) := by decide +kernel
theorem dX4_init_51 : decode cX4_init 51 = .ok (.dup, 1) := by decide +kernel
theorem dX4_init_52 : decode cX4_init 52 = .ok (.bipush 8, 2) := by decide +kernel
theorem dX4_init_54 : decode cX4_init 54 = .ok (.ldc 15, 2) := by decide +kernel
theorem dX4_init_56 : decode cX4_init 56 = .ok (.iastore, 1) := by decide +kernel
theorem dX4_init_57 : decode cX4_init 57 = .ok (.dup, 1) := by decide +kernel
theorem dX4_init_58 : decode cX4_init 58 = .ok (.bipush 9, 2) := by decide +kernel
theorem dX4_init_60 : decode cX4_init 60 = .ok (.ldc 16, 2) := by decide +kernel
theorem dX4_init_62 : decode cX4_init 62 = .ok (.iastore, 1) := by decide +kernel
theorem dX4_init_63 : decode cX4_init 63 = .ok (.dup, 1) := by decide +kernel
theorem dX4_init_64 : decode cX4_init 64 = .ok (.bipush 10, 2) := by decide +kernel
theorem dX4_init_66 : decode cX4_init 66 = .ok (.ldc 17, 2) := by decide +kernel
theorem dX4_init_68 : decode cX4_init 68 = .ok (.iastore, 1) := by decide +kernel
theorem dX4_init_69 : decode cX4_init 69 = .ok (.dup, 1) := by decide +kernel
theorem dX4_init_70 : decode cX4_init 70 = .ok (.bipush 11, 2) := by decide +kernel
theorem dX4_init_72 : decode cX4_init 72 = .ok (.ldc 18, 2) := by decide +kernel
theorem dX4_init_74 : decode cX4_init 74 = .ok (.iastore, 1) := by decide +kernel
theorem dX4_init_75 : decode cX4_init 75 = .ok (.dup, 1) := by decide +kernel
theorem dX4_init_76 : decode cX4_init 76 = .ok (.bipush 12, 2) := by decide +kernel
theorem dX4_init_78 : decode cX4_init 78 = .ok (.ldc 19, 2) := by decide +kernel
theorem dX4_init_80 : decode cX4_init 80 = .ok (.iastore, 1) := by decide +kernel
theorem dX4_init_81 : decode cX4_init 81 = .ok (.dup, 1) := by decide +kernel
theorem dX4_init_82 : decode cX4_init 82 = .ok (.bipush 13, 2) := by decide +kernel
theorem dX4_init_84 : decode cX4_init 84 = .ok (.ldc 20, 2) := by decide +kernel
theorem dX4_init_86 : decode cX4_init 86 = .ok (.iastore, 1) := by decide +kernel
theorem dX4_init_87 : decode cX4_init 87 = .ok (.dup, 1) := by decide +kernel
theorem dX4_init_88 : decode cX4_init 88 = .ok (.bipush 14, 2) := by decide +kernel
theorem dX4_init_90 : decode cX4_init 90 = .ok (.ldc 21, 2) := by decide +kernel
theorem dX4_init_92 : decode cX4_init 92 = .ok (.iastore, 1) := by decide +kernel
theorem dX4_init_93 : decode cX4_init 93 = .ok (.dup, 1) := by decide +kernel
theorem dX4_init_94 : decode cX4_init 94 = .ok (.bipush 15, 2) := by decide +kernel
theorem dX4_init_96 : decode cX4_init 96 = .ok (.ldc 22, 2) := by decide +kernel
theorem dX4_init_98 : decode cX4_init 98 = .ok (.iastore, 1) := by decide +kernel
theorem dX4_init_99 : decode cX4_init 99 = .ok (.dup, 1) := by decide +kernel
theorem dX4_init_100 : decode cX4_init 100 = .ok (.bipush 16, 2) := by decide +kernel
theorem dX4_init_102 : decode cX4_init 102 = .ok (.ldc 23, 2) := by decide +kernel
theorem dX4_init_104 : decode cX4_init 104 = .ok (.iastore, 1) := by decide +kernel
theorem dX4_init_105 : decode cX4_init 105 = .ok (.dup, 1) := by decide +kernel
theorem dX4_init_106 : decode cX4_init 106 = .ok (.bipush 17, 2) := by decide +kernel
theorem dX4_init_108 : decode cX4_init 108 = .ok (.ldc 24, 2) := by decide +kernel
theorem dX4_init_110 : decode cX4_init 110 = .ok (.iastore, 1) := by decide +kernel
theorem dX4_init_111 : decode cX4_init 111 = .ok (.dup, 1) := by decide +kernel
theorem dX4_init_112 : decode cX4_init 112 = .ok (.bipush 18, 2) := by decide +kernel
theorem dX4_init_114 : decode cX4_init 114 = .ok (.ldc 25, 2) := by decide +kernel
theorem dX4_init_116 : decode cX4_init 116 = .ok (.iastore, 1) := by decide +kernel
