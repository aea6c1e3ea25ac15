theorem dX7_init_0 : decode cX7_init 0 = .ok (.aload_n 0, 1) := by decide +kernel
theorem dX7_init_1 : decode cX7_init 1 = .ok (.invokespecial 1, 3) := by decide +kernel
theorem dX7_init_4 : decode cX7_init 4 = .ok (.aload_n 0, 1) := by decide +kernel
theorem dX7_init_5 : decode cX7_init 5 = .ok (.sipush 241, 3) := by decide +kernel
theorem dX7_init_8 : decode cX7_init 8 = .ok (.newarray .int, 2) := by decide +kernel
theorem dX7_init_10 : decode cX7_init 10 = .ok (.putfield 7, 3) := by decide +kernel
theorem dX7_init_13 : decode cX7_init 13 = .ok (.aload_n 0, 1) := by decide +kernel
theorem dX7_init_14 : decode cX7_init 14 = .ok (.sipush 241, 3) := by decide +kernel
theorem dX7_init_17 : decode cX7_init 17 = .ok (.newarray .int, 2) := by decide +kernel
theorem dX7_init_19 : decode cX7_init 19 = .ok (.putfield 13, 3) := by decide +kernel
theorem dX7_init_22 : decode cX7_init 22 = .ok (.aload_n 0, 1) := by decide +kernel
theorem dX7_init_23 : decode cX7_init 23 = .ok (.sipush 964, 3) := by decide +kernel
theorem dX7_init_26 : decode cX7_init 26 = .ok (.newarray .int, 2) := by decide +kernel
theorem dX7_init_28 : decode cX7_init 28 = .ok (.putfield 16, 3) := by decide +kernel
theorem dX7_init_31 : decode cX7_init 31 = .ok (.aload_n 0, 1) := by decide +kernel
theorem dX7_init_32 : decode cX7_init 32 = .ok (.sipush 150, 3) := by decide +kernel
theorem dX7_init_35 : decode cX7_init 35 = .ok (.newarray .int, 2) := by decide +kernel
theorem dX7_init_37 : decode cX7_init 37 = .ok (.putfield 19, 3) := by decide +kernel
theorem dX7_init_40 : decode cX7_init 40 = .ok (.aload_n 0, 1) := by decide +kernel
theorem dX7_init_41 : decode cX7_init 41 = .ok (.getfield 7, 3) := by decide +kernel
theorem dX7_init_44 : decode cX7_init 44 = .ok (.iconst 3, 1) := by decide +kernel
theorem dX7_init_45 : decode cX7_init 45 = .ok (.sipush 1000, 3) := by decide +kernel
theorem dX7_init_48 : decode cX7_init 48 = .ok (.iastore, 1) := by decide +kernel
theorem dX7_init_49 : decode cX7_init 49 = .ok (.aload_n 0, 1) := by decide +kernel
theorem dX7_init_50 : decode cX7_init 50 = .ok (.getfield 7, 3) := by decide +kernel
theorem dX7_init_53 : decode cX7_init 53 = .ok (.bipush 7, 2) := by decide +kernel
theorem dX7_init_55 : decode cX7_init 55 = .ok (.sipush 1000, 3) := by decide +kernel
theorem dX7_init_58 : decode cX7_init 58 = .ok (.iastore, 1) := by decide +kernel
theorem dX7_init_59 : decode cX7_init 59 = .ok (.aload_n 0, 1) := by decide +kernel
theorem dX7_init_60 : decode cX7_init 60 = .ok (.getfield 7, 3) := by decide +kernel
theorem dX7_init_63 : decode cX7_init 63 = .ok (.iconst 4, 1) := by decide +kernel
theorem dX7_init_64 : decode cX7_init 64 = .ok (.bipush 10, 2) := by decide +kernel
theorem dX7_init_66 : decode cX7_init 66 = .ok (.iastore, 1) := by decide +kernel
theorem dX7_init_67 : decode cX7_init 67 = .ok (.aload_n 0, 1) := by decide +kernel
theorem dX7_init_68 : decode cX7_init 68 = .ok (.iconst 0, 1) := by decide +kernel
theorem dX7_init_69 : decode cX7_init 69 = .ok (.bipush 20, 2) := by decide +kernel
theorem dX7_init_71 : decode cX7_init 71 = .ok (.iconst 3, 1) := by decide +kernel
theorem dX7_init_72 : decode cX7_init 72 = .ok (.bipush 30, 2) := by decide +kernel
theorem dX7_init_74 : decode cX7_init 74 = .ok (.invokevirtual 22, 3) := by decide +kernel
theorem dX7_init_77 : decode cX7_init 77 = .ok (.aload_n 0, 1) := by decide +kernel
theorem dX7_init_78 : decode cX7_init 78 = .ok (.iconst 1, 1) := by decide +kernel
theorem dX7_init_79 : decode cX7_init 79 = .ok (.bipush 40, 2) := by decide +kernel
theorem dX7_init_81 : decode cX7_init 81 = .ok (.bipush 6, 2) := by decide +kernel
theorem dX7_init_83 : decode cX7_init 83 = .ok (.bipush 20, 2) := by decide +kernel
theorem dX7_init_85 : decode cX7_init 85 = .ok (.invokevirtual 22, 3) := by decide +kernel
theorem dX7_init_88 : decode cX7_init 88 = .ok (.aload_n 0, 1) := by decide +kernel
theorem dX7_init_89 : decode cX7_init 89 = .ok (.iconst 2, 1) := by decide +kernel
theorem dX7_init_90 : decode cX7_init 90 = .ok (.bipush 60, 2) := by decide +kernel
theorem dX7_init_92 : decode cX7_init 92 = .ok (.bipush 12, 2) := by decide +kernel
theorem dX7_init_94 : decode cX7_init 94 = .ok (.bipush 10, 2) := by decide +kernel
theorem dX7_init_96 : decode cX7_init 96 = .ok (.invokevirtual 22, 3) := by decide +kernel
theorem dX7_init_99 : decode cX7_init 99 = .ok (.return_, 1) := by decide +kernel
theorem dX7_layTerms_0 : decode cX7_layTerms 0 = .ok (.aload_n 0, 1) := by decide +kernel
theorem dX7_layTerms_1 : decode cX7_layTerms 1 = .ok (.getfield 7, 3) := by decide +kernel
theorem dX7_layTerms_4 : decode cX7_layTerms 4 = .ok (.sipush 229, 3) := by decide +kernel
theorem dX7_layTerms_7 : decode cX7_layTerms 7 = .ok (.iconst 4, 1) := by decide +kernel
theorem dX7_layTerms_8 : decode cX7_layTerms 8 = .ok (.iload_n 1, 1) := by decide +kernel
theorem dX7_layTerms_9 : decode cX7_layTerms 9 = .ok (.imul, 1) := by decide +kernel
theorem dX7_layTerms_10 : decode cX7_layTerms 10 = .ok (.iadd, 1) := by decide +kernel
theorem dX7_layTerms_11 : decode cX7_layTerms 11 = .ok (.iconst 0, 1) := by decide +kernel
theorem dX7_layTerms_12 : decode cX7_layTerms 12 = .ok (.iadd, 1) := by decide +kernel
theorem dX7_layTerms_13 : decode cX7_layTerms 13 = .ok (.iload_n 2, 1) := by decide +kernel
theorem dX7_layTerms_14 : decode cX7_layTerms 14 = .ok (.iastore, 1) := by decide +kernel
theorem dX7_layTerms_15 : decode cX7_layTerms 15 = .ok (.aload_n 0, 1) := by decide +kernel
theorem dX7_layTerms_16 : decode cX7_layTerms 16 = .ok (.getfield 7, 3) := by decide +kernel
theorem dX7_layTerms_19 : decode cX7_layTerms 19 = .ok (.sipush 229, 3) := by decide +kernel
theorem dX7_layTerms_22 : decode cX7_layTerms 22 = .ok (.iconst 4, 1) := by decide +kernel
theorem dX7_layTerms_23 : decode cX7_layTerms 23 = .ok (.iload_n 1, 1) := by decide +kernel
theorem dX7_layTerms_24 : decode cX7_layTerms 24 = .ok (.imul, 1) := by decide +kernel
theorem dX7_layTerms_25 : decode cX7_layTerms 25 = .ok (.iadd, 1) := by decide +kernel
theorem dX7_layTerms_26 : decode cX7_layTerms 26 = .ok (.iconst 1, 1) := by decide +kernel
theorem dX7_layTerms_27 : decode cX7_layTerms 27 = .ok (.iadd, 1) := by decide +kernel
theorem dX7_layTerms_28 : decode cX7_layTerms 28 = .ok (.iload_n 3, 1) := by decide +kernel
theorem dX7_layTerms_29 : decode cX7_layTerms 29 = .ok (.iastore, 1) := by decide +kernel
theorem dX7_layTerms_30 : decode cX7_layTerms 30 = .ok (.aload_n 0, 1) := by decide +kernel
theorem dX7_layTerms_31 : decode cX7_layTerms 31 = .ok (.getfield 7, 3) := by decide +kernel
theorem dX7_layTerms_34 : decode cX7_layTerms 34 = .ok (.sipush 229, 3) := by decide +kernel
theorem dX7_layTerms_37 : decode cX7_layTerms 37 = .ok (.iconst 4, 1) := by decide +kernel
theorem dX7_layTerms_38 : decode cX7_layTerms 38 = .ok (.iload_n 1, 1) := by decide +kernel
theorem dX7_layTerms_39 : decode cX7_layTerms 39 = .ok (.imul, 1) := by decide +kernel
theorem dX7_layTerms_40 : decode cX7_layTerms 40 = .ok (.iadd, 1) := by decide +kernel
theorem dX7_layTerms_41 : decode cX7_layTerms 41 = .ok (.iconst 2, 1) := by decide +kernel
theorem dX7_layTerms_42 : decode cX7_layTerms 42 = .ok (.iadd, 1) := by decide +kernel
theorem dX7_layTerms_43 : decode cX7_layTerms 43 = .ok (.iload 4, 2) := by decide +kernel
theorem dX7_layTerms_45 : decode cX7_layTerms 45 = .ok (.iastore, 1) := by decide +kernel
theorem dX7_layTerms_46 : decode cX7_layTerms 46 = .ok (.return_, 1) := by decide +kernel
theorem dX7_thrown_0 : decode cX7_thrown 0 = .ok (.aload_n 0, 1) := by decide +kernel
theorem dX7_thrown_1 : decode cX7_thrown 1 = .ok (.getfield 26, 3) := by decide +kernel
theorem dX7_thrown_4 : decode cX7_thrown 4 = .ok (.ireturn, 1) := by decide +kernel
theorem dX7_in_0 : decode cX7_in 0 = .ok (.iload_n 0, 1) := by decide +kernel
theorem dX7_in_1 : decode cX7_in 1 = .ok (.iload_n 1, 1) := by decide +kernel
theorem dX7_in_2 : decode cX7_in 2 = .ok (.if_icmp .lt 12, 3) := by decide +kernel
theorem dX7_in_5 : decode cX7_in 5 = .ok (.iload_n 0, 1) := by decide +kernel
theorem dX7_in_6 : decode cX7_in 6 = .ok (.iload_n 2, 1) := by decide +kernel
theorem dX7_in_7 : decode cX7_in 7 = .ok (.if_icmp .gt 7, 3) := by decide +kernel
theorem dX7_in_10 : decode cX7_in 10 = .ok (.iconst 1, 1) := by decide +kernel
theorem dX7_in_11 : decode cX7_in 11 = .ok (.goto 4, 3) := by decide +kernel
theorem dX7_in_14 : decode cX7_in 14 = .ok (.iconst 0, 1) := by decide +kernel
theorem dX7_in_15 : decode cX7_in 15 = .ok (.ireturn, 1) := by decide +kernel
theorem dX7_lesser_0 : decode cX7_lesser 0 = .ok (.iload_n 0, 1) := by decide +kernel
theorem dX7_lesser_1 : decode cX7_lesser 1 = .ok (.iload_n 1, 1) := by decide +kernel
theorem dX7_lesser_2 : decode cX7_lesser 2 = .ok (.if_icmp .ge 7, 3) := by decide +kernel
theorem dX7_lesser_5 : decode cX7_lesser 5 = .ok (.iload_n 0, 1) := by decide +kernel
theorem dX7_lesser_6 : decode cX7_lesser 6 = .ok (.goto 4, 3) := by decide +kernel
theorem dX7_lesser_9 : decode cX7_lesser 9 = .ok (.iload_n 1, 1) := by decide +kernel
theorem dX7_lesser_10 : decode cX7_lesser 10 = .ok (.ireturn, 1) := by decide +kernel
theorem dX7_bring_0 : decode cX7_bring 0 = .ok (.iconst 0, 1) := by decide +kernel
theorem dX7_bring_1 : decode cX7_bring 1 = .ok (.istore 4, 2) := by decide +kernel
theorem dX7_bring_3 : decode cX7_bring 3 = .ok (.iload 4, 2) := by decide +kernel
theorem dX7_bring_5 : decode cX7_bring 5 = .ok (.sipush 241, 3) := by decide +kernel
theorem dX7_bring_8 : decode cX7_bring 8 = .ok (.if_icmp .ge 21, 3) := by decide +kernel
theorem dX7_bring_11 : decode cX7_bring 11 = .ok (.aload_n 2, 1) := by decide +kernel
theorem dX7_bring_12 : decode cX7_bring 12 = .ok (.iload_n 3, 1) := by decide +kernel
theorem dX7_bring_13 : decode cX7_bring 13 = .ok (.iload 4, 2) := by decide +kernel
theorem dX7_bring_15 : decode cX7_bring 15 = .ok (.iadd, 1) := by decide +kernel
theorem dX7_bring_16 : decode cX7_bring 16 = .ok (.aload_n 0, 1) := by decide +kernel
theorem dX7_bring_17 : decode cX7_bring 17 = .ok (.iload_n 1, 1) := by decide +kernel
theorem dX7_bring_18 : decode cX7_bring 18 = .ok (.iload 4, 2) := by decide +kernel
theorem dX7_bring_20 : decode cX7_bring 20 = .ok (.iadd, 1) := by decide +kernel
theorem dX7_bring_21 : decode cX7_bring 21 = .ok (.iaload, 1) := by decide +kernel
theorem dX7_bring_22 : decode cX7_bring 22 = .ok (.iastore, 1) := by decide +kernel
theorem dX7_bring_23 : decode cX7_bring 23 = .ok (.iinc 4 1, 3) := by decide +kernel
theorem dX7_bring_26 : decode cX7_bring 26 = .ok (.goto (-23), 3) := by decide +kernel
theorem dX7_bring_29 : decode cX7_bring 29 = .ok (.return_, 1) := by decide +kernel
theorem dX7_keep_0 : decode cX7_keep 0 = .ok (.aload_n 0, 1) := by decide +kernel
theorem dX7_keep_1 : decode cX7_keep 1 = .ok (.getfield 30, 3) := by decide +kernel
theorem dX7_keep_4 : decode cX7_keep 4 = .ok (.iconst 4, 1) := by decide +kernel
theorem dX7_keep_5 : decode cX7_keep 5 = .ok (.if_icmp .ne 44, 3) := by decide +kernel
theorem dX7_keep_8 : decode cX7_keep 8 = .ok (.iconst 0, 1) := by decide +kernel
theorem dX7_keep_9 : decode cX7_keep 9 = .ok (.istore_n 1, 1) := by decide +kernel
theorem dX7_keep_10 : decode cX7_keep 10 = .ok (.iload_n 1, 1) := by decide +kernel
theorem dX7_keep_11 : decode cX7_keep 11 = .ok (.sipush 723, 3) := by decide +kernel
theorem dX7_keep_14 : decode cX7_keep 14 = .ok (.if_icmp .ge 25, 3) := by decide +kernel
theorem dX7_keep_17 : decode cX7_keep 17 = .ok (.aload_n 0, 1) := by decide +kernel
theorem dX7_keep_18 : decode cX7_keep 18 = .ok (.getfield 16, 3) := by decide +kernel
theorem dX7_keep_21 : decode cX7_keep 21 = .ok (.iload_n 1, 1) := by decide +kernel
theorem dX7_keep_22 : decode cX7_keep 22 = .ok (.aload_n 0, 1) := by decide +kernel
theorem dX7_keep_23 : decode cX7_keep 23 = .ok (.getfield 16, 3) := by decide +kernel
theorem dX7_keep_26 : decode cX7_keep 26 = .ok (.iload_n 1, 1) := by decide +kernel
theorem dX7_keep_27 : decode cX7_keep 27 = .ok (.sipush 241, 3) := by decide +kernel
theorem dX7_keep_30 : decode cX7_keep 30 = .ok (.iadd, 1) := by decide +kernel
theorem dX7_keep_31 : decode cX7_keep 31 = .ok (.iaload, 1) := by decide +kernel
theorem dX7_keep_32 : decode cX7_keep 32 = .ok (.iastore, 1) := by decide +kernel
theorem dX7_keep_33 : decode cX7_keep 33 = .ok (.iinc 1 1, 3) := by decide +kernel
theorem dX7_keep_36 : decode cX7_keep 36 = .ok (.goto (-26), 3) := by decide +kernel
theorem dX7_keep_39 : decode cX7_keep 39 = .ok (.aload_n 0, 1) := by decide +kernel
theorem dX7_keep_40 : decode cX7_keep 40 = .ok (.dup, 1) := by decide +kernel
theorem dX7_keep_41 : decode cX7_keep 41 = .ok (.getfield 30, 3) := by decide +kernel
theorem dX7_keep_44 : decode cX7_keep 44 = .ok (.iconst 1, 1) := by decide +kernel
theorem dX7_keep_45 : decode cX7_keep 45 = .ok (.isub, 1) := by decide +kernel
theorem dX7_keep_46 : decode cX7_keep 46 = .ok (.putfield 30, 3) := by decide +kernel
theorem dX7_keep_49 : decode cX7_keep 49 = .ok (.aload_n 0, 1) := by decide +kernel
theorem dX7_keep_50 : decode cX7_keep 50 = .ok (.getfield 7, 3) := by decide +kernel
theorem dX7_keep_53 : decode cX7_keep 53 = .ok (.iconst 0, 1) := by decide +kernel
theorem dX7_keep_54 : decode cX7_keep 54 = .ok (.aload_n 0, 1) := by decide +kernel
theorem dX7_keep_55 : decode cX7_keep 55 = .ok (.getfield 16, 3) := by decide +kernel
theorem dX7_keep_58 : decode cX7_keep 58 = .ok (.sipush 241, 3) := by decide +kernel
theorem dX7_keep_61 : decode cX7_keep 61 = .ok (.aload_n 0, 1) := by decide +kernel
theorem dX7_keep_62 : decode cX7_keep 62 = .ok (.getfield 30, 3) := by decide +kernel
theorem dX7_keep_65 : decode cX7_keep 65 = .ok (.imul, 1) := by decide +kernel
theorem dX7_keep_66 : decode cX7_keep 66 = .ok (.invokestatic 33, 3) := by decide +kernel
theorem dX7_keep_69 : decode cX7_keep 69 = .ok (.aload_n 0, 1) := by decide +kernel
theorem dX7_keep_70 : decode cX7_keep 70 = .ok (.dup, 1) := by decide +kernel
theorem dX7_keep_71 : decode cX7_keep 71 = .ok (.getfield 30, 3) := by decide +kernel
theorem dX7_keep_74 : decode cX7_keep 74 = .ok (.iconst 1, 1) := by decide +kernel
theorem dX7_keep_75 : decode cX7_keep 75 = .ok (.iadd, 1) := by decide +kernel
theorem dX7_keep_76 : decode cX7_keep 76 = .ok (.putfield 30, 3) := by decide +kernel
theorem dX7_keep_79 : decode cX7_keep 79 = .ok (.return_, 1) := by decide +kernel
theorem dX7_isStreet_0 : decode cX7_isStreet 0 = .ok (.iload_n 1, 1) := by decide +kernel
theorem dX7_isStreet_1 : decode cX7_isStreet 1 = .ok (.iconst 0, 1) := by decide +kernel
theorem dX7_isStreet_2 : decode cX7_isStreet 2 = .ok (.aload_n 0, 1) := by decide +kernel
theorem dX7_isStreet_3 : decode cX7_isStreet 3 = .ok (.getfield 7, 3) := by decide +kernel
theorem dX7_isStreet_6 : decode cX7_isStreet 6 = .ok (.iconst 1, 1) := by decide +kernel
theorem dX7_isStreet_7 : decode cX7_isStreet 7 = .ok (.iaload, 1) := by decide +kernel
theorem dX7_isStreet_8 : decode cX7_isStreet 8 = .ok (.iconst 1, 1) := by decide +kernel
theorem dX7_isStreet_9 : decode cX7_isStreet 9 = .ok (.isub, 1) := by decide +kernel
theorem dX7_isStreet_10 : decode cX7_isStreet 10 = .ok (.invokestatic 37, 3) := by decide +kernel
theorem dX7_isStreet_13 : decode cX7_isStreet 13 = .ok (.ireturn, 1) := by decide +kernel
theorem dX7_isPlow_0 : decode cX7_isPlow 0 = .ok (.iload_n 1, 1) := by decide +kernel
theorem dX7_isPlow_1 : decode cX7_isPlow 1 = .ok (.iconst 0, 1) := by decide +kernel
theorem dX7_isPlow_2 : decode cX7_isPlow 2 = .ok (.aload_n 0, 1) := by decide +kernel
theorem dX7_isPlow_3 : decode cX7_isPlow 3 = .ok (.getfield 7, 3) := by decide +kernel
theorem dX7_isPlow_6 : decode cX7_isPlow 6 = .ok (.iconst 2, 1) := by decide +kernel
theorem dX7_isPlow_7 : decode cX7_isPlow 7 = .ok (.iaload, 1) := by decide +kernel
theorem dX7_isPlow_8 : decode cX7_isPlow 8 = .ok (.iconst 1, 1) := by decide +kernel
theorem dX7_isPlow_9 : decode cX7_isPlow 9 = .ok (.isub, 1) := by decide +kernel
theorem dX7_isPlow_10 : decode cX7_isPlow 10 = .ok (.invokestatic 37, 3) := by decide +kernel
theorem dX7_isPlow_13 : decode cX7_isPlow 13 = .ok (.ireturn, 1) := by decide +kernel
theorem dX7_of_0 : decode cX7_of 0 = .ok (.aload_n 0, 1) := by decide +kernel
theorem dX7_of_1 : decode cX7_of 1 = .ok (.getfield 7, 3) := by decide +kernel
theorem dX7_of_4 : decode cX7_of 4 = .ok (.bipush 9, 2) := by decide +kernel
theorem dX7_of_6 : decode cX7_of 6 = .ok (.bipush 8, 2) := by decide +kernel
theorem dX7_of_8 : decode cX7_of 8 = .ok (.iload_n 1, 1) := by decide +kernel
theorem dX7_of_9 : decode cX7_of 9 = .ok (.imul, 1) := by decide +kernel
theorem dX7_of_10 : decode cX7_of 10 = .ok (.iadd, 1) := by decide +kernel
theorem dX7_of_11 : decode cX7_of 11 = .ok (.iload_n 2, 1) := by decide +kernel
theorem dX7_of_12 : decode cX7_of 12 = .ok (.iadd, 1) := by decide +kernel
theorem dX7_of_13 : decode cX7_of 13 = .ok (.iaload, 1) := by decide +kernel
theorem dX7_of_14 : decode cX7_of 14 = .ok (.ireturn, 1) := by decide +kernel
theorem dX7_ofPlow_0 : decode cX7_ofPlow 0 = .ok (.aload_n 0, 1) := by decide +kernel
theorem dX7_ofPlow_1 : decode cX7_ofPlow 1 = .ok (.getfield 7, 3) := by decide +kernel
theorem dX7_ofPlow_4 : decode cX7_ofPlow 4 = .ok (.sipush 169, 3) := by decide +kernel
theorem dX7_ofPlow_7 : decode cX7_ofPlow 7 = .ok (.bipush 20, 2) := by decide +kernel
theorem dX7_ofPlow_9 : decode cX7_ofPlow 9 = .ok (.iload_n 1, 1) := by decide +kernel
theorem dX7_ofPlow_10 : decode cX7_ofPlow 10 = .ok (.imul, 1) := by decide +kernel
theorem dX7_ofPlow_11 : decode cX7_ofPlow 11 = .ok (.iadd, 1) := by decide +kernel
theorem dX7_ofPlow_12 : decode cX7_ofPlow 12 = .ok (.iload_n 2, 1) := by decide +kernel
theorem dX7_ofPlow_13 : decode cX7_ofPlow 13 = .ok (.iadd, 1) := by decide +kernel
theorem dX7_ofPlow_14 : decode cX7_ofPlow 14 = .ok (.iaload, 1) := by decide +kernel
theorem dX7_ofPlow_15 : decode cX7_ofPlow 15 = .ok (.ireturn, 1) := by decide +kernel
theorem dX7_term_0 : decode cX7_term 0 = .ok (.aload_n 0, 1) := by decide +kernel
theorem dX7_term_1 : decode cX7_term 1 = .ok (.getfield 7, 3) := by decide +kernel
theorem dX7_term_4 : decode cX7_term 4 = .ok (.sipush 229, 3) := by decide +kernel
theorem dX7_term_7 : decode cX7_term 7 = .ok (.iconst 4, 1) := by decide +kernel
theorem dX7_term_8 : decode cX7_term 8 = .ok (.aload_n 0, 1) := by decide +kernel
theorem dX7_term_9 : decode cX7_term 9 = .ok (.iload_n 1, 1) := by decide +kernel
theorem dX7_term_10 : decode cX7_term 10 = .ok (.iconst 1, 1) := by decide +kernel
theorem dX7_term_11 : decode cX7_term 11 = .ok (.invokevirtual 41, 3) := by decide +kernel
theorem dX7_term_14 : decode cX7_term 14 = .ok (.imul, 1) := by decide +kernel
theorem dX7_term_15 : decode cX7_term 15 = .ok (.iadd, 1) := by decide +kernel
theorem dX7_term_16 : decode cX7_term 16 = .ok (.iload_n 2, 1) := by decide +kernel
theorem dX7_term_17 : decode cX7_term 17 = .ok (.iadd, 1) := by decide +kernel
theorem dX7_term_18 : decode cX7_term 18 = .ok (.iaload, 1) := by decide +kernel
theorem dX7_term_19 : decode cX7_term 19 = .ok (.ireturn, 1) := by decide +kernel
theorem dX7_isDue_0 : decode cX7_isDue 0 = .ok (.aload_n 0, 1) := by decide +kernel
theorem dX7_isDue_1 : decode cX7_isDue 1 = .ok (.iload_n 1, 1) := by decide +kernel
theorem dX7_isDue_2 : decode cX7_isDue 2 = .ok (.iconst 2, 1) := by decide +kernel
theorem dX7_isDue_3 : decode cX7_isDue 3 = .ok (.invokevirtual 41, 3) := by decide +kernel
theorem dX7_isDue_6 : decode cX7_isDue 6 = .ok (.aload_n 0, 1) := by decide +kernel
theorem dX7_isDue_7 : decode cX7_isDue 7 = .ok (.iload_n 1, 1) := by decide +kernel
theorem dX7_isDue_8 : decode cX7_isDue 8 = .ok (.iconst 0, 1) := by decide +kernel
theorem dX7_isDue_9 : decode cX7_isDue 9 = .ok (.invokevirtual 45, 3) := by decide +kernel
theorem dX7_isDue_12 : decode cX7_isDue 12 = .ok (.if_icmp .lt 7, 3) := by decide +kernel
theorem dX7_isDue_15 : decode cX7_isDue 15 = .ok (.iconst 1, 1) := by decide +kernel
theorem dX7_isDue_16 : decode cX7_isDue 16 = .ok (.goto 4, 3) := by decide +kernel
theorem dX7_isDue_19 : decode cX7_isDue 19 = .ok (.iconst 0, 1) := by decide +kernel
theorem dX7_isDue_20 : decode cX7_isDue 20 = .ok (.ireturn, 1) := by decide +kernel
theorem dX7_addStreet_0 : decode cX7_addStreet 0 = .ok (.aload_n 0, 1) := by decide +kernel
theorem dX7_addStreet_1 : decode cX7_addStreet 1 = .ok (.iload_n 1, 1) := by decide +kernel
theorem dX7_addStreet_2 : decode cX7_addStreet 2 = .ok (.bipush 10, 2) := by decide +kernel
theorem dX7_addStreet_4 : decode cX7_addStreet 4 = .ok (.sipush 2000, 3) := by decide +kernel
theorem dX7_addStreet_7 : decode cX7_addStreet 7 = .ok (.invokestatic 37, 3) := by decide +kernel
theorem dX7_addStreet_10 : decode cX7_addStreet 10 = .ok (.ifCond .eq 12, 3) := by decide +kernel
theorem dX7_addStreet_13 : decode cX7_addStreet 13 = .ok (.iload_n 2, 1) := by decide +kernel
theorem dX7_addStreet_14 : decode cX7_addStreet 14 = .ok (.iconst 0, 1) := by decide +kernel
theorem dX7_addStreet_15 : decode cX7_addStreet 15 = .ok (.iconst 2, 1) := by decide +kernel
theorem dX7_addStreet_16 : decode cX7_addStreet 16 = .ok (.invokestatic 37, 3) := by decide +kernel
theorem dX7_addStreet_19 : decode cX7_addStreet 19 = .ok (.ifCond .ne 7, 3) := by decide +kernel
theorem dX7_addStreet_22 : decode cX7_addStreet 22 = .ok (.iconst 1, 1) := by decide +kernel
theorem dX7_addStreet_23 : decode cX7_addStreet 23 = .ok (.goto 19, 3) := by decide +kernel
theorem dX7_addStreet_26 : decode cX7_addStreet 26 = .ok (.aload_n 0, 1) := by decide +kernel
theorem dX7_addStreet_27 : decode cX7_addStreet 27 = .ok (.getfield 7, 3) := by decide +kernel
theorem dX7_addStreet_30 : decode cX7_addStreet 30 = .ok (.iconst 1, 1) := by decide +kernel
theorem dX7_addStreet_31 : decode cX7_addStreet 31 = .ok (.iaload, 1) := by decide +kernel
theorem dX7_addStreet_32 : decode cX7_addStreet 32 = .ok (.bipush 20, 2) := by decide +kernel
theorem dX7_addStreet_34 : decode cX7_addStreet 34 = .ok (.if_icmp .ne 7, 3) := by decide +kernel
theorem dX7_addStreet_37 : decode cX7_addStreet 37 = .ok (.iconst 2, 1) := by decide +kernel
theorem dX7_addStreet_38 : decode cX7_addStreet 38 = .ok (.goto 4, 3) := by decide +kernel
theorem dX7_addStreet_41 : decode cX7_addStreet 41 = .ok (.iconst 0, 1) := by decide +kernel
theorem dX7_addStreet_42 : decode cX7_addStreet 42 = .ok (.putfield 26, 3) := by decide +kernel
theorem dX7_addStreet_45 : decode cX7_addStreet 45 = .ok (.aload_n 0, 1) := by decide +kernel
theorem dX7_addStreet_46 : decode cX7_addStreet 46 = .ok (.getfield 26, 3) := by decide +kernel
theorem dX7_addStreet_49 : decode cX7_addStreet 49 = .ok (.ifCond .eq 5, 3) := by decide +kernel
theorem dX7_addStreet_52 : decode cX7_addStreet 52 = .ok (.iconst 0, 1) := by decide +kernel
theorem dX7_addStreet_53 : decode cX7_addStreet 53 = .ok (.ireturn, 1) := by decide +kernel
theorem dX7_addStreet_54 : decode cX7_addStreet 54 = .ok (.aload_n 0, 1) := by decide +kernel
theorem dX7_addStreet_55 : decode cX7_addStreet 55 = .ok (.invokevirtual 48, 3) := by decide +kernel
theorem dX7_addStreet_58 : decode cX7_addStreet 58 = .ok (.bipush 9, 2) := by decide +kernel
theorem dX7_addStreet_60 : decode cX7_addStreet 60 = .ok (.bipush 8, 2) := by decide +kernel
theorem dX7_addStreet_62 : decode cX7_addStreet 62 = .ok (.aload_n 0, 1) := by decide +kernel
theorem dX7_addStreet_63 : decode cX7_addStreet 63 = .ok (.getfield 7, 3) := by decide +kernel
theorem dX7_addStreet_66 : decode cX7_addStreet 66 = .ok (.iconst 1, 1) := by decide +kernel
theorem dX7_addStreet_67 : decode cX7_addStreet 67 = .ok (.iaload, 1) := by decide +kernel
theorem dX7_addStreet_68 : decode cX7_addStreet 68 = .ok (.imul, 1) := by decide +kernel
theorem dX7_addStreet_69 : decode cX7_addStreet 69 = .ok (.iadd, 1) := by decide +kernel
theorem dX7_addStreet_70 : decode cX7_addStreet 70 = .ok (.istore_n 3, 1) := by decide +kernel
theorem dX7_addStreet_71 : decode cX7_addStreet 71 = .ok (.iconst 0, 1) := by decide +kernel
theorem dX7_addStreet_72 : decode cX7_addStreet 72 = .ok (.istore 4, 2) := by decide +kernel
theorem dX7_addStreet_74 : decode cX7_addStreet 74 = .ok (.iload 4, 2) := by decide +kernel
theorem dX7_addStreet_76 : decode cX7_addStreet 76 = .ok (.bipush 8, 2) := by decide +kernel
theorem dX7_addStreet_78 : decode cX7_addStreet 78 = .ok (.if_icmp .ge 49, 3) := by decide +kernel
theorem dX7_addStreet_81 : decode cX7_addStreet 81 = .ok (.aload_n 0, 1) := by decide +kernel
theorem dX7_addStreet_82 : decode cX7_addStreet 82 = .ok (.getfield 7, 3) := by decide +kernel
theorem dX7_addStreet_85 : decode cX7_addStreet 85 = .ok (.iload_n 3, 1) := by decide +kernel
theorem dX7_addStreet_86 : decode cX7_addStreet 86 = .ok (.iload 4, 2) := by decide +kernel
theorem dX7_addStreet_88 : decode cX7_addStreet 88 = .ok (.iadd, 1) := by decide +kernel
theorem dX7_addStreet_89 : decode cX7_addStreet 89 = .ok (.iload 4, 2) := by decide +kernel
theorem dX7_addStreet_91 : decode cX7_addStreet 91 = .ok (.ifCond .ne 7, 3) := by decide +kernel
theorem dX7_addStreet_94 : decode cX7_addStreet 94 = .ok (.iload_n 1, 1) := by decide +kernel
theorem dX7_addStreet_95 : decode cX7_addStreet 95 = .ok (.goto 25, 3) := by decide +kernel
theorem dX7_addStreet_98 : decode cX7_addStreet 98 = .ok (.iload 4, 2) := by decide +kernel
theorem dX7_addStreet_100 : decode cX7_addStreet 100 = .ok (.iconst 1, 1) := by decide +kernel
theorem dX7_addStreet_101 : decode cX7_addStreet 101 = .ok (.if_icmp .ne 7, 3) := by decide +kernel
theorem dX7_addStreet_104 : decode cX7_addStreet 104 = .ok (.iload_n 2, 1) := by decide +kernel
theorem dX7_addStreet_105 : decode cX7_addStreet 105 = .ok (.goto 15, 3) := by decide +kernel
theorem dX7_addStreet_108 : decode cX7_addStreet 108 = .ok (.iload 4, 2) := by decide +kernel
theorem dX7_addStreet_110 : decode cX7_addStreet 110 = .ok (.bipush 7, 2) := by decide +kernel
theorem dX7_addStreet_112 : decode cX7_addStreet 112 = .ok (.if_icmp .ne 7, 3) := by decide +kernel
theorem dX7_addStreet_115 : decode cX7_addStreet 115 = .ok (.iconst (-1), 1) := by decide +kernel
theorem dX7_addStreet_116 : decode cX7_addStreet 116 = .ok (.goto 4, 3) := by decide +kernel
theorem dX7_addStreet_119 : decode cX7_addStreet 119 = .ok (.iconst 0, 1) := by decide +kernel
theorem dX7_addStreet_120 : decode cX7_addStreet 120 = .ok (.iastore, 1) := by decide +kernel
theorem dX7_addStreet_121 : decode cX7_addStreet 121 = .ok (.iinc 4 1, 3) := by decide +kernel
theorem dX7_addStreet_124 : decode cX7_addStreet 124 = .ok (.goto (-50), 3) := by decide +kernel
theorem dX7_addStreet_127 : decode cX7_addStreet 127 = .ok (.aload_n 0, 1) := by decide +kernel
theorem dX7_addStreet_128 : decode cX7_addStreet 128 = .ok (.getfield 7, 3) := by decide +kernel
theorem dX7_addStreet_131 : decode cX7_addStreet 131 = .ok (.iconst 1, 1) := by decide +kernel
theorem dX7_addStreet_132 : decode cX7_addStreet 132 = .ok (.dup2, 1) := by decide +kernel
theorem dX7_addStreet_133 : decode cX7_addStreet 133 = .ok (.iaload, 1) := by decide +kernel
theorem dX7_addStreet_134 : decode cX7_addStreet 134 = .ok (.iconst 1, 1) := by decide +kernel
theorem dX7_addStreet_135 : decode cX7_addStreet 135 = .ok (.iadd, 1) := by decide +kernel
theorem dX7_addStreet_136 : decode cX7_addStreet 136 = .ok (.iastore, 1) := by decide +kernel
theorem dX7_addStreet_137 : decode cX7_addStreet 137 = .ok (.aload_n 0, 1) := by decide +kernel
theorem dX7_addStreet_138 : decode cX7_addStreet 138 = .ok (.getfield 7, 3) := by decide +kernel
theorem dX7_addStreet_141 : decode cX7_addStreet 141 = .ok (.iconst 1, 1) := by decide +kernel
theorem dX7_addStreet_142 : decode cX7_addStreet 142 = .ok (.iaload, 1) := by decide +kernel
theorem dX7_addStreet_143 : decode cX7_addStreet 143 = .ok (.iconst 1, 1) := by decide +kernel
theorem dX7_addStreet_144 : decode cX7_addStreet 144 = .ok (.isub, 1) := by decide +kernel
theorem dX7_addStreet_145 : decode cX7_addStreet 145 = .ok (.ireturn, 1) := by decide +kernel
theorem dX7_addPlow_0 : decode cX7_addPlow 0 = .ok (.aload_n 0, 1) := by decide +kernel
theorem dX7_addPlow_1 : decode cX7_addPlow 1 = .ok (.iload_n 1, 1) := by decide +kernel
theorem dX7_addPlow_2 : decode cX7_addPlow 2 = .ok (.bipush 100, 2) := by decide +kernel
theorem dX7_addPlow_4 : decode cX7_addPlow 4 = .ok (.sipush 5000, 3) := by decide +kernel
theorem dX7_addPlow_7 : decode cX7_addPlow 7 = .ok (.invokestatic 37, 3) := by decide +kernel
theorem dX7_addPlow_10 : decode cX7_addPlow 10 = .ok (.ifCond .eq 14, 3) := by decide +kernel
theorem dX7_addPlow_13 : decode cX7_addPlow 13 = .ok (.iload_n 2, 1) := by decide +kernel
theorem dX7_addPlow_14 : decode cX7_addPlow 14 = .ok (.iconst 0, 1) := by decide +kernel
theorem dX7_addPlow_15 : decode cX7_addPlow 15 = .ok (.sipush 5000, 3) := by decide +kernel
theorem dX7_addPlow_18 : decode cX7_addPlow 18 = .ok (.invokestatic 37, 3) := by decide +kernel
theorem dX7_addPlow_21 : decode cX7_addPlow 21 = .ok (.ifCond .ne 7, 3) := by decide +kernel
theorem dX7_addPlow_24 : decode cX7_addPlow 24 = .ok (.iconst 1, 1) := by decide +kernel
theorem dX7_addPlow_25 : decode cX7_addPlow 25 = .ok (.goto 18, 3) := by decide +kernel
theorem dX7_addPlow_28 : decode cX7_addPlow 28 = .ok (.aload_n 0, 1) := by decide +kernel
theorem dX7_addPlow_29 : decode cX7_addPlow 29 = .ok (.getfield 7, 3) := by decide +kernel
theorem dX7_addPlow_32 : decode cX7_addPlow 32 = .ok (.iconst 2, 1) := by decide +kernel
theorem dX7_addPlow_33 : decode cX7_addPlow 33 = .ok (.iaload, 1) := by decide +kernel
theorem dX7_addPlow_34 : decode cX7_addPlow 34 = .ok (.iconst 3, 1) := by decide +kernel
theorem dX7_addPlow_35 : decode cX7_addPlow 35 = .ok (.if_icmp .ne 7, 3) := by decide +kernel
theorem dX7_addPlow_38 : decode cX7_addPlow 38 = .ok (.iconst 2, 1) := by decide +kernel
theorem dX7_addPlow_39 : decode cX7_addPlow 39 = .ok (.goto 4, 3) := by decide +kernel
theorem dX7_addPlow_42 : decode cX7_addPlow 42 = .ok (.iconst 0, 1) := by decide +kernel
theorem dX7_addPlow_43 : decode cX7_addPlow 43 = .ok (.putfield 26, 3) := by decide +kernel
theorem dX7_addPlow_46 : decode cX7_addPlow 46 = .ok (.aload_n 0, 1) := by decide +kernel
theorem dX7_addPlow_47 : decode cX7_addPlow 47 = .ok (.getfield 26, 3) := by decide +kernel
theorem dX7_addPlow_50 : decode cX7_addPlow 50 = .ok (.ifCond .eq 5, 3) := by decide +kernel
theorem dX7_addPlow_53 : decode cX7_addPlow 53 = .ok (.iconst 0, 1) := by decide +kernel
theorem dX7_addPlow_54 : decode cX7_addPlow 54 = .ok (.ireturn, 1) := by decide +kernel
theorem dX7_addPlow_55 : decode cX7_addPlow 55 = .ok (.aload_n 0, 1) := by decide +kernel
theorem dX7_addPlow_56 : decode cX7_addPlow 56 = .ok (.invokevirtual 48, 3) := by decide +kernel
theorem dX7_addPlow_59 : decode cX7_addPlow 59 = .ok (.sipush 169, 3) := by decide +kernel
theorem dX7_addPlow_62 : decode cX7_addPlow 62 = .ok (.bipush 20, 2) := by decide +kernel
theorem dX7_addPlow_64 : decode cX7_addPlow 64 = .ok (.aload_n 0, 1) := by decide +kernel
theorem dX7_addPlow_65 : decode cX7_addPlow 65 = .ok (.getfield 7, 3) := by decide +kernel
theorem dX7_addPlow_68 : decode cX7_addPlow 68 = .ok (.iconst 2, 1) := by decide +kernel
theorem dX7_addPlow_69 : decode cX7_addPlow 69 = .ok (.iaload, 1) := by decide +kernel
theorem dX7_addPlow_70 : decode cX7_addPlow 70 = .ok (.imul, 1) := by decide +kernel
theorem dX7_addPlow_71 : decode cX7_addPlow 71 = .ok (.iadd, 1) := by decide +kernel
theorem dX7_addPlow_72 : decode cX7_addPlow 72 = .ok (.istore_n 3, 1) := by decide +kernel
theorem dX7_addPlow_73 : decode cX7_addPlow 73 = .ok (.iconst 0, 1) := by decide +kernel
theorem dX7_addPlow_74 : decode cX7_addPlow 74 = .ok (.istore 4, 2) := by decide +kernel
theorem dX7_addPlow_76 : decode cX7_addPlow 76 = .ok (.iload 4, 2) := by decide +kernel
theorem dX7_addPlow_78 : decode cX7_addPlow 78 = .ok (.bipush 20, 2) := by decide +kernel
theorem dX7_addPlow_80 : decode cX7_addPlow 80 = .ok (.if_icmp .ge 38, 3) := by decide +kernel
theorem dX7_addPlow_83 : decode cX7_addPlow 83 = .ok (.aload_n 0, 1) := by decide +kernel
theorem dX7_addPlow_84 : decode cX7_addPlow 84 = .ok (.getfield 7, 3) := by decide +kernel
theorem dX7_addPlow_87 : decode cX7_addPlow 87 = .ok (.iload_n 3, 1) := by decide +kernel
theorem dX7_addPlow_88 : decode cX7_addPlow 88 = .ok (.iload 4, 2) := by decide +kernel
theorem dX7_addPlow_90 : decode cX7_addPlow 90 = .ok (.iadd, 1) := by decide +kernel
theorem dX7_addPlow_91 : decode cX7_addPlow 91 = .ok (.iload 4, 2) := by decide +kernel
theorem dX7_addPlow_93 : decode cX7_addPlow 93 = .ok (.ifCond .ne 7, 3) := by decide +kernel
theorem dX7_addPlow_96 : decode cX7_addPlow 96 = .ok (.iload_n 1, 1) := by decide +kernel
theorem dX7_addPlow_97 : decode cX7_addPlow 97 = .ok (.goto 14, 3) := by decide +kernel
theorem dX7_addPlow_100 : decode cX7_addPlow 100 = .ok (.iload 4, 2) := by decide +kernel
theorem dX7_addPlow_102 : decode cX7_addPlow 102 = .ok (.iconst 1, 1) := by decide +kernel
theorem dX7_addPlow_103 : decode cX7_addPlow 103 = .ok (.if_icmp .ne 7, 3) := by decide +kernel
theorem dX7_addPlow_106 : decode cX7_addPlow 106 = .ok (.iload_n 2, 1) := by decide +kernel
theorem dX7_addPlow_107 : decode cX7_addPlow 107 = .ok (.goto 4, 3) := by decide +kernel
theorem dX7_addPlow_110 : decode cX7_addPlow 110 = .ok (.iconst 0, 1) := by decide +kernel
theorem dX7_addPlow_111 : decode cX7_addPlow 111 = .ok (.iastore, 1) := by decide +kernel
theorem dX7_addPlow_112 : decode cX7_addPlow 112 = .ok (.iinc 4 1, 3) := by decide +kernel
theorem dX7_addPlow_115 : decode cX7_addPlow 115 = .ok (.goto (-39), 3) := by decide +kernel
theorem dX7_addPlow_118 : decode cX7_addPlow 118 = .ok (.aload_n 0, 1) := by decide +kernel
theorem dX7_addPlow_119 : decode cX7_addPlow 119 = .ok (.getfield 7, 3) := by decide +kernel
theorem dX7_addPlow_122 : decode cX7_addPlow 122 = .ok (.iconst 2, 1) := by decide +kernel
theorem dX7_addPlow_123 : decode cX7_addPlow 123 = .ok (.dup2, 1) := by decide +kernel
theorem dX7_addPlow_124 : decode cX7_addPlow 124 = .ok (.iaload, 1) := by decide +kernel
theorem dX7_addPlow_125 : decode cX7_addPlow 125 = .ok (.iconst 1, 1) := by decide +kernel
theorem dX7_addPlow_126 : decode cX7_addPlow 126 = .ok (.iadd, 1) := by decide +kernel
theorem dX7_addPlow_127 : decode cX7_addPlow 127 = .ok (.iastore, 1) := by decide +kernel
theorem dX7_addPlow_128 : decode cX7_addPlow 128 = .ok (.aload_n 0, 1) := by decide +kernel
theorem dX7_addPlow_129 : decode cX7_addPlow 129 = .ok (.getfield 7, 3) := by decide +kernel
theorem dX7_addPlow_132 : decode cX7_addPlow 132 = .ok (.iconst 2, 1) := by decide +kernel
theorem dX7_addPlow_133 : decode cX7_addPlow 133 = .ok (.iaload, 1) := by decide +kernel
theorem dX7_addPlow_134 : decode cX7_addPlow 134 = .ok (.iconst 1, 1) := by decide +kernel
theorem dX7_addPlow_135 : decode cX7_addPlow 135 = .ok (.isub, 1) := by decide +kernel
theorem dX7_addPlow_136 : decode cX7_addPlow 136 = .ok (.ireturn, 1) := by decide +kernel
theorem dX7_addStop_0 : decode cX7_addStop 0 = .ok (.aload_n 0, 1) := by decide +kernel
theorem dX7_addStop_1 : decode cX7_addStop 1 = .ok (.aload_n 0, 1) := by decide +kernel
theorem dX7_addStop_2 : decode cX7_addStop 2 = .ok (.iload_n 1, 1) := by decide +kernel
theorem dX7_addStop_3 : decode cX7_addStop 3 = .ok (.invokevirtual 51, 3) := by decide +kernel
theorem dX7_addStop_6 : decode cX7_addStop 6 = .ok (.ifCond .eq 11, 3) := by decide +kernel
theorem dX7_addStop_9 : decode cX7_addStop 9 = .ok (.aload_n 0, 1) := by decide +kernel
theorem dX7_addStop_10 : decode cX7_addStop 10 = .ok (.iload_n 2, 1) := by decide +kernel
theorem dX7_addStop_11 : decode cX7_addStop 11 = .ok (.invokevirtual 55, 3) := by decide +kernel
theorem dX7_addStop_14 : decode cX7_addStop 14 = .ok (.ifCond .ne 7, 3) := by decide +kernel
theorem dX7_addStop_17 : decode cX7_addStop 17 = .ok (.iconst 1, 1) := by decide +kernel
theorem dX7_addStop_18 : decode cX7_addStop 18 = .ok (.goto 19, 3) := by decide +kernel
theorem dX7_addStop_21 : decode cX7_addStop 21 = .ok (.aload_n 0, 1) := by decide +kernel
theorem dX7_addStop_22 : decode cX7_addStop 22 = .ok (.iload_n 1, 1) := by decide +kernel
theorem dX7_addStop_23 : decode cX7_addStop 23 = .ok (.iconst 3, 1) := by decide +kernel
theorem dX7_addStop_24 : decode cX7_addStop 24 = .ok (.invokevirtual 58, 3) := by decide +kernel
theorem dX7_addStop_27 : decode cX7_addStop 27 = .ok (.bipush 12, 2) := by decide +kernel
theorem dX7_addStop_29 : decode cX7_addStop 29 = .ok (.if_icmp .ne 7, 3) := by decide +kernel
theorem dX7_addStop_32 : decode cX7_addStop 32 = .ok (.iconst 2, 1) := by decide +kernel
theorem dX7_addStop_33 : decode cX7_addStop 33 = .ok (.goto 4, 3) := by decide +kernel
theorem dX7_addStop_36 : decode cX7_addStop 36 = .ok (.iconst 0, 1) := by decide +kernel
theorem dX7_addStop_37 : decode cX7_addStop 37 = .ok (.putfield 26, 3) := by decide +kernel
theorem dX7_addStop_40 : decode cX7_addStop 40 = .ok (.aload_n 0, 1) := by decide +kernel
theorem dX7_addStop_41 : decode cX7_addStop 41 = .ok (.getfield 26, 3) := by decide +kernel
theorem dX7_addStop_44 : decode cX7_addStop 44 = .ok (.ifCond .eq 5, 3) := by decide +kernel
theorem dX7_addStop_47 : decode cX7_addStop 47 = .ok (.iconst 0, 1) := by decide +kernel
theorem dX7_addStop_48 : decode cX7_addStop 48 = .ok (.ireturn, 1) := by decide +kernel
theorem dX7_addStop_49 : decode cX7_addStop 49 = .ok (.aload_n 0, 1) := by decide +kernel
theorem dX7_addStop_50 : decode cX7_addStop 50 = .ok (.invokevirtual 48, 3) := by decide +kernel
theorem dX7_addStop_53 : decode cX7_addStop 53 = .ok (.sipush 169, 3) := by decide +kernel
theorem dX7_addStop_56 : decode cX7_addStop 56 = .ok (.bipush 20, 2) := by decide +kernel
theorem dX7_addStop_58 : decode cX7_addStop 58 = .ok (.iload_n 1, 1) := by decide +kernel
theorem dX7_addStop_59 : decode cX7_addStop 59 = .ok (.imul, 1) := by decide +kernel
theorem dX7_addStop_60 : decode cX7_addStop 60 = .ok (.iadd, 1) := by decide +kernel
theorem dX7_addStop_61 : decode cX7_addStop 61 = .ok (.istore_n 3, 1) := by decide +kernel
theorem dX7_addStop_62 : decode cX7_addStop 62 = .ok (.aload_n 0, 1) := by decide +kernel
theorem dX7_addStop_63 : decode cX7_addStop 63 = .ok (.getfield 7, 3) := by decide +kernel
theorem dX7_addStop_66 : decode cX7_addStop 66 = .ok (.iload_n 3, 1) := by decide +kernel
theorem dX7_addStop_67 : decode cX7_addStop 67 = .ok (.bipush 8, 2) := by decide +kernel
theorem dX7_addStop_69 : decode cX7_addStop 69 = .ok (.iadd, 1) := by decide +kernel
theorem dX7_addStop_70 : decode cX7_addStop 70 = .ok (.aload_n 0, 1) := by decide +kernel
theorem dX7_addStop_71 : decode cX7_addStop 71 = .ok (.getfield 7, 3) := by decide +kernel
theorem dX7_addStop_74 : decode cX7_addStop 74 = .ok (.iload_n 3, 1) := by decide +kernel
theorem dX7_addStop_75 : decode cX7_addStop 75 = .ok (.iconst 3, 1) := by decide +kernel
theorem dX7_addStop_76 : decode cX7_addStop 76 = .ok (.iadd, 1) := by decide +kernel
theorem dX7_addStop_77 : decode cX7_addStop 77 = .ok (.iaload, 1) := by decide +kernel
theorem dX7_addStop_78 : decode cX7_addStop 78 = .ok (.iadd, 1) := by decide +kernel
theorem dX7_addStop_79 : decode cX7_addStop 79 = .ok (.iload_n 2, 1) := by decide +kernel
theorem dX7_addStop_80 : decode cX7_addStop 80 = .ok (.iastore, 1) := by decide +kernel
theorem dX7_addStop_81 : decode cX7_addStop 81 = .ok (.aload_n 0, 1) := by decide +kernel
theorem dX7_addStop_82 : decode cX7_addStop 82 = .ok (.getfield 7, 3) := by decide +kernel
theorem dX7_addStop_85 : decode cX7_addStop 85 = .ok (.iload_n 3, 1) := by decide +kernel
theorem dX7_addStop_86 : decode cX7_addStop 86 = .ok (.iconst 3, 1) := by decide +kernel
theorem dX7_addStop_87 : decode cX7_addStop 87 = .ok (.iadd, 1) := by decide +kernel
theorem dX7_addStop_88 : decode cX7_addStop 88 = .ok (.dup2, 1) := by decide +kernel
theorem dX7_addStop_89 : decode cX7_addStop 89 = .ok (.iaload, 1) := by decide +kernel
theorem dX7_addStop_90 : decode cX7_addStop 90 = .ok (.iconst 1, 1) := by decide +kernel
theorem dX7_addStop_91 : decode cX7_addStop 91 = .ok (.iadd, 1) := by decide +kernel
theorem dX7_addStop_92 : decode cX7_addStop 92 = .ok (.iastore, 1) := by decide +kernel
theorem dX7_addStop_93 : decode cX7_addStop 93 = .ok (.aload_n 0, 1) := by decide +kernel
theorem dX7_addStop_94 : decode cX7_addStop 94 = .ok (.getfield 7, 3) := by decide +kernel
theorem dX7_addStop_97 : decode cX7_addStop 97 = .ok (.iload_n 3, 1) := by decide +kernel
theorem dX7_addStop_98 : decode cX7_addStop 98 = .ok (.iconst 3, 1) := by decide +kernel
theorem dX7_addStop_99 : decode cX7_addStop 99 = .ok (.iadd, 1) := by decide +kernel
theorem dX7_addStop_100 : decode cX7_addStop 100 = .ok (.iaload, 1) := by decide +kernel
theorem dX7_addStop_101 : decode cX7_addStop 101 = .ok (.ireturn, 1) := by decide +kernel
theorem dX7_clearRoute_0 : decode cX7_clearRoute 0 = .ok (.aload_n 0, 1) := by decide +kernel
theorem dX7_clearRoute_1 : decode cX7_clearRoute 1 = .ok (.aload_n 0, 1) := by decide +kernel
theorem dX7_clearRoute_2 : decode cX7_clearRoute 2 = .ok (.iload_n 1, 1) := by decide +kernel
theorem dX7_clearRoute_3 : decode cX7_clearRoute 3 = .ok (.invokevirtual 51, 3) := by decide +kernel
theorem dX7_clearRoute_6 : decode cX7_clearRoute 6 = .ok (.ifCond .eq 7, 3) := by decide +kernel
theorem dX7_clearRoute_9 : decode cX7_clearRoute 9 = .ok (.iconst 0, 1) := by decide +kernel
theorem dX7_clearRoute_10 : decode cX7_clearRoute 10 = .ok (.goto 4, 3) := by decide +kernel
theorem dX7_clearRoute_13 : decode cX7_clearRoute 13 = .ok (.iconst 1, 1) := by decide +kernel
theorem dX7_clearRoute_14 : decode cX7_clearRoute 14 = .ok (.putfield 26, 3) := by decide +kernel
theorem dX7_clearRoute_17 : decode cX7_clearRoute 17 = .ok (.aload_n 0, 1) := by decide +kernel
theorem dX7_clearRoute_18 : decode cX7_clearRoute 18 = .ok (.getfield 26, 3) := by decide +kernel
theorem dX7_clearRoute_21 : decode cX7_clearRoute 21 = .ok (.ifCond .eq 5, 3) := by decide +kernel
theorem dX7_clearRoute_24 : decode cX7_clearRoute 24 = .ok (.iconst 0, 1) := by decide +kernel
theorem dX7_clearRoute_25 : decode cX7_clearRoute 25 = .ok (.ireturn, 1) := by decide +kernel
theorem dX7_clearRoute_26 : decode cX7_clearRoute 26 = .ok (.aload_n 0, 1) := by decide +kernel
theorem dX7_clearRoute_27 : decode cX7_clearRoute 27 = .ok (.invokevirtual 48, 3) := by decide +kernel
theorem dX7_clearRoute_30 : decode cX7_clearRoute 30 = .ok (.sipush 169, 3) := by decide +kernel
theorem dX7_clearRoute_33 : decode cX7_clearRoute 33 = .ok (.bipush 20, 2) := by decide +kernel
theorem dX7_clearRoute_35 : decode cX7_clearRoute 35 = .ok (.iload_n 1, 1) := by decide +kernel
theorem dX7_clearRoute_36 : decode cX7_clearRoute 36 = .ok (.imul, 1) := by decide +kernel
theorem dX7_clearRoute_37 : decode cX7_clearRoute 37 = .ok (.iadd, 1) := by decide +kernel
theorem dX7_clearRoute_38 : decode cX7_clearRoute 38 = .ok (.istore_n 2, 1) := by decide +kernel
theorem dX7_clearRoute_39 : decode cX7_clearRoute 39 = .ok (.aload_n 0, 1) := by decide +kernel
theorem dX7_clearRoute_40 : decode cX7_clearRoute 40 = .ok (.getfield 7, 3) := by decide +kernel
theorem dX7_clearRoute_43 : decode cX7_clearRoute 43 = .ok (.iload_n 2, 1) := by decide +kernel
theorem dX7_clearRoute_44 : decode cX7_clearRoute 44 = .ok (.iconst 3, 1) := by decide +kernel
theorem dX7_clearRoute_45 : decode cX7_clearRoute 45 = .ok (.iadd, 1) := by decide +kernel
theorem dX7_clearRoute_46 : decode cX7_clearRoute 46 = .ok (.iaload, 1) := by decide +kernel
theorem dX7_clearRoute_47 : decode cX7_clearRoute 47 = .ok (.istore_n 3, 1) := by decide +kernel
theorem dX7_clearRoute_48 : decode cX7_clearRoute 48 = .ok (.aload_n 0, 1) := by decide +kernel
theorem dX7_clearRoute_49 : decode cX7_clearRoute 49 = .ok (.getfield 7, 3) := by decide +kernel
theorem dX7_clearRoute_52 : decode cX7_clearRoute 52 = .ok (.iload_n 2, 1) := by decide +kernel
theorem dX7_clearRoute_53 : decode cX7_clearRoute 53 = .ok (.iconst 3, 1) := by decide +kernel
theorem dX7_clearRoute_54 : decode cX7_clearRoute 54 = .ok (.iadd, 1) := by decide +kernel
theorem dX7_clearRoute_55 : decode cX7_clearRoute 55 = .ok (.iconst 0, 1) := by decide +kernel
theorem dX7_clearRoute_56 : decode cX7_clearRoute 56 = .ok (.iastore, 1) := by decide +kernel
theorem dX7_clearRoute_57 : decode cX7_clearRoute 57 = .ok (.aload_n 0, 1) := by decide +kernel
theorem dX7_clearRoute_58 : decode cX7_clearRoute 58 = .ok (.getfield 7, 3) := by decide +kernel
theorem dX7_clearRoute_61 : decode cX7_clearRoute 61 = .ok (.iload_n 2, 1) := by decide +kernel
theorem dX7_clearRoute_62 : decode cX7_clearRoute 62 = .ok (.iconst 4, 1) := by decide +kernel
theorem dX7_clearRoute_63 : decode cX7_clearRoute 63 = .ok (.iadd, 1) := by decide +kernel
theorem dX7_clearRoute_64 : decode cX7_clearRoute 64 = .ok (.iconst 0, 1) := by decide +kernel
theorem dX7_clearRoute_65 : decode cX7_clearRoute 65 = .ok (.iastore, 1) := by decide +kernel
theorem dX7_clearRoute_66 : decode cX7_clearRoute 66 = .ok (.aload_n 0, 1) := by decide +kernel
theorem dX7_clearRoute_67 : decode cX7_clearRoute 67 = .ok (.getfield 7, 3) := by decide +kernel
theorem dX7_clearRoute_70 : decode cX7_clearRoute 70 = .ok (.iload_n 2, 1) := by decide +kernel
theorem dX7_clearRoute_71 : decode cX7_clearRoute 71 = .ok (.iconst 5, 1) := by decide +kernel
theorem dX7_clearRoute_72 : decode cX7_clearRoute 72 = .ok (.iadd, 1) := by decide +kernel
theorem dX7_clearRoute_73 : decode cX7_clearRoute 73 = .ok (.iconst 0, 1) := by decide +kernel
theorem dX7_clearRoute_74 : decode cX7_clearRoute 74 = .ok (.iastore, 1) := by decide +kernel
theorem dX7_clearRoute_75 : decode cX7_clearRoute 75 = .ok (.iload_n 3, 1) := by decide +kernel
theorem dX7_clearRoute_76 : decode cX7_clearRoute 76 = .ok (.ireturn, 1) := by decide +kernel
theorem dX7_isPair_0 : decode cX7_isPair 0 = .ok (.iload_n 2, 1) := by decide +kernel
theorem dX7_isPair_1 : decode cX7_isPair 1 = .ok (.iconst 0, 1) := by decide +kernel
theorem dX7_isPair_2 : decode cX7_isPair 2 = .ok (.aload_n 0, 1) := by decide +kernel
theorem dX7_isPair_3 : decode cX7_isPair 3 = .ok (.iload_n 1, 1) := by decide +kernel
theorem dX7_isPair_4 : decode cX7_isPair 4 = .ok (.iconst 3, 1) := by decide +kernel
theorem dX7_isPair_5 : decode cX7_isPair 5 = .ok (.invokevirtual 58, 3) := by decide +kernel
theorem dX7_isPair_8 : decode cX7_isPair 8 = .ok (.iconst 2, 1) := by decide +kernel
theorem dX7_isPair_9 : decode cX7_isPair 9 = .ok (.isub, 1) := by decide +kernel
theorem dX7_isPair_10 : decode cX7_isPair 10 = .ok (.invokestatic 37, 3) := by decide +kernel
theorem dX7_isPair_13 : decode cX7_isPair 13 = .ok (.ireturn, 1) := by decide +kernel
theorem dX7_isBusy_0 : decode cX7_isBusy 0 = .ok (.aload_n 0, 1) := by decide +kernel
theorem dX7_isBusy_1 : decode cX7_isBusy 1 = .ok (.iload_n 1, 1) := by decide +kernel
theorem dX7_isBusy_2 : decode cX7_isBusy 2 = .ok (.iconst 5, 1) := by decide +kernel
theorem dX7_isBusy_3 : decode cX7_isBusy 3 = .ok (.invokevirtual 58, 3) := by decide +kernel
theorem dX7_isBusy_6 : decode cX7_isBusy 6 = .ok (.ifCond .le 23, 3) := by decide +kernel
theorem dX7_isBusy_9 : decode cX7_isBusy 9 = .ok (.aload_n 0, 1) := by decide +kernel
theorem dX7_isBusy_10 : decode cX7_isBusy 10 = .ok (.iload_n 1, 1) := by decide +kernel
theorem dX7_isBusy_11 : decode cX7_isBusy 11 = .ok (.iconst 4, 1) := by decide +kernel
theorem dX7_isBusy_12 : decode cX7_isBusy 12 = .ok (.invokevirtual 58, 3) := by decide +kernel
theorem dX7_isBusy_15 : decode cX7_isBusy 15 = .ok (.iload_n 2, 1) := by decide +kernel
theorem dX7_isBusy_16 : decode cX7_isBusy 16 = .ok (.iload_n 2, 1) := by decide +kernel
theorem dX7_isBusy_17 : decode cX7_isBusy 17 = .ok (.iconst 1, 1) := by decide +kernel
theorem dX7_isBusy_18 : decode cX7_isBusy 18 = .ok (.iadd, 1) := by decide +kernel
theorem dX7_isBusy_19 : decode cX7_isBusy 19 = .ok (.invokestatic 37, 3) := by decide +kernel
theorem dX7_isBusy_22 : decode cX7_isBusy 22 = .ok (.ifCond .eq 7, 3) := by decide +kernel
theorem dX7_isBusy_25 : decode cX7_isBusy 25 = .ok (.iconst 1, 1) := by decide +kernel
theorem dX7_isBusy_26 : decode cX7_isBusy 26 = .ok (.goto 4, 3) := by decide +kernel
theorem dX7_isBusy_29 : decode cX7_isBusy 29 = .ok (.iconst 0, 1) := by decide +kernel
theorem dX7_isBusy_30 : decode cX7_isBusy 30 = .ok (.ireturn, 1) := by decide +kernel
theorem dX7_exchanges_0 : decode cX7_exchanges 0 = .ok (.sipush 169, 3) := by decide +kernel
theorem dX7_exchanges_3 : decode cX7_exchanges 3 = .ok (.bipush 20, 2) := by decide +kernel
theorem dX7_exchanges_5 : decode cX7_exchanges 5 = .ok (.iload_n 1, 1) := by decide +kernel
theorem dX7_exchanges_6 : decode cX7_exchanges 6 = .ok (.imul, 1) := by decide +kernel
theorem dX7_exchanges_7 : decode cX7_exchanges 7 = .ok (.iadd, 1) := by decide +kernel
theorem dX7_exchanges_8 : decode cX7_exchanges 8 = .ok (.bipush 8, 2) := by decide +kernel
theorem dX7_exchanges_10 : decode cX7_exchanges 10 = .ok (.iadd, 1) := by decide +kernel
theorem dX7_exchanges_11 : decode cX7_exchanges 11 = .ok (.iload_n 2, 1) := by decide +kernel
theorem dX7_exchanges_12 : decode cX7_exchanges 12 = .ok (.iadd, 1) := by decide +kernel
theorem dX7_exchanges_13 : decode cX7_exchanges 13 = .ok (.istore_n 3, 1) := by decide +kernel
theorem dX7_exchanges_14 : decode cX7_exchanges 14 = .ok (.aload_n 0, 1) := by decide +kernel
theorem dX7_exchanges_15 : decode cX7_exchanges 15 = .ok (.getfield 7, 3) := by decide +kernel
theorem dX7_exchanges_18 : decode cX7_exchanges 18 = .ok (.iload_n 3, 1) := by decide +kernel
theorem dX7_exchanges_19 : decode cX7_exchanges 19 = .ok (.iaload, 1) := by decide +kernel
theorem dX7_exchanges_20 : decode cX7_exchanges 20 = .ok (.istore 4, 2) := by decide +kernel
theorem dX7_exchanges_22 : decode cX7_exchanges 22 = .ok (.aload_n 0, 1) := by decide +kernel
theorem dX7_exchanges_23 : decode cX7_exchanges 23 = .ok (.getfield 7, 3) := by decide +kernel
theorem dX7_exchanges_26 : decode cX7_exchanges 26 = .ok (.iload_n 3, 1) := by decide +kernel
theorem dX7_exchanges_27 : decode cX7_exchanges 27 = .ok (.aload_n 0, 1) := by decide +kernel
theorem dX7_exchanges_28 : decode cX7_exchanges 28 = .ok (.getfield 7, 3) := by decide +kernel
theorem dX7_exchanges_31 : decode cX7_exchanges 31 = .ok (.iload_n 3, 1) := by decide +kernel
theorem dX7_exchanges_32 : decode cX7_exchanges 32 = .ok (.iconst 1, 1) := by decide +kernel
theorem dX7_exchanges_33 : decode cX7_exchanges 33 = .ok (.iadd, 1) := by decide +kernel
theorem dX7_exchanges_34 : decode cX7_exchanges 34 = .ok (.iaload, 1) := by decide +kernel
theorem dX7_exchanges_35 : decode cX7_exchanges 35 = .ok (.iastore, 1) := by decide +kernel
theorem dX7_exchanges_36 : decode cX7_exchanges 36 = .ok (.aload_n 0, 1) := by decide +kernel
theorem dX7_exchanges_37 : decode cX7_exchanges 37 = .ok (.getfield 7, 3) := by decide +kernel
theorem dX7_exchanges_40 : decode cX7_exchanges 40 = .ok (.iload_n 3, 1) := by decide +kernel
theorem dX7_exchanges_41 : decode cX7_exchanges 41 = .ok (.iconst 1, 1) := by decide +kernel
theorem dX7_exchanges_42 : decode cX7_exchanges 42 = .ok (.iadd, 1) := by decide +kernel
theorem dX7_exchanges_43 : decode cX7_exchanges 43 = .ok (.iload 4, 2) := by decide +kernel
theorem dX7_exchanges_45 : decode cX7_exchanges 45 = .ok (.iastore, 1) := by decide +kernel
theorem dX7_exchanges_46 : decode cX7_exchanges 46 = .ok (.aload_n 0, 1) := by decide +kernel
theorem dX7_exchanges_47 : decode cX7_exchanges 47 = .ok (.getfield 7, 3) := by decide +kernel
theorem dX7_exchanges_50 : decode cX7_exchanges 50 = .ok (.iload_n 3, 1) := by decide +kernel
theorem dX7_exchanges_51 : decode cX7_exchanges 51 = .ok (.iaload, 1) := by decide +kernel
theorem dX7_exchanges_52 : decode cX7_exchanges 52 = .ok (.ireturn, 1) := by decide +kernel
theorem dX7_exchange_0 : decode cX7_exchange 0 = .ok (.aload_n 0, 1) := by decide +kernel
theorem dX7_exchange_1 : decode cX7_exchange 1 = .ok (.aload_n 0, 1) := by decide +kernel
theorem dX7_exchange_2 : decode cX7_exchange 2 = .ok (.iload_n 1, 1) := by decide +kernel
theorem dX7_exchange_3 : decode cX7_exchange 3 = .ok (.invokevirtual 51, 3) := by decide +kernel
theorem dX7_exchange_6 : decode cX7_exchange 6 = .ok (.ifCond .eq 12, 3) := by decide +kernel
theorem dX7_exchange_9 : decode cX7_exchange 9 = .ok (.aload_n 0, 1) := by decide +kernel
theorem dX7_exchange_10 : decode cX7_exchange 10 = .ok (.iload_n 1, 1) := by decide +kernel
theorem dX7_exchange_11 : decode cX7_exchange 11 = .ok (.iload_n 2, 1) := by decide +kernel
theorem dX7_exchange_12 : decode cX7_exchange 12 = .ok (.invokevirtual 61, 3) := by decide +kernel
theorem dX7_exchange_15 : decode cX7_exchange 15 = .ok (.ifCond .ne 7, 3) := by decide +kernel
theorem dX7_exchange_18 : decode cX7_exchange 18 = .ok (.iconst 1, 1) := by decide +kernel
theorem dX7_exchange_19 : decode cX7_exchange 19 = .ok (.goto 17, 3) := by decide +kernel
theorem dX7_exchange_22 : decode cX7_exchange 22 = .ok (.aload_n 0, 1) := by decide +kernel
theorem dX7_exchange_23 : decode cX7_exchange 23 = .ok (.iload_n 1, 1) := by decide +kernel
theorem dX7_exchange_24 : decode cX7_exchange 24 = .ok (.iload_n 2, 1) := by decide +kernel
theorem dX7_exchange_25 : decode cX7_exchange 25 = .ok (.invokevirtual 65, 3) := by decide +kernel
theorem dX7_exchange_28 : decode cX7_exchange 28 = .ok (.ifCond .eq 7, 3) := by decide +kernel
theorem dX7_exchange_31 : decode cX7_exchange 31 = .ok (.iconst 2, 1) := by decide +kernel
theorem dX7_exchange_32 : decode cX7_exchange 32 = .ok (.goto 4, 3) := by decide +kernel
theorem dX7_exchange_35 : decode cX7_exchange 35 = .ok (.iconst 0, 1) := by decide +kernel
theorem dX7_exchange_36 : decode cX7_exchange 36 = .ok (.putfield 26, 3) := by decide +kernel
theorem dX7_exchange_39 : decode cX7_exchange 39 = .ok (.aload_n 0, 1) := by decide +kernel
theorem dX7_exchange_40 : decode cX7_exchange 40 = .ok (.getfield 26, 3) := by decide +kernel
theorem dX7_exchange_43 : decode cX7_exchange 43 = .ok (.ifCond .eq 5, 3) := by decide +kernel
theorem dX7_exchange_46 : decode cX7_exchange 46 = .ok (.iconst 0, 1) := by decide +kernel
theorem dX7_exchange_47 : decode cX7_exchange 47 = .ok (.ireturn, 1) := by decide +kernel
theorem dX7_exchange_48 : decode cX7_exchange 48 = .ok (.aload_n 0, 1) := by decide +kernel
theorem dX7_exchange_49 : decode cX7_exchange 49 = .ok (.invokevirtual 48, 3) := by decide +kernel
theorem dX7_exchange_52 : decode cX7_exchange 52 = .ok (.aload_n 0, 1) := by decide +kernel
theorem dX7_exchange_53 : decode cX7_exchange 53 = .ok (.iload_n 1, 1) := by decide +kernel
theorem dX7_exchange_54 : decode cX7_exchange 54 = .ok (.iload_n 2, 1) := by decide +kernel
theorem dX7_exchange_55 : decode cX7_exchange 55 = .ok (.invokevirtual 68, 3) := by decide +kernel
theorem dX7_exchange_58 : decode cX7_exchange 58 = .ok (.ireturn, 1) := by decide +kernel
theorem dX7_setTerms_0 : decode cX7_setTerms 0 = .ok (.aload_n 0, 1) := by decide +kernel
theorem dX7_setTerms_1 : decode cX7_setTerms 1 = .ok (.iload_n 1, 1) := by decide +kernel
theorem dX7_setTerms_2 : decode cX7_setTerms 2 = .ok (.iconst 0, 1) := by decide +kernel
theorem dX7_setTerms_3 : decode cX7_setTerms 3 = .ok (.iconst 2, 1) := by decide +kernel
theorem dX7_setTerms_4 : decode cX7_setTerms 4 = .ok (.invokestatic 37, 3) := by decide +kernel
theorem dX7_setTerms_7 : decode cX7_setTerms 7 = .ok (.ifCond .ne 7, 3) := by decide +kernel
theorem dX7_setTerms_10 : decode cX7_setTerms 10 = .ok (.iconst 1, 1) := by decide +kernel
theorem dX7_setTerms_11 : decode cX7_setTerms 11 = .ok (.goto 41, 3) := by decide +kernel
theorem dX7_setTerms_14 : decode cX7_setTerms 14 = .ok (.iload_n 2, 1) := by decide +kernel
theorem dX7_setTerms_15 : decode cX7_setTerms 15 = .ok (.iconst 1, 1) := by decide +kernel
theorem dX7_setTerms_16 : decode cX7_setTerms 16 = .ok (.sipush 200, 3) := by decide +kernel
theorem dX7_setTerms_19 : decode cX7_setTerms 19 = .ok (.invokestatic 37, 3) := by decide +kernel
theorem dX7_setTerms_22 : decode cX7_setTerms 22 = .ok (.ifCond .eq 25, 3) := by decide +kernel
theorem dX7_setTerms_25 : decode cX7_setTerms 25 = .ok (.iload_n 3, 1) := by decide +kernel
theorem dX7_setTerms_26 : decode cX7_setTerms 26 = .ok (.iconst 1, 1) := by decide +kernel
theorem dX7_setTerms_27 : decode cX7_setTerms 27 = .ok (.bipush 48, 2) := by decide +kernel
theorem dX7_setTerms_29 : decode cX7_setTerms 29 = .ok (.invokestatic 37, 3) := by decide +kernel
theorem dX7_setTerms_32 : decode cX7_setTerms 32 = .ok (.ifCond .eq 15, 3) := by decide +kernel
theorem dX7_setTerms_35 : decode cX7_setTerms 35 = .ok (.iload 4, 2) := by decide +kernel
theorem dX7_setTerms_37 : decode cX7_setTerms 37 = .ok (.iconst 0, 1) := by decide +kernel
theorem dX7_setTerms_38 : decode cX7_setTerms 38 = .ok (.sipush 1000, 3) := by decide +kernel
theorem dX7_setTerms_41 : decode cX7_setTerms 41 = .ok (.invokestatic 37, 3) := by decide +kernel
theorem dX7_setTerms_44 : decode cX7_setTerms 44 = .ok (.ifCond .ne 7, 3) := by decide +kernel
theorem dX7_setTerms_47 : decode cX7_setTerms 47 = .ok (.iconst 2, 1) := by decide +kernel
theorem dX7_setTerms_48 : decode cX7_setTerms 48 = .ok (.goto 4, 3) := by decide +kernel
theorem dX7_setTerms_51 : decode cX7_setTerms 51 = .ok (.iconst 0, 1) := by decide +kernel
theorem dX7_setTerms_52 : decode cX7_setTerms 52 = .ok (.putfield 26, 3) := by decide +kernel
theorem dX7_setTerms_55 : decode cX7_setTerms 55 = .ok (.aload_n 0, 1) := by decide +kernel
theorem dX7_setTerms_56 : decode cX7_setTerms 56 = .ok (.getfield 26, 3) := by decide +kernel
theorem dX7_setTerms_59 : decode cX7_setTerms 59 = .ok (.ifCond .eq 5, 3) := by decide +kernel
theorem dX7_setTerms_62 : decode cX7_setTerms 62 = .ok (.iconst 0, 1) := by decide +kernel
theorem dX7_setTerms_63 : decode cX7_setTerms 63 = .ok (.ireturn, 1) := by decide +kernel
theorem dX7_setTerms_64 : decode cX7_setTerms 64 = .ok (.aload_n 0, 1) := by decide +kernel
theorem dX7_setTerms_65 : decode cX7_setTerms 65 = .ok (.invokevirtual 48, 3) := by decide +kernel
theorem dX7_setTerms_68 : decode cX7_setTerms 68 = .ok (.aload_n 0, 1) := by decide +kernel
theorem dX7_setTerms_69 : decode cX7_setTerms 69 = .ok (.getfield 7, 3) := by decide +kernel
theorem dX7_setTerms_72 : decode cX7_setTerms 72 = .ok (.sipush 229, 3) := by decide +kernel
theorem dX7_setTerms_75 : decode cX7_setTerms 75 = .ok (.iconst 4, 1) := by decide +kernel
theorem dX7_setTerms_76 : decode cX7_setTerms 76 = .ok (.iload_n 1, 1) := by decide +kernel
theorem dX7_setTerms_77 : decode cX7_setTerms 77 = .ok (.imul, 1) := by decide +kernel
theorem dX7_setTerms_78 : decode cX7_setTerms 78 = .ok (.iadd, 1) := by decide +kernel
theorem dX7_setTerms_79 : decode cX7_setTerms 79 = .ok (.iconst 0, 1) := by decide +kernel
theorem dX7_setTerms_80 : decode cX7_setTerms 80 = .ok (.iadd, 1) := by decide +kernel
theorem dX7_setTerms_81 : decode cX7_setTerms 81 = .ok (.iaload, 1) := by decide +kernel
theorem dX7_setTerms_82 : decode cX7_setTerms 82 = .ok (.istore 5, 2) := by decide +kernel
theorem dX7_setTerms_84 : decode cX7_setTerms 84 = .ok (.aload_n 0, 1) := by decide +kernel
theorem dX7_setTerms_85 : decode cX7_setTerms 85 = .ok (.iload_n 1, 1) := by decide +kernel
theorem dX7_setTerms_86 : decode cX7_setTerms 86 = .ok (.iload_n 2, 1) := by decide +kernel
theorem dX7_setTerms_87 : decode cX7_setTerms 87 = .ok (.iload_n 3, 1) := by decide +kernel
theorem dX7_setTerms_88 : decode cX7_setTerms 88 = .ok (.iload 4, 2) := by decide +kernel
theorem dX7_setTerms_90 : decode cX7_setTerms 90 = .ok (.invokevirtual 22, 3) := by decide +kernel
theorem dX7_setTerms_93 : decode cX7_setTerms 93 = .ok (.iload 5, 2) := by decide +kernel
theorem dX7_setTerms_95 : decode cX7_setTerms 95 = .ok (.ireturn, 1) := by decide +kernel
theorem dX7_setSpread_0 : decode cX7_setSpread 0 = .ok (.aload_n 0, 1) := by decide +kernel
theorem dX7_setSpread_1 : decode cX7_setSpread 1 = .ok (.iload_n 1, 1) := by decide +kernel
theorem dX7_setSpread_2 : decode cX7_setSpread 2 = .ok (.iconst 0, 1) := by decide +kernel
theorem dX7_setSpread_3 : decode cX7_setSpread 3 = .ok (.bipush 50, 2) := by decide +kernel
theorem dX7_setSpread_5 : decode cX7_setSpread 5 = .ok (.invokestatic 37, 3) := by decide +kernel
theorem dX7_setSpread_8 : decode cX7_setSpread 8 = .ok (.ifCond .eq 7, 3) := by decide +kernel
theorem dX7_setSpread_11 : decode cX7_setSpread 11 = .ok (.iconst 0, 1) := by decide +kernel
theorem dX7_setSpread_12 : decode cX7_setSpread 12 = .ok (.goto 4, 3) := by decide +kernel
theorem dX7_setSpread_15 : decode cX7_setSpread 15 = .ok (.iconst 1, 1) := by decide +kernel
theorem dX7_setSpread_16 : decode cX7_setSpread 16 = .ok (.putfield 26, 3) := by decide +kernel
theorem dX7_setSpread_19 : decode cX7_setSpread 19 = .ok (.aload_n 0, 1) := by decide +kernel
theorem dX7_setSpread_20 : decode cX7_setSpread 20 = .ok (.getfield 26, 3) := by decide +kernel
theorem dX7_setSpread_23 : decode cX7_setSpread 23 = .ok (.ifCond .eq 5, 3) := by decide +kernel
theorem dX7_setSpread_26 : decode cX7_setSpread 26 = .ok (.iconst 0, 1) := by decide +kernel
theorem dX7_setSpread_27 : decode cX7_setSpread 27 = .ok (.ireturn, 1) := by decide +kernel
theorem dX7_setSpread_28 : decode cX7_setSpread 28 = .ok (.aload_n 0, 1) := by decide +kernel
theorem dX7_setSpread_29 : decode cX7_setSpread 29 = .ok (.invokevirtual 48, 3) := by decide +kernel
theorem dX7_setSpread_32 : decode cX7_setSpread 32 = .ok (.aload_n 0, 1) := by decide +kernel
theorem dX7_setSpread_33 : decode cX7_setSpread 33 = .ok (.getfield 7, 3) := by decide +kernel
theorem dX7_setSpread_36 : decode cX7_setSpread 36 = .ok (.iconst 4, 1) := by decide +kernel
theorem dX7_setSpread_37 : decode cX7_setSpread 37 = .ok (.iaload, 1) := by decide +kernel
theorem dX7_setSpread_38 : decode cX7_setSpread 38 = .ok (.istore_n 2, 1) := by decide +kernel
theorem dX7_setSpread_39 : decode cX7_setSpread 39 = .ok (.aload_n 0, 1) := by decide +kernel
theorem dX7_setSpread_40 : decode cX7_setSpread 40 = .ok (.getfield 7, 3) := by decide +kernel
theorem dX7_setSpread_43 : decode cX7_setSpread 43 = .ok (.iconst 4, 1) := by decide +kernel
theorem dX7_setSpread_44 : decode cX7_setSpread 44 = .ok (.iload_n 1, 1) := by decide +kernel
theorem dX7_setSpread_45 : decode cX7_setSpread 45 = .ok (.iastore, 1) := by decide +kernel
theorem dX7_setSpread_46 : decode cX7_setSpread 46 = .ok (.iload_n 2, 1) := by decide +kernel
theorem dX7_setSpread_47 : decode cX7_setSpread 47 = .ok (.ireturn, 1) := by decide +kernel
theorem dX7_deliver_0 : decode cX7_deliver 0 = .ok (.aload_n 0, 1) := by decide +kernel
theorem dX7_deliver_1 : decode cX7_deliver 1 = .ok (.iload_n 1, 1) := by decide +kernel
theorem dX7_deliver_2 : decode cX7_deliver 2 = .ok (.iconst 0, 1) := by decide +kernel
theorem dX7_deliver_3 : decode cX7_deliver 3 = .ok (.ldc 71, 2) := by decide +kernel
theorem dX7_deliver_5 : decode cX7_deliver 5 = .ok (.invokestatic 37, 3) := by decide +kernel
theorem dX7_deliver_8 : decode cX7_deliver 8 = .ok (.ifCond .ne 7, 3) := by decide +kernel
theorem dX7_deliver_11 : decode cX7_deliver 11 = .ok (.iconst 1, 1) := by decide +kernel
theorem dX7_deliver_12 : decode cX7_deliver 12 = .ok (.goto 21, 3) := by decide +kernel
theorem dX7_deliver_15 : decode cX7_deliver 15 = .ok (.aload_n 0, 1) := by decide +kernel
theorem dX7_deliver_16 : decode cX7_deliver 16 = .ok (.getfield 7, 3) := by decide +kernel
theorem dX7_deliver_19 : decode cX7_deliver 19 = .ok (.iconst 3, 1) := by decide +kernel
theorem dX7_deliver_20 : decode cX7_deliver 20 = .ok (.iaload, 1) := by decide +kernel
theorem dX7_deliver_21 : decode cX7_deliver 21 = .ok (.iload_n 1, 1) := by decide +kernel
theorem dX7_deliver_22 : decode cX7_deliver 22 = .ok (.iadd, 1) := by decide +kernel
theorem dX7_deliver_23 : decode cX7_deliver 23 = .ok (.ldc 71, 2) := by decide +kernel
theorem dX7_deliver_25 : decode cX7_deliver 25 = .ok (.if_icmp .le 7, 3) := by decide +kernel
theorem dX7_deliver_28 : decode cX7_deliver 28 = .ok (.iconst 2, 1) := by decide +kernel
theorem dX7_deliver_29 : decode cX7_deliver 29 = .ok (.goto 4, 3) := by decide +kernel
theorem dX7_deliver_32 : decode cX7_deliver 32 = .ok (.iconst 0, 1) := by decide +kernel
theorem dX7_deliver_33 : decode cX7_deliver 33 = .ok (.putfield 26, 3) := by decide +kernel
theorem dX7_deliver_36 : decode cX7_deliver 36 = .ok (.aload_n 0, 1) := by decide +kernel
theorem dX7_deliver_37 : decode cX7_deliver 37 = .ok (.getfield 26, 3) := by decide +kernel
theorem dX7_deliver_40 : decode cX7_deliver 40 = .ok (.ifCond .eq 5, 3) := by decide +kernel
theorem dX7_deliver_43 : decode cX7_deliver 43 = .ok (.iconst 0, 1) := by decide +kernel
theorem dX7_deliver_44 : decode cX7_deliver 44 = .ok (.ireturn, 1) := by decide +kernel
theorem dX7_deliver_45 : decode cX7_deliver 45 = .ok (.aload_n 0, 1) := by decide +kernel
theorem dX7_deliver_46 : decode cX7_deliver 46 = .ok (.invokevirtual 48, 3) := by decide +kernel
theorem dX7_deliver_49 : decode cX7_deliver 49 = .ok (.aload_n 0, 1) := by decide +kernel
theorem dX7_deliver_50 : decode cX7_deliver 50 = .ok (.getfield 7, 3) := by decide +kernel
theorem dX7_deliver_53 : decode cX7_deliver 53 = .ok (.iconst 3, 1) := by decide +kernel
theorem dX7_deliver_54 : decode cX7_deliver 54 = .ok (.dup2, 1) := by decide +kernel
theorem dX7_deliver_55 : decode cX7_deliver 55 = .ok (.iaload, 1) := by decide +kernel
theorem dX7_deliver_56 : decode cX7_deliver 56 = .ok (.iload_n 1, 1) := by decide +kernel
theorem dX7_deliver_57 : decode cX7_deliver 57 = .ok (.iadd, 1) := by decide +kernel
theorem dX7_deliver_58 : decode cX7_deliver 58 = .ok (.iastore, 1) := by decide +kernel
theorem dX7_deliver_59 : decode cX7_deliver 59 = .ok (.aload_n 0, 1) := by decide +kernel
theorem dX7_deliver_60 : decode cX7_deliver 60 = .ok (.getfield 7, 3) := by decide +kernel
theorem dX7_deliver_63 : decode cX7_deliver 63 = .ok (.bipush 7, 2) := by decide +kernel
theorem dX7_deliver_65 : decode cX7_deliver 65 = .ok (.dup2, 1) := by decide +kernel
theorem dX7_deliver_66 : decode cX7_deliver 66 = .ok (.iaload, 1) := by decide +kernel
theorem dX7_deliver_67 : decode cX7_deliver 67 = .ok (.iload_n 1, 1) := by decide +kernel
theorem dX7_deliver_68 : decode cX7_deliver 68 = .ok (.iadd, 1) := by decide +kernel
theorem dX7_deliver_69 : decode cX7_deliver 69 = .ok (.iastore, 1) := by decide +kernel
theorem dX7_deliver_70 : decode cX7_deliver 70 = .ok (.aload_n 0, 1) := by decide +kernel
theorem dX7_deliver_71 : decode cX7_deliver 71 = .ok (.getfield 7, 3) := by decide +kernel
theorem dX7_deliver_74 : decode cX7_deliver 74 = .ok (.iconst 3, 1) := by decide +kernel
theorem dX7_deliver_75 : decode cX7_deliver 75 = .ok (.iaload, 1) := by decide +kernel
theorem dX7_deliver_76 : decode cX7_deliver 76 = .ok (.ireturn, 1) := by decide +kernel
theorem dX7_weather_0 : decode cX7_weather 0 = .ok (.bipush 9, 2) := by decide +kernel
theorem dX7_weather_2 : decode cX7_weather 2 = .ok (.bipush 8, 2) := by decide +kernel
theorem dX7_weather_4 : decode cX7_weather 4 = .ok (.iload_n 1, 1) := by decide +kernel
theorem dX7_weather_5 : decode cX7_weather 5 = .ok (.imul, 1) := by decide +kernel
theorem dX7_weather_6 : decode cX7_weather 6 = .ok (.iadd, 1) := by decide +kernel
theorem dX7_weather_7 : decode cX7_weather 7 = .ok (.istore 4, 2) := by decide +kernel
theorem dX7_weather_9 : decode cX7_weather 9 = .ok (.aload_n 0, 1) := by decide +kernel
theorem dX7_weather_10 : decode cX7_weather 10 = .ok (.getfield 7, 3) := by decide +kernel
theorem dX7_weather_13 : decode cX7_weather 13 = .ok (.iload 4, 2) := by decide +kernel
theorem dX7_weather_15 : decode cX7_weather 15 = .ok (.iconst 2, 1) := by decide +kernel
theorem dX7_weather_16 : decode cX7_weather 16 = .ok (.iadd, 1) := by decide +kernel
theorem dX7_weather_17 : decode cX7_weather 17 = .ok (.dup2, 1) := by decide +kernel
theorem dX7_weather_18 : decode cX7_weather 18 = .ok (.iaload, 1) := by decide +kernel
theorem dX7_weather_19 : decode cX7_weather 19 = .ok (.iload_n 3, 1) := by decide +kernel
theorem dX7_weather_20 : decode cX7_weather 20 = .ok (.iadd, 1) := by decide +kernel
theorem dX7_weather_21 : decode cX7_weather 21 = .ok (.iastore, 1) := by decide +kernel
theorem dX7_weather_22 : decode cX7_weather 22 = .ok (.iload_n 2, 1) := by decide +kernel
theorem dX7_weather_23 : decode cX7_weather 23 = .ok (.ifCond .le 89, 3) := by decide +kernel
theorem dX7_weather_26 : decode cX7_weather 26 = .ok (.aload_n 0, 1) := by decide +kernel
theorem dX7_weather_27 : decode cX7_weather 27 = .ok (.getfield 7, 3) := by decide +kernel
theorem dX7_weather_30 : decode cX7_weather 30 = .ok (.iload 4, 2) := by decide +kernel
theorem dX7_weather_32 : decode cX7_weather 32 = .ok (.iconst 2, 1) := by decide +kernel
theorem dX7_weather_33 : decode cX7_weather 33 = .ok (.iadd, 1) := by decide +kernel
theorem dX7_weather_34 : decode cX7_weather 34 = .ok (.iaload, 1) := by decide +kernel
theorem dX7_weather_35 : decode cX7_weather 35 = .ok (.iload_n 2, 1) := by decide +kernel
theorem dX7_weather_36 : decode cX7_weather 36 = .ok (.iconst 5, 1) := by decide +kernel
theorem dX7_weather_37 : decode cX7_weather 37 = .ok (.idiv, 1) := by decide +kernel
theorem dX7_weather_38 : decode cX7_weather 38 = .ok (.invokestatic 72, 3) := by decide +kernel
theorem dX7_weather_41 : decode cX7_weather 41 = .ok (.istore 5, 2) := by decide +kernel
theorem dX7_weather_43 : decode cX7_weather 43 = .ok (.aload_n 0, 1) := by decide +kernel
theorem dX7_weather_44 : decode cX7_weather 44 = .ok (.getfield 7, 3) := by decide +kernel
theorem dX7_weather_47 : decode cX7_weather 47 = .ok (.iload 4, 2) := by decide +kernel
theorem dX7_weather_49 : decode cX7_weather 49 = .ok (.iconst 2, 1) := by decide +kernel
theorem dX7_weather_50 : decode cX7_weather 50 = .ok (.iadd, 1) := by decide +kernel
theorem dX7_weather_51 : decode cX7_weather 51 = .ok (.dup2, 1) := by decide +kernel
theorem dX7_weather_52 : decode cX7_weather 52 = .ok (.iaload, 1) := by decide +kernel
theorem dX7_weather_53 : decode cX7_weather 53 = .ok (.iload 5, 2) := by decide +kernel
theorem dX7_weather_55 : decode cX7_weather 55 = .ok (.isub, 1) := by decide +kernel
theorem dX7_weather_56 : decode cX7_weather 56 = .ok (.iastore, 1) := by decide +kernel
theorem dX7_weather_57 : decode cX7_weather 57 = .ok (.aload_n 0, 1) := by decide +kernel
theorem dX7_weather_58 : decode cX7_weather 58 = .ok (.getfield 7, 3) := by decide +kernel
theorem dX7_weather_61 : decode cX7_weather 61 = .ok (.iload 4, 2) := by decide +kernel
theorem dX7_weather_63 : decode cX7_weather 63 = .ok (.iconst 3, 1) := by decide +kernel
theorem dX7_weather_64 : decode cX7_weather 64 = .ok (.iadd, 1) := by decide +kernel
theorem dX7_weather_65 : decode cX7_weather 65 = .ok (.aload_n 0, 1) := by decide +kernel
theorem dX7_weather_66 : decode cX7_weather 66 = .ok (.getfield 7, 3) := by decide +kernel
theorem dX7_weather_69 : decode cX7_weather 69 = .ok (.iload 4, 2) := by decide +kernel
theorem dX7_weather_71 : decode cX7_weather 71 = .ok (.iconst 3, 1) := by decide +kernel
theorem dX7_weather_72 : decode cX7_weather 72 = .ok (.iadd, 1) := by decide +kernel
theorem dX7_weather_73 : decode cX7_weather 73 = .ok (.iaload, 1) := by decide +kernel
theorem dX7_weather_74 : decode cX7_weather 74 = .ok (.iconst 2, 1) := by decide +kernel
theorem dX7_weather_75 : decode cX7_weather 75 = .ok (.iload 5, 2) := by decide +kernel
theorem dX7_weather_77 : decode cX7_weather 77 = .ok (.imul, 1) := by decide +kernel
theorem dX7_weather_78 : decode cX7_weather 78 = .ok (.iadd, 1) := by decide +kernel
theorem dX7_weather_79 : decode cX7_weather 79 = .ok (.bipush 100, 2) := by decide +kernel
theorem dX7_weather_81 : decode cX7_weather 81 = .ok (.invokestatic 72, 3) := by decide +kernel
theorem dX7_weather_84 : decode cX7_weather 84 = .ok (.iastore, 1) := by decide +kernel
theorem dX7_weather_85 : decode cX7_weather 85 = .ok (.aload_n 0, 1) := by decide +kernel
theorem dX7_weather_86 : decode cX7_weather 86 = .ok (.getfield 7, 3) := by decide +kernel
theorem dX7_weather_89 : decode cX7_weather 89 = .ok (.iload 4, 2) := by decide +kernel
theorem dX7_weather_91 : decode cX7_weather 91 = .ok (.iconst 4, 1) := by decide +kernel
theorem dX7_weather_92 : decode cX7_weather 92 = .ok (.iadd, 1) := by decide +kernel
theorem dX7_weather_93 : decode cX7_weather 93 = .ok (.dup2, 1) := by decide +kernel
theorem dX7_weather_94 : decode cX7_weather 94 = .ok (.iaload, 1) := by decide +kernel
theorem dX7_weather_95 : decode cX7_weather 95 = .ok (.aload_n 0, 1) := by decide +kernel
theorem dX7_weather_96 : decode cX7_weather 96 = .ok (.getfield 7, 3) := by decide +kernel
theorem dX7_weather_99 : decode cX7_weather 99 = .ok (.iload 4, 2) := by decide +kernel
theorem dX7_weather_101 : decode cX7_weather 101 = .ok (.iconst 4, 1) := by decide +kernel
theorem dX7_weather_102 : decode cX7_weather 102 = .ok (.iadd, 1) := by decide +kernel
theorem dX7_weather_103 : decode cX7_weather 103 = .ok (.iaload, 1) := by decide +kernel
theorem dX7_weather_104 : decode cX7_weather 104 = .ok (.iload_n 2, 1) := by decide +kernel
theorem dX7_weather_105 : decode cX7_weather 105 = .ok (.iconst 5, 1) := by decide +kernel
theorem dX7_weather_106 : decode cX7_weather 106 = .ok (.idiv, 1) := by decide +kernel
theorem dX7_weather_107 : decode cX7_weather 107 = .ok (.invokestatic 72, 3) := by decide +kernel
theorem dX7_weather_110 : decode cX7_weather 110 = .ok (.isub, 1) := by decide +kernel
theorem dX7_weather_111 : decode cX7_weather 111 = .ok (.iastore, 1) := by decide +kernel
theorem dX7_weather_112 : decode cX7_weather 112 = .ok (.iload_n 2, 1) := by decide +kernel
theorem dX7_weather_113 : decode cX7_weather 113 = .ok (.ifCond .ge 64, 3) := by decide +kernel
theorem dX7_weather_116 : decode cX7_weather 116 = .ok (.aload_n 0, 1) := by decide +kernel
theorem dX7_weather_117 : decode cX7_weather 117 = .ok (.getfield 7, 3) := by decide +kernel
theorem dX7_weather_120 : decode cX7_weather 120 = .ok (.iload 4, 2) := by decide +kernel
theorem dX7_weather_122 : decode cX7_weather 122 = .ok (.iconst 3, 1) := by decide +kernel
theorem dX7_weather_123 : decode cX7_weather 123 = .ok (.iadd, 1) := by decide +kernel
theorem dX7_weather_124 : decode cX7_weather 124 = .ok (.iaload, 1) := by decide +kernel
theorem dX7_weather_125 : decode cX7_weather 125 = .ok (.iload_n 2, 1) := by decide +kernel
theorem dX7_weather_126 : decode cX7_weather 126 = .ok (.ineg, 1) := by decide +kernel
theorem dX7_weather_127 : decode cX7_weather 127 = .ok (.bipush 10, 2) := by decide +kernel
theorem dX7_weather_129 : decode cX7_weather 129 = .ok (.idiv, 1) := by decide +kernel
theorem dX7_weather_130 : decode cX7_weather 130 = .ok (.iconst 1, 1) := by decide +kernel
theorem dX7_weather_131 : decode cX7_weather 131 = .ok (.iadd, 1) := by decide +kernel
theorem dX7_weather_132 : decode cX7_weather 132 = .ok (.invokestatic 72, 3) := by decide +kernel
theorem dX7_weather_135 : decode cX7_weather 135 = .ok (.istore 5, 2) := by decide +kernel
theorem dX7_weather_137 : decode cX7_weather 137 = .ok (.aload_n 0, 1) := by decide +kernel
theorem dX7_weather_138 : decode cX7_weather 138 = .ok (.getfield 7, 3) := by decide +kernel
theorem dX7_weather_141 : decode cX7_weather 141 = .ok (.iload 4, 2) := by decide +kernel
theorem dX7_weather_143 : decode cX7_weather 143 = .ok (.iconst 3, 1) := by decide +kernel
theorem dX7_weather_144 : decode cX7_weather 144 = .ok (.iadd, 1) := by decide +kernel
theorem dX7_weather_145 : decode cX7_weather 145 = .ok (.dup2, 1) := by decide +kernel
theorem dX7_weather_146 : decode cX7_weather 146 = .ok (.iaload, 1) := by decide +kernel
theorem dX7_weather_147 : decode cX7_weather 147 = .ok (.iload 5, 2) := by decide +kernel
theorem dX7_weather_149 : decode cX7_weather 149 = .ok (.isub, 1) := by decide +kernel
theorem dX7_weather_150 : decode cX7_weather 150 = .ok (.iastore, 1) := by decide +kernel
theorem dX7_weather_151 : decode cX7_weather 151 = .ok (.aload_n 0, 1) := by decide +kernel
theorem dX7_weather_152 : decode cX7_weather 152 = .ok (.getfield 7, 3) := by decide +kernel
theorem dX7_weather_155 : decode cX7_weather 155 = .ok (.iload 4, 2) := by decide +kernel
theorem dX7_weather_157 : decode cX7_weather 157 = .ok (.iconst 4, 1) := by decide +kernel
theorem dX7_weather_158 : decode cX7_weather 158 = .ok (.iadd, 1) := by decide +kernel
theorem dX7_weather_159 : decode cX7_weather 159 = .ok (.aload_n 0, 1) := by decide +kernel
theorem dX7_weather_160 : decode cX7_weather 160 = .ok (.getfield 7, 3) := by decide +kernel
theorem dX7_weather_163 : decode cX7_weather 163 = .ok (.iload 4, 2) := by decide +kernel
theorem dX7_weather_165 : decode cX7_weather 165 = .ok (.iconst 4, 1) := by decide +kernel
theorem dX7_weather_166 : decode cX7_weather 166 = .ok (.iadd, 1) := by decide +kernel
theorem dX7_weather_167 : decode cX7_weather 167 = .ok (.iaload, 1) := by decide +kernel
theorem dX7_weather_168 : decode cX7_weather 168 = .ok (.iload 5, 2) := by decide +kernel
theorem dX7_weather_170 : decode cX7_weather 170 = .ok (.iadd, 1) := by decide +kernel
theorem dX7_weather_171 : decode cX7_weather 171 = .ok (.bipush 100, 2) := by decide +kernel
theorem dX7_weather_173 : decode cX7_weather 173 = .ok (.invokestatic 72, 3) := by decide +kernel
theorem dX7_weather_176 : decode cX7_weather 176 = .ok (.iastore, 1) := by decide +kernel
theorem dX7_weather_177 : decode cX7_weather 177 = .ok (.return_, 1) := by decide +kernel
theorem dX7_clears_0 : decode cX7_clears 0 = .ok (.bipush 9, 2) := by decide +kernel
theorem dX7_clears_2 : decode cX7_clears 2 = .ok (.bipush 8, 2) := by decide +kernel
theorem dX7_clears_4 : decode cX7_clears 4 = .ok (.iload_n 2, 1) := by decide +kernel
theorem dX7_clears_5 : decode cX7_clears 5 = .ok (.imul, 1) := by decide +kernel
theorem dX7_clears_6 : decode cX7_clears 6 = .ok (.iadd, 1) := by decide +kernel
theorem dX7_clears_7 : decode cX7_clears 7 = .ok (.istore_n 3, 1) := by decide +kernel
theorem dX7_clears_8 : decode cX7_clears 8 = .ok (.aload_n 0, 1) := by decide +kernel
theorem dX7_clears_9 : decode cX7_clears 9 = .ok (.getfield 7, 3) := by decide +kernel
theorem dX7_clears_12 : decode cX7_clears 12 = .ok (.iload_n 3, 1) := by decide +kernel
theorem dX7_clears_13 : decode cX7_clears 13 = .ok (.iconst 0, 1) := by decide +kernel
theorem dX7_clears_14 : decode cX7_clears 14 = .ok (.iadd, 1) := by decide +kernel
theorem dX7_clears_15 : decode cX7_clears 15 = .ok (.iaload, 1) := by decide +kernel
theorem dX7_clears_16 : decode cX7_clears 16 = .ok (.aload_n 0, 1) := by decide +kernel
theorem dX7_clears_17 : decode cX7_clears 17 = .ok (.getfield 7, 3) := by decide +kernel
theorem dX7_clears_20 : decode cX7_clears 20 = .ok (.iconst 4, 1) := by decide +kernel
theorem dX7_clears_21 : decode cX7_clears 21 = .ok (.iaload, 1) := by decide +kernel
theorem dX7_clears_22 : decode cX7_clears 22 = .ok (.imul, 1) := by decide +kernel
theorem dX7_clears_23 : decode cX7_clears 23 = .ok (.sipush 999, 3) := by decide +kernel
theorem dX7_clears_26 : decode cX7_clears 26 = .ok (.iadd, 1) := by decide +kernel
theorem dX7_clears_27 : decode cX7_clears 27 = .ok (.sipush 1000, 3) := by decide +kernel
theorem dX7_clears_30 : decode cX7_clears 30 = .ok (.idiv, 1) := by decide +kernel
theorem dX7_clears_31 : decode cX7_clears 31 = .ok (.istore 4, 2) := by decide +kernel
theorem dX7_clears_33 : decode cX7_clears 33 = .ok (.iload 4, 2) := by decide +kernel
theorem dX7_clears_35 : decode cX7_clears 35 = .ok (.aload_n 0, 1) := by decide +kernel
theorem dX7_clears_36 : decode cX7_clears 36 = .ok (.iload_n 1, 1) := by decide +kernel
theorem dX7_clears_37 : decode cX7_clears 37 = .ok (.iconst 2, 1) := by decide +kernel
theorem dX7_clears_38 : decode cX7_clears 38 = .ok (.invokevirtual 58, 3) := by decide +kernel
theorem dX7_clears_41 : decode cX7_clears 41 = .ok (.invokestatic 72, 3) := by decide +kernel
theorem dX7_clears_44 : decode cX7_clears 44 = .ok (.istore 5, 2) := by decide +kernel
theorem dX7_clears_46 : decode cX7_clears 46 = .ok (.aload_n 0, 1) := by decide +kernel
theorem dX7_clears_47 : decode cX7_clears 47 = .ok (.getfield 7, 3) := by decide +kernel
theorem dX7_clears_50 : decode cX7_clears 50 = .ok (.iload_n 3, 1) := by decide +kernel
theorem dX7_clears_51 : decode cX7_clears 51 = .ok (.iconst 2, 1) := by decide +kernel
theorem dX7_clears_52 : decode cX7_clears 52 = .ok (.iadd, 1) := by decide +kernel
theorem dX7_clears_53 : decode cX7_clears 53 = .ok (.iconst 0, 1) := by decide +kernel
theorem dX7_clears_54 : decode cX7_clears 54 = .ok (.iastore, 1) := by decide +kernel
theorem dX7_clears_55 : decode cX7_clears 55 = .ok (.aload_n 0, 1) := by decide +kernel
theorem dX7_clears_56 : decode cX7_clears 56 = .ok (.getfield 7, 3) := by decide +kernel
theorem dX7_clears_59 : decode cX7_clears 59 = .ok (.iload_n 3, 1) := by decide +kernel
theorem dX7_clears_60 : decode cX7_clears 60 = .ok (.iconst 4, 1) := by decide +kernel
theorem dX7_clears_61 : decode cX7_clears 61 = .ok (.iadd, 1) := by decide +kernel
theorem dX7_clears_62 : decode cX7_clears 62 = .ok (.dup2, 1) := by decide +kernel
theorem dX7_clears_63 : decode cX7_clears 63 = .ok (.iaload, 1) := by decide +kernel
theorem dX7_clears_64 : decode cX7_clears 64 = .ok (.iload 4, 2) := by decide +kernel
theorem dX7_clears_66 : decode cX7_clears 66 = .ok (.ifCond .le 20, 3) := by decide +kernel
theorem dX7_clears_69 : decode cX7_clears 69 = .ok (.aload_n 0, 1) := by decide +kernel
theorem dX7_clears_70 : decode cX7_clears 70 = .ok (.getfield 7, 3) := by decide +kernel
theorem dX7_clears_73 : decode cX7_clears 73 = .ok (.iload_n 3, 1) := by decide +kernel
theorem dX7_clears_74 : decode cX7_clears 74 = .ok (.iconst 4, 1) := by decide +kernel
theorem dX7_clears_75 : decode cX7_clears 75 = .ok (.iadd, 1) := by decide +kernel
theorem dX7_clears_76 : decode cX7_clears 76 = .ok (.iaload, 1) := by decide +kernel
theorem dX7_clears_77 : decode cX7_clears 77 = .ok (.iload 5, 2) := by decide +kernel
theorem dX7_clears_79 : decode cX7_clears 79 = .ok (.imul, 1) := by decide +kernel
theorem dX7_clears_80 : decode cX7_clears 80 = .ok (.iload 4, 2) := by decide +kernel
theorem dX7_clears_82 : decode cX7_clears 82 = .ok (.idiv, 1) := by decide +kernel
theorem dX7_clears_83 : decode cX7_clears 83 = .ok (.goto 4, 3) := by decide +kernel
theorem dX7_clears_86 : decode cX7_clears 86 = .ok (.iconst 0, 1) := by decide +kernel
theorem dX7_clears_87 : decode cX7_clears 87 = .ok (.isub, 1) := by decide +kernel
theorem dX7_clears_88 : decode cX7_clears 88 = .ok (.iastore, 1) := by decide +kernel
theorem dX7_clears_89 : decode cX7_clears 89 = .ok (.aload_n 0, 1) := by decide +kernel
theorem dX7_clears_90 : decode cX7_clears 90 = .ok (.getfield 7, 3) := by decide +kernel
theorem dX7_clears_93 : decode cX7_clears 93 = .ok (.iload_n 3, 1) := by decide +kernel
theorem dX7_clears_94 : decode cX7_clears 94 = .ok (.bipush 6, 2) := by decide +kernel
theorem dX7_clears_96 : decode cX7_clears 96 = .ok (.iadd, 1) := by decide +kernel
theorem dX7_clears_97 : decode cX7_clears 97 = .ok (.dup2, 1) := by decide +kernel
theorem dX7_clears_98 : decode cX7_clears 98 = .ok (.iaload, 1) := by decide +kernel
theorem dX7_clears_99 : decode cX7_clears 99 = .ok (.iconst 1, 1) := by decide +kernel
theorem dX7_clears_100 : decode cX7_clears 100 = .ok (.iadd, 1) := by decide +kernel
theorem dX7_clears_101 : decode cX7_clears 101 = .ok (.iastore, 1) := by decide +kernel
theorem dX7_clears_102 : decode cX7_clears 102 = .ok (.aload_n 0, 1) := by decide +kernel
theorem dX7_clears_103 : decode cX7_clears 103 = .ok (.getfield 7, 3) := by decide +kernel
theorem dX7_clears_106 : decode cX7_clears 106 = .ok (.iload_n 3, 1) := by decide +kernel
theorem dX7_clears_107 : decode cX7_clears 107 = .ok (.bipush 7, 2) := by decide +kernel
theorem dX7_clears_109 : decode cX7_clears 109 = .ok (.iadd, 1) := by decide +kernel
theorem dX7_clears_110 : decode cX7_clears 110 = .ok (.aload_n 0, 1) := by decide +kernel
theorem dX7_clears_111 : decode cX7_clears 111 = .ok (.getfield 7, 3) := by decide +kernel
theorem dX7_clears_114 : decode cX7_clears 114 = .ok (.iconst 0, 1) := by decide +kernel
theorem dX7_clears_115 : decode cX7_clears 115 = .ok (.iaload, 1) := by decide +kernel
theorem dX7_clears_116 : decode cX7_clears 116 = .ok (.iastore, 1) := by decide +kernel
theorem dX7_clears_117 : decode cX7_clears 117 = .ok (.aload_n 0, 1) := by decide +kernel
theorem dX7_clears_118 : decode cX7_clears 118 = .ok (.getfield 7, 3) := by decide +kernel
theorem dX7_clears_121 : decode cX7_clears 121 = .ok (.sipush 169, 3) := by decide +kernel
theorem dX7_clears_124 : decode cX7_clears 124 = .ok (.bipush 20, 2) := by decide +kernel
theorem dX7_clears_126 : decode cX7_clears 126 = .ok (.iload_n 1, 1) := by decide +kernel
theorem dX7_clears_127 : decode cX7_clears 127 = .ok (.imul, 1) := by decide +kernel
theorem dX7_clears_128 : decode cX7_clears 128 = .ok (.iadd, 1) := by decide +kernel
theorem dX7_clears_129 : decode cX7_clears 129 = .ok (.iconst 2, 1) := by decide +kernel
theorem dX7_clears_130 : decode cX7_clears 130 = .ok (.iadd, 1) := by decide +kernel
theorem dX7_clears_131 : decode cX7_clears 131 = .ok (.dup2, 1) := by decide +kernel
theorem dX7_clears_132 : decode cX7_clears 132 = .ok (.iaload, 1) := by decide +kernel
theorem dX7_clears_133 : decode cX7_clears 133 = .ok (.iload 5, 2) := by decide +kernel
theorem dX7_clears_135 : decode cX7_clears 135 = .ok (.isub, 1) := by decide +kernel
theorem dX7_clears_136 : decode cX7_clears 136 = .ok (.iastore, 1) := by decide +kernel
theorem dX7_clears_137 : decode cX7_clears 137 = .ok (.aload_n 0, 1) := by decide +kernel
theorem dX7_clears_138 : decode cX7_clears 138 = .ok (.getfield 7, 3) := by decide +kernel
theorem dX7_clears_141 : decode cX7_clears 141 = .ok (.bipush 8, 2) := by decide +kernel
theorem dX7_clears_143 : decode cX7_clears 143 = .ok (.dup2, 1) := by decide +kernel
theorem dX7_clears_144 : decode cX7_clears 144 = .ok (.iaload, 1) := by decide +kernel
theorem dX7_clears_145 : decode cX7_clears 145 = .ok (.iload 5, 2) := by decide +kernel
theorem dX7_clears_147 : decode cX7_clears 147 = .ok (.iadd, 1) := by decide +kernel
theorem dX7_clears_148 : decode cX7_clears 148 = .ok (.iastore, 1) := by decide +kernel
theorem dX7_clears_149 : decode cX7_clears 149 = .ok (.return_, 1) := by decide +kernel
theorem dX7_goesOn_0 : decode cX7_goesOn 0 = .ok (.sipush 169, 3) := by decide +kernel
theorem dX7_goesOn_3 : decode cX7_goesOn 3 = .ok (.bipush 20, 2) := by decide +kernel
theorem dX7_goesOn_5 : decode cX7_goesOn 5 = .ok (.iload_n 1, 1) := by decide +kernel
theorem dX7_goesOn_6 : decode cX7_goesOn 6 = .ok (.imul, 1) := by decide +kernel
theorem dX7_goesOn_7 : decode cX7_goesOn 7 = .ok (.iadd, 1) := by decide +kernel
theorem dX7_goesOn_8 : decode cX7_goesOn 8 = .ok (.istore_n 2, 1) := by decide +kernel
theorem dX7_goesOn_9 : decode cX7_goesOn 9 = .ok (.aload_n 0, 1) := by decide +kernel
theorem dX7_goesOn_10 : decode cX7_goesOn 10 = .ok (.getfield 7, 3) := by decide +kernel
theorem dX7_goesOn_13 : decode cX7_goesOn 13 = .ok (.iload_n 2, 1) := by decide +kernel
theorem dX7_goesOn_14 : decode cX7_goesOn 14 = .ok (.iconst 5, 1) := by decide +kernel
theorem dX7_goesOn_15 : decode cX7_goesOn 15 = .ok (.iadd, 1) := by decide +kernel
theorem dX7_goesOn_16 : decode cX7_goesOn 16 = .ok (.iconst 0, 1) := by decide +kernel
theorem dX7_goesOn_17 : decode cX7_goesOn 17 = .ok (.iastore, 1) := by decide +kernel
theorem dX7_goesOn_18 : decode cX7_goesOn 18 = .ok (.aload_n 0, 1) := by decide +kernel
theorem dX7_goesOn_19 : decode cX7_goesOn 19 = .ok (.getfield 7, 3) := by decide +kernel
theorem dX7_goesOn_22 : decode cX7_goesOn 22 = .ok (.iload_n 2, 1) := by decide +kernel
theorem dX7_goesOn_23 : decode cX7_goesOn 23 = .ok (.iconst 4, 1) := by decide +kernel
theorem dX7_goesOn_24 : decode cX7_goesOn 24 = .ok (.iadd, 1) := by decide +kernel
theorem dX7_goesOn_25 : decode cX7_goesOn 25 = .ok (.dup2, 1) := by decide +kernel
theorem dX7_goesOn_26 : decode cX7_goesOn 26 = .ok (.iaload, 1) := by decide +kernel
theorem dX7_goesOn_27 : decode cX7_goesOn 27 = .ok (.iconst 1, 1) := by decide +kernel
theorem dX7_goesOn_28 : decode cX7_goesOn 28 = .ok (.iadd, 1) := by decide +kernel
theorem dX7_goesOn_29 : decode cX7_goesOn 29 = .ok (.iastore, 1) := by decide +kernel
theorem dX7_goesOn_30 : decode cX7_goesOn 30 = .ok (.aload_n 0, 1) := by decide +kernel
theorem dX7_goesOn_31 : decode cX7_goesOn 31 = .ok (.getfield 7, 3) := by decide +kernel
theorem dX7_goesOn_34 : decode cX7_goesOn 34 = .ok (.iload_n 2, 1) := by decide +kernel
theorem dX7_goesOn_35 : decode cX7_goesOn 35 = .ok (.iconst 4, 1) := by decide +kernel
theorem dX7_goesOn_36 : decode cX7_goesOn 36 = .ok (.iadd, 1) := by decide +kernel
theorem dX7_goesOn_37 : decode cX7_goesOn 37 = .ok (.iaload, 1) := by decide +kernel
theorem dX7_goesOn_38 : decode cX7_goesOn 38 = .ok (.aload_n 0, 1) := by decide +kernel
theorem dX7_goesOn_39 : decode cX7_goesOn 39 = .ok (.getfield 7, 3) := by decide +kernel
theorem dX7_goesOn_42 : decode cX7_goesOn 42 = .ok (.iload_n 2, 1) := by decide +kernel
theorem dX7_goesOn_43 : decode cX7_goesOn 43 = .ok (.iconst 3, 1) := by decide +kernel
theorem dX7_goesOn_44 : decode cX7_goesOn 44 = .ok (.iadd, 1) := by decide +kernel
theorem dX7_goesOn_45 : decode cX7_goesOn 45 = .ok (.iaload, 1) := by decide +kernel
theorem dX7_goesOn_46 : decode cX7_goesOn 46 = .ok (.if_icmp .ge 7, 3) := by decide +kernel
theorem dX7_goesOn_49 : decode cX7_goesOn 49 = .ok (.iconst 1, 1) := by decide +kernel
theorem dX7_goesOn_50 : decode cX7_goesOn 50 = .ok (.goto 4, 3) := by decide +kernel
theorem dX7_goesOn_53 : decode cX7_goesOn 53 = .ok (.iconst 0, 1) := by decide +kernel
theorem dX7_goesOn_54 : decode cX7_goesOn 54 = .ok (.istore_n 3, 1) := by decide +kernel
theorem dX7_goesOn_55 : decode cX7_goesOn 55 = .ok (.aload_n 0, 1) := by decide +kernel
theorem dX7_goesOn_56 : decode cX7_goesOn 56 = .ok (.getfield 7, 3) := by decide +kernel
theorem dX7_goesOn_59 : decode cX7_goesOn 59 = .ok (.iload_n 2, 1) := by decide +kernel
theorem dX7_goesOn_60 : decode cX7_goesOn 60 = .ok (.iconst 4, 1) := by decide +kernel
theorem dX7_goesOn_61 : decode cX7_goesOn 61 = .ok (.iadd, 1) := by decide +kernel
theorem dX7_goesOn_62 : decode cX7_goesOn 62 = .ok (.iload_n 3, 1) := by decide +kernel
theorem dX7_goesOn_63 : decode cX7_goesOn 63 = .ok (.ifCond .eq 14, 3) := by decide +kernel
theorem dX7_goesOn_66 : decode cX7_goesOn 66 = .ok (.aload_n 0, 1) := by decide +kernel
theorem dX7_goesOn_67 : decode cX7_goesOn 67 = .ok (.getfield 7, 3) := by decide +kernel
theorem dX7_goesOn_70 : decode cX7_goesOn 70 = .ok (.iload_n 2, 1) := by decide +kernel
theorem dX7_goesOn_71 : decode cX7_goesOn 71 = .ok (.iconst 4, 1) := by decide +kernel
theorem dX7_goesOn_72 : decode cX7_goesOn 72 = .ok (.iadd, 1) := by decide +kernel
theorem dX7_goesOn_73 : decode cX7_goesOn 73 = .ok (.iaload, 1) := by decide +kernel
theorem dX7_goesOn_74 : decode cX7_goesOn 74 = .ok (.goto 4, 3) := by decide +kernel
theorem dX7_goesOn_77 : decode cX7_goesOn 77 = .ok (.iconst 0, 1) := by decide +kernel
theorem dX7_goesOn_78 : decode cX7_goesOn 78 = .ok (.iastore, 1) := by decide +kernel
theorem dX7_goesOn_79 : decode cX7_goesOn 79 = .ok (.aload_n 0, 1) := by decide +kernel
theorem dX7_goesOn_80 : decode cX7_goesOn 80 = .ok (.getfield 7, 3) := by decide +kernel
theorem dX7_goesOn_83 : decode cX7_goesOn 83 = .ok (.iload_n 2, 1) := by decide +kernel
theorem dX7_goesOn_84 : decode cX7_goesOn 84 = .ok (.bipush 6, 2) := by decide +kernel
theorem dX7_goesOn_86 : decode cX7_goesOn 86 = .ok (.iadd, 1) := by decide +kernel
theorem dX7_goesOn_87 : decode cX7_goesOn 87 = .ok (.dup2, 1) := by decide +kernel
theorem dX7_goesOn_88 : decode cX7_goesOn 88 = .ok (.iaload, 1) := by decide +kernel
theorem dX7_goesOn_89 : decode cX7_goesOn 89 = .ok (.iload_n 3, 1) := by decide +kernel
theorem dX7_goesOn_90 : decode cX7_goesOn 90 = .ok (.ifCond .eq 7, 3) := by decide +kernel
theorem dX7_goesOn_93 : decode cX7_goesOn 93 = .ok (.iconst 0, 1) := by decide +kernel
theorem dX7_goesOn_94 : decode cX7_goesOn 94 = .ok (.goto 4, 3) := by decide +kernel
theorem dX7_goesOn_97 : decode cX7_goesOn 97 = .ok (.iconst 1, 1) := by decide +kernel
theorem dX7_goesOn_98 : decode cX7_goesOn 98 = .ok (.iadd, 1) := by decide +kernel
theorem dX7_goesOn_99 : decode cX7_goesOn 99 = .ok (.iastore, 1) := by decide +kernel
theorem dX7_goesOn_100 : decode cX7_goesOn 100 = .ok (.iload_n 3, 1) := by decide +kernel
theorem dX7_goesOn_101 : decode cX7_goesOn 101 = .ok (.ireturn, 1) := by decide +kernel
theorem dX7_plows_0 : decode cX7_plows 0 = .ok (.sipush 169, 3) := by decide +kernel
theorem dX7_plows_3 : decode cX7_plows 3 = .ok (.bipush 20, 2) := by decide +kernel
theorem dX7_plows_5 : decode cX7_plows 5 = .ok (.iload_n 1, 1) := by decide +kernel
theorem dX7_plows_6 : decode cX7_plows 6 = .ok (.imul, 1) := by decide +kernel
theorem dX7_plows_7 : decode cX7_plows 7 = .ok (.iadd, 1) := by decide +kernel
theorem dX7_plows_8 : decode cX7_plows 8 = .ok (.istore_n 2, 1) := by decide +kernel
theorem dX7_plows_9 : decode cX7_plows 9 = .ok (.aload_n 0, 1) := by decide +kernel
theorem dX7_plows_10 : decode cX7_plows 10 = .ok (.getfield 7, 3) := by decide +kernel
theorem dX7_plows_13 : decode cX7_plows 13 = .ok (.iload_n 2, 1) := by decide +kernel
theorem dX7_plows_14 : decode cX7_plows 14 = .ok (.iconst 3, 1) := by decide +kernel
theorem dX7_plows_15 : decode cX7_plows 15 = .ok (.iadd, 1) := by decide +kernel
theorem dX7_plows_16 : decode cX7_plows 16 = .ok (.iaload, 1) := by decide +kernel
theorem dX7_plows_17 : decode cX7_plows 17 = .ok (.ifCond .le 7, 3) := by decide +kernel
theorem dX7_plows_20 : decode cX7_plows 20 = .ok (.iconst 1, 1) := by decide +kernel
theorem dX7_plows_21 : decode cX7_plows 21 = .ok (.goto 4, 3) := by decide +kernel
theorem dX7_plows_24 : decode cX7_plows 24 = .ok (.iconst 0, 1) := by decide +kernel
theorem dX7_plows_25 : decode cX7_plows 25 = .ok (.istore_n 3, 1) := by decide +kernel
theorem dX7_plows_26 : decode cX7_plows 26 = .ok (.iload_n 3, 1) := by decide +kernel
theorem dX7_plows_27 : decode cX7_plows 27 = .ok (.ifCond .eq 77, 3) := by decide +kernel
theorem dX7_plows_30 : decode cX7_plows 30 = .ok (.aload_n 0, 1) := by decide +kernel
theorem dX7_plows_31 : decode cX7_plows 31 = .ok (.getfield 7, 3) := by decide +kernel
theorem dX7_plows_34 : decode cX7_plows 34 = .ok (.iload_n 2, 1) := by decide +kernel
theorem dX7_plows_35 : decode cX7_plows 35 = .ok (.iconst 4, 1) := by decide +kernel
theorem dX7_plows_36 : decode cX7_plows 36 = .ok (.iadd, 1) := by decide +kernel
theorem dX7_plows_37 : decode cX7_plows 37 = .ok (.iaload, 1) := by decide +kernel
theorem dX7_plows_38 : decode cX7_plows 38 = .ok (.ifCond .ne 66, 3) := by decide +kernel
theorem dX7_plows_41 : decode cX7_plows 41 = .ok (.aload_n 0, 1) := by decide +kernel
theorem dX7_plows_42 : decode cX7_plows 42 = .ok (.getfield 7, 3) := by decide +kernel
theorem dX7_plows_45 : decode cX7_plows 45 = .ok (.iload_n 2, 1) := by decide +kernel
theorem dX7_plows_46 : decode cX7_plows 46 = .ok (.iconst 5, 1) := by decide +kernel
theorem dX7_plows_47 : decode cX7_plows 47 = .ok (.iadd, 1) := by decide +kernel
theorem dX7_plows_48 : decode cX7_plows 48 = .ok (.iaload, 1) := by decide +kernel
theorem dX7_plows_49 : decode cX7_plows 49 = .ok (.ifCond .ne 55, 3) := by decide +kernel
theorem dX7_plows_52 : decode cX7_plows 52 = .ok (.aload_n 0, 1) := by decide +kernel
theorem dX7_plows_53 : decode cX7_plows 53 = .ok (.getfield 7, 3) := by decide +kernel
theorem dX7_plows_56 : decode cX7_plows 56 = .ok (.iload_n 2, 1) := by decide +kernel
theorem dX7_plows_57 : decode cX7_plows 57 = .ok (.iconst 1, 1) := by decide +kernel
theorem dX7_plows_58 : decode cX7_plows 58 = .ok (.iadd, 1) := by decide +kernel
theorem dX7_plows_59 : decode cX7_plows 59 = .ok (.iaload, 1) := by decide +kernel
theorem dX7_plows_60 : decode cX7_plows 60 = .ok (.aload_n 0, 1) := by decide +kernel
theorem dX7_plows_61 : decode cX7_plows 61 = .ok (.getfield 7, 3) := by decide +kernel
theorem dX7_plows_64 : decode cX7_plows 64 = .ok (.iload_n 2, 1) := by decide +kernel
theorem dX7_plows_65 : decode cX7_plows 65 = .ok (.iconst 2, 1) := by decide +kernel
theorem dX7_plows_66 : decode cX7_plows 66 = .ok (.iadd, 1) := by decide +kernel
theorem dX7_plows_67 : decode cX7_plows 67 = .ok (.iaload, 1) := by decide +kernel
theorem dX7_plows_68 : decode cX7_plows 68 = .ok (.isub, 1) := by decide +kernel
theorem dX7_plows_69 : decode cX7_plows 69 = .ok (.aload_n 0, 1) := by decide +kernel
theorem dX7_plows_70 : decode cX7_plows 70 = .ok (.getfield 7, 3) := by decide +kernel
theorem dX7_plows_73 : decode cX7_plows 73 = .ok (.iconst 3, 1) := by decide +kernel
theorem dX7_plows_74 : decode cX7_plows 74 = .ok (.iaload, 1) := by decide +kernel
theorem dX7_plows_75 : decode cX7_plows 75 = .ok (.invokestatic 72, 3) := by decide +kernel
theorem dX7_plows_78 : decode cX7_plows 78 = .ok (.istore 4, 2) := by decide +kernel
theorem dX7_plows_80 : decode cX7_plows 80 = .ok (.aload_n 0, 1) := by decide +kernel
theorem dX7_plows_81 : decode cX7_plows 81 = .ok (.getfield 7, 3) := by decide +kernel
theorem dX7_plows_84 : decode cX7_plows 84 = .ok (.iload_n 2, 1) := by decide +kernel
theorem dX7_plows_85 : decode cX7_plows 85 = .ok (.iconst 2, 1) := by decide +kernel
theorem dX7_plows_86 : decode cX7_plows 86 = .ok (.iadd, 1) := by decide +kernel
theorem dX7_plows_87 : decode cX7_plows 87 = .ok (.dup2, 1) := by decide +kernel
theorem dX7_plows_88 : decode cX7_plows 88 = .ok (.iaload, 1) := by decide +kernel
theorem dX7_plows_89 : decode cX7_plows 89 = .ok (.iload 4, 2) := by decide +kernel
theorem dX7_plows_91 : decode cX7_plows 91 = .ok (.iadd, 1) := by decide +kernel
theorem dX7_plows_92 : decode cX7_plows 92 = .ok (.iastore, 1) := by decide +kernel
theorem dX7_plows_93 : decode cX7_plows 93 = .ok (.aload_n 0, 1) := by decide +kernel
theorem dX7_plows_94 : decode cX7_plows 94 = .ok (.getfield 7, 3) := by decide +kernel
theorem dX7_plows_97 : decode cX7_plows 97 = .ok (.iconst 3, 1) := by decide +kernel
theorem dX7_plows_98 : decode cX7_plows 98 = .ok (.dup2, 1) := by decide +kernel
theorem dX7_plows_99 : decode cX7_plows 99 = .ok (.iaload, 1) := by decide +kernel
theorem dX7_plows_100 : decode cX7_plows 100 = .ok (.iload 4, 2) := by decide +kernel
theorem dX7_plows_102 : decode cX7_plows 102 = .ok (.isub, 1) := by decide +kernel
theorem dX7_plows_103 : decode cX7_plows 103 = .ok (.iastore, 1) := by decide +kernel
theorem dX7_plows_104 : decode cX7_plows 104 = .ok (.aload_n 0, 1) := by decide +kernel
theorem dX7_plows_105 : decode cX7_plows 105 = .ok (.getfield 7, 3) := by decide +kernel
theorem dX7_plows_108 : decode cX7_plows 108 = .ok (.iload_n 2, 1) := by decide +kernel
theorem dX7_plows_109 : decode cX7_plows 109 = .ok (.iconst 0, 1) := by decide +kernel
theorem dX7_plows_110 : decode cX7_plows 110 = .ok (.iadd, 1) := by decide +kernel
theorem dX7_plows_111 : decode cX7_plows 111 = .ok (.iaload, 1) := by decide +kernel
theorem dX7_plows_112 : decode cX7_plows 112 = .ok (.istore 4, 2) := by decide +kernel
theorem dX7_plows_114 : decode cX7_plows 114 = .ok (.iload_n 3, 1) := by decide +kernel
theorem dX7_plows_115 : decode cX7_plows 115 = .ok (.ifCond .eq 148, 3) := by decide +kernel
theorem dX7_plows_118 : decode cX7_plows 118 = .ok (.iload 4, 2) := by decide +kernel
theorem dX7_plows_120 : decode cX7_plows 120 = .ok (.ifCond .le 143, 3) := by decide +kernel
theorem dX7_plows_123 : decode cX7_plows 123 = .ok (.aload_n 0, 1) := by decide +kernel
theorem dX7_plows_124 : decode cX7_plows 124 = .ok (.getfield 7, 3) := by decide +kernel
theorem dX7_plows_127 : decode cX7_plows 127 = .ok (.iload_n 2, 1) := by decide +kernel
theorem dX7_plows_128 : decode cX7_plows 128 = .ok (.bipush 8, 2) := by decide +kernel
theorem dX7_plows_130 : decode cX7_plows 130 = .ok (.iadd, 1) := by decide +kernel
theorem dX7_plows_131 : decode cX7_plows 131 = .ok (.aload_n 0, 1) := by decide +kernel
theorem dX7_plows_132 : decode cX7_plows 132 = .ok (.getfield 7, 3) := by decide +kernel
theorem dX7_plows_135 : decode cX7_plows 135 = .ok (.iload_n 2, 1) := by decide +kernel
theorem dX7_plows_136 : decode cX7_plows 136 = .ok (.iconst 4, 1) := by decide +kernel
theorem dX7_plows_137 : decode cX7_plows 137 = .ok (.iadd, 1) := by decide +kernel
theorem dX7_plows_138 : decode cX7_plows 138 = .ok (.iaload, 1) := by decide +kernel
theorem dX7_plows_139 : decode cX7_plows 139 = .ok (.iadd, 1) := by decide +kernel
theorem dX7_plows_140 : decode cX7_plows 140 = .ok (.iaload, 1) := by decide +kernel
theorem dX7_plows_141 : decode cX7_plows 141 = .ok (.istore 5, 2) := by decide +kernel
theorem dX7_plows_143 : decode cX7_plows 143 = .ok (.aload_n 0, 1) := by decide +kernel
theorem dX7_plows_144 : decode cX7_plows 144 = .ok (.getfield 7, 3) := by decide +kernel
theorem dX7_plows_147 : decode cX7_plows 147 = .ok (.iload_n 2, 1) := by decide +kernel
theorem dX7_plows_148 : decode cX7_plows 148 = .ok (.iconst 5, 1) := by decide +kernel
theorem dX7_plows_149 : decode cX7_plows 149 = .ok (.iadd, 1) := by decide +kernel
theorem dX7_plows_150 : decode cX7_plows 150 = .ok (.iaload, 1) := by decide +kernel
theorem dX7_plows_151 : decode cX7_plows 151 = .ok (.ifCond .ne 21, 3) := by decide +kernel
theorem dX7_plows_154 : decode cX7_plows 154 = .ok (.aload_n 0, 1) := by decide +kernel
theorem dX7_plows_155 : decode cX7_plows 155 = .ok (.iload 5, 2) := by decide +kernel
theorem dX7_plows_157 : decode cX7_plows 157 = .ok (.invokevirtual 75, 3) := by decide +kernel
theorem dX7_plows_160 : decode cX7_plows 160 = .ok (.ifCond .ne 12, 3) := by decide +kernel
theorem dX7_plows_163 : decode cX7_plows 163 = .ok (.aload_n 0, 1) := by decide +kernel
theorem dX7_plows_164 : decode cX7_plows 164 = .ok (.iload_n 1, 1) := by decide +kernel
theorem dX7_plows_165 : decode cX7_plows 165 = .ok (.invokevirtual 78, 3) := by decide +kernel
theorem dX7_plows_168 : decode cX7_plows 168 = .ok (.istore_n 3, 1) := by decide +kernel
theorem dX7_plows_169 : decode cX7_plows 169 = .ok (.goto 91, 3) := by decide +kernel
theorem dX7_plows_172 : decode cX7_plows 172 = .ok (.iload 4, 2) := by decide +kernel
theorem dX7_plows_174 : decode cX7_plows 174 = .ok (.aload_n 0, 1) := by decide +kernel
theorem dX7_plows_175 : decode cX7_plows 175 = .ok (.iload 5, 2) := by decide +kernel
theorem dX7_plows_177 : decode cX7_plows 177 = .ok (.iconst 0, 1) := by decide +kernel
theorem dX7_plows_178 : decode cX7_plows 178 = .ok (.invokevirtual 41, 3) := by decide +kernel
theorem dX7_plows_181 : decode cX7_plows 181 = .ok (.aload_n 0, 1) := by decide +kernel
theorem dX7_plows_182 : decode cX7_plows 182 = .ok (.getfield 7, 3) := by decide +kernel
theorem dX7_plows_185 : decode cX7_plows 185 = .ok (.iload_n 2, 1) := by decide +kernel
theorem dX7_plows_186 : decode cX7_plows 186 = .ok (.iconst 5, 1) := by decide +kernel
theorem dX7_plows_187 : decode cX7_plows 187 = .ok (.iadd, 1) := by decide +kernel
theorem dX7_plows_188 : decode cX7_plows 188 = .ok (.iaload, 1) := by decide +kernel
theorem dX7_plows_189 : decode cX7_plows 189 = .ok (.isub, 1) := by decide +kernel
theorem dX7_plows_190 : decode cX7_plows 190 = .ok (.invokestatic 72, 3) := by decide +kernel
theorem dX7_plows_193 : decode cX7_plows 193 = .ok (.istore 6, 2) := by decide +kernel
theorem dX7_plows_195 : decode cX7_plows 195 = .ok (.iload 4, 2) := by decide +kernel
theorem dX7_plows_197 : decode cX7_plows 197 = .ok (.iload 6, 2) := by decide +kernel
theorem dX7_plows_199 : decode cX7_plows 199 = .ok (.isub, 1) := by decide +kernel
theorem dX7_plows_200 : decode cX7_plows 200 = .ok (.istore 4, 2) := by decide +kernel
theorem dX7_plows_202 : decode cX7_plows 202 = .ok (.aload_n 0, 1) := by decide +kernel
theorem dX7_plows_203 : decode cX7_plows 203 = .ok (.getfield 7, 3) := by decide +kernel
theorem dX7_plows_206 : decode cX7_plows 206 = .ok (.iload_n 2, 1) := by decide +kernel
theorem dX7_plows_207 : decode cX7_plows 207 = .ok (.iconst 5, 1) := by decide +kernel
theorem dX7_plows_208 : decode cX7_plows 208 = .ok (.iadd, 1) := by decide +kernel
theorem dX7_plows_209 : decode cX7_plows 209 = .ok (.dup2, 1) := by decide +kernel
theorem dX7_plows_210 : decode cX7_plows 210 = .ok (.iaload, 1) := by decide +kernel
theorem dX7_plows_211 : decode cX7_plows 211 = .ok (.iload 6, 2) := by decide +kernel
theorem dX7_plows_213 : decode cX7_plows 213 = .ok (.iadd, 1) := by decide +kernel
theorem dX7_plows_214 : decode cX7_plows 214 = .ok (.iastore, 1) := by decide +kernel
theorem dX7_plows_215 : decode cX7_plows 215 = .ok (.aload_n 0, 1) := by decide +kernel
theorem dX7_plows_216 : decode cX7_plows 216 = .ok (.getfield 7, 3) := by decide +kernel
theorem dX7_plows_219 : decode cX7_plows 219 = .ok (.iload_n 2, 1) := by decide +kernel
theorem dX7_plows_220 : decode cX7_plows 220 = .ok (.bipush 7, 2) := by decide +kernel
theorem dX7_plows_222 : decode cX7_plows 222 = .ok (.iadd, 1) := by decide +kernel
theorem dX7_plows_223 : decode cX7_plows 223 = .ok (.dup2, 1) := by decide +kernel
theorem dX7_plows_224 : decode cX7_plows 224 = .ok (.iaload, 1) := by decide +kernel
theorem dX7_plows_225 : decode cX7_plows 225 = .ok (.iload 6, 2) := by decide +kernel
theorem dX7_plows_227 : decode cX7_plows 227 = .ok (.iadd, 1) := by decide +kernel
theorem dX7_plows_228 : decode cX7_plows 228 = .ok (.iastore, 1) := by decide +kernel
theorem dX7_plows_229 : decode cX7_plows 229 = .ok (.aload_n 0, 1) := by decide +kernel
theorem dX7_plows_230 : decode cX7_plows 230 = .ok (.getfield 7, 3) := by decide +kernel
theorem dX7_plows_233 : decode cX7_plows 233 = .ok (.iload_n 2, 1) := by decide +kernel
theorem dX7_plows_234 : decode cX7_plows 234 = .ok (.iconst 5, 1) := by decide +kernel
theorem dX7_plows_235 : decode cX7_plows 235 = .ok (.iadd, 1) := by decide +kernel
theorem dX7_plows_236 : decode cX7_plows 236 = .ok (.iaload, 1) := by decide +kernel
theorem dX7_plows_237 : decode cX7_plows 237 = .ok (.aload_n 0, 1) := by decide +kernel
theorem dX7_plows_238 : decode cX7_plows 238 = .ok (.iload 5, 2) := by decide +kernel
theorem dX7_plows_240 : decode cX7_plows 240 = .ok (.iconst 0, 1) := by decide +kernel
theorem dX7_plows_241 : decode cX7_plows 241 = .ok (.invokevirtual 41, 3) := by decide +kernel
theorem dX7_plows_244 : decode cX7_plows 244 = .ok (.if_icmp .ne 16, 3) := by decide +kernel
theorem dX7_plows_247 : decode cX7_plows 247 = .ok (.aload_n 0, 1) := by decide +kernel
theorem dX7_plows_248 : decode cX7_plows 248 = .ok (.iload_n 1, 1) := by decide +kernel
theorem dX7_plows_249 : decode cX7_plows 249 = .ok (.iload 5, 2) := by decide +kernel
theorem dX7_plows_251 : decode cX7_plows 251 = .ok (.invokevirtual 81, 3) := by decide +kernel
theorem dX7_plows_254 : decode cX7_plows 254 = .ok (.aload_n 0, 1) := by decide +kernel
theorem dX7_plows_255 : decode cX7_plows 255 = .ok (.iload_n 1, 1) := by decide +kernel
theorem dX7_plows_256 : decode cX7_plows 256 = .ok (.invokevirtual 78, 3) := by decide +kernel
theorem dX7_plows_259 : decode cX7_plows 259 = .ok (.istore_n 3, 1) := by decide +kernel
theorem dX7_plows_260 : decode cX7_plows 260 = .ok (.goto (-146), 3) := by decide +kernel
theorem dX7_plows_263 : decode cX7_plows 263 = .ok (.return_, 1) := by decide +kernel
theorem dX7_waits_0 : decode cX7_waits 0 = .ok (.bipush 9, 2) := by decide +kernel
theorem dX7_waits_2 : decode cX7_waits 2 = .ok (.bipush 8, 2) := by decide +kernel
theorem dX7_waits_4 : decode cX7_waits 4 = .ok (.iload_n 1, 1) := by decide +kernel
theorem dX7_waits_5 : decode cX7_waits 5 = .ok (.imul, 1) := by decide +kernel
theorem dX7_waits_6 : decode cX7_waits 6 = .ok (.iadd, 1) := by decide +kernel
theorem dX7_waits_7 : decode cX7_waits 7 = .ok (.istore_n 2, 1) := by decide +kernel
theorem dX7_waits_8 : decode cX7_waits 8 = .ok (.aload_n 0, 1) := by decide +kernel
theorem dX7_waits_9 : decode cX7_waits 9 = .ok (.getfield 7, 3) := by decide +kernel
theorem dX7_waits_12 : decode cX7_waits 12 = .ok (.iload_n 2, 1) := by decide +kernel
theorem dX7_waits_13 : decode cX7_waits 13 = .ok (.iconst 5, 1) := by decide +kernel
theorem dX7_waits_14 : decode cX7_waits 14 = .ok (.iadd, 1) := by decide +kernel
theorem dX7_waits_15 : decode cX7_waits 15 = .ok (.aload_n 0, 1) := by decide +kernel
theorem dX7_waits_16 : decode cX7_waits 16 = .ok (.iload_n 1, 1) := by decide +kernel
theorem dX7_waits_17 : decode cX7_waits 17 = .ok (.invokevirtual 75, 3) := by decide +kernel
theorem dX7_waits_20 : decode cX7_waits 20 = .ok (.ifCond .eq 16, 3) := by decide +kernel
theorem dX7_waits_23 : decode cX7_waits 23 = .ok (.aload_n 0, 1) := by decide +kernel
theorem dX7_waits_24 : decode cX7_waits 24 = .ok (.getfield 7, 3) := by decide +kernel
theorem dX7_waits_27 : decode cX7_waits 27 = .ok (.iload_n 2, 1) := by decide +kernel
theorem dX7_waits_28 : decode cX7_waits 28 = .ok (.iconst 5, 1) := by decide +kernel
theorem dX7_waits_29 : decode cX7_waits 29 = .ok (.iadd, 1) := by decide +kernel
theorem dX7_waits_30 : decode cX7_waits 30 = .ok (.iaload, 1) := by decide +kernel
theorem dX7_waits_31 : decode cX7_waits 31 = .ok (.iconst 1, 1) := by decide +kernel
theorem dX7_waits_32 : decode cX7_waits 32 = .ok (.iadd, 1) := by decide +kernel
theorem dX7_waits_33 : decode cX7_waits 33 = .ok (.goto 4, 3) := by decide +kernel
theorem dX7_waits_36 : decode cX7_waits 36 = .ok (.iconst 0, 1) := by decide +kernel
theorem dX7_waits_37 : decode cX7_waits 37 = .ok (.iastore, 1) := by decide +kernel
theorem dX7_waits_38 : decode cX7_waits 38 = .ok (.aload_n 0, 1) := by decide +kernel
theorem dX7_waits_39 : decode cX7_waits 39 = .ok (.getfield 7, 3) := by decide +kernel
theorem dX7_waits_42 : decode cX7_waits 42 = .ok (.iload_n 2, 1) := by decide +kernel
theorem dX7_waits_43 : decode cX7_waits 43 = .ok (.iconst 5, 1) := by decide +kernel
theorem dX7_waits_44 : decode cX7_waits 44 = .ok (.iadd, 1) := by decide +kernel
theorem dX7_waits_45 : decode cX7_waits 45 = .ok (.iaload, 1) := by decide +kernel
theorem dX7_waits_46 : decode cX7_waits 46 = .ok (.aload_n 0, 1) := by decide +kernel
theorem dX7_waits_47 : decode cX7_waits 47 = .ok (.iload_n 1, 1) := by decide +kernel
theorem dX7_waits_48 : decode cX7_waits 48 = .ok (.iconst 1, 1) := by decide +kernel
theorem dX7_waits_49 : decode cX7_waits 49 = .ok (.invokevirtual 45, 3) := by decide +kernel
theorem dX7_waits_52 : decode cX7_waits 52 = .ok (.if_icmp .gt 5, 3) := by decide +kernel
theorem dX7_waits_55 : decode cX7_waits 55 = .ok (.iconst 0, 1) := by decide +kernel
theorem dX7_waits_56 : decode cX7_waits 56 = .ok (.ireturn, 1) := by decide +kernel
theorem dX7_waits_57 : decode cX7_waits 57 = .ok (.aload_n 0, 1) := by decide +kernel
theorem dX7_waits_58 : decode cX7_waits 58 = .ok (.getfield 7, 3) := by decide +kernel
theorem dX7_waits_61 : decode cX7_waits 61 = .ok (.iconst 5, 1) := by decide +kernel
theorem dX7_waits_62 : decode cX7_waits 62 = .ok (.dup2, 1) := by decide +kernel
theorem dX7_waits_63 : decode cX7_waits 63 = .ok (.iaload, 1) := by decide +kernel
theorem dX7_waits_64 : decode cX7_waits 64 = .ok (.iconst 1, 1) := by decide +kernel
theorem dX7_waits_65 : decode cX7_waits 65 = .ok (.iadd, 1) := by decide +kernel
theorem dX7_waits_66 : decode cX7_waits 66 = .ok (.iastore, 1) := by decide +kernel
theorem dX7_waits_67 : decode cX7_waits 67 = .ok (.aload_n 0, 1) := by decide +kernel
theorem dX7_waits_68 : decode cX7_waits 68 = .ok (.getfield 7, 3) := by decide +kernel
theorem dX7_waits_71 : decode cX7_waits 71 = .ok (.sipush 229, 3) := by decide +kernel
theorem dX7_waits_74 : decode cX7_waits 74 = .ok (.iconst 4, 1) := by decide +kernel
theorem dX7_waits_75 : decode cX7_waits 75 = .ok (.aload_n 0, 1) := by decide +kernel
theorem dX7_waits_76 : decode cX7_waits 76 = .ok (.getfield 7, 3) := by decide +kernel
theorem dX7_waits_79 : decode cX7_waits 79 = .ok (.iload_n 2, 1) := by decide +kernel
theorem dX7_waits_80 : decode cX7_waits 80 = .ok (.iconst 1, 1) := by decide +kernel
theorem dX7_waits_81 : decode cX7_waits 81 = .ok (.iadd, 1) := by decide +kernel
theorem dX7_waits_82 : decode cX7_waits 82 = .ok (.iaload, 1) := by decide +kernel
theorem dX7_waits_83 : decode cX7_waits 83 = .ok (.imul, 1) := by decide +kernel
theorem dX7_waits_84 : decode cX7_waits 84 = .ok (.iadd, 1) := by decide +kernel
theorem dX7_waits_85 : decode cX7_waits 85 = .ok (.iconst 3, 1) := by decide +kernel
theorem dX7_waits_86 : decode cX7_waits 86 = .ok (.iadd, 1) := by decide +kernel
theorem dX7_waits_87 : decode cX7_waits 87 = .ok (.dup2, 1) := by decide +kernel
theorem dX7_waits_88 : decode cX7_waits 88 = .ok (.iaload, 1) := by decide +kernel
theorem dX7_waits_89 : decode cX7_waits 89 = .ok (.iconst 1, 1) := by decide +kernel
theorem dX7_waits_90 : decode cX7_waits 90 = .ok (.iadd, 1) := by decide +kernel
theorem dX7_waits_91 : decode cX7_waits 91 = .ok (.iastore, 1) := by decide +kernel
theorem dX7_waits_92 : decode cX7_waits 92 = .ok (.aload_n 0, 1) := by decide +kernel
theorem dX7_waits_93 : decode cX7_waits 93 = .ok (.iload_n 1, 1) := by decide +kernel
theorem dX7_waits_94 : decode cX7_waits 94 = .ok (.iconst 2, 1) := by decide +kernel
theorem dX7_waits_95 : decode cX7_waits 95 = .ok (.invokevirtual 45, 3) := by decide +kernel
theorem dX7_waits_98 : decode cX7_waits 98 = .ok (.ireturn, 1) := by decide +kernel
theorem dX7_hour_0 : decode cX7_hour 0 = .ok (.iconst 0, 1) := by decide +kernel
theorem dX7_hour_1 : decode cX7_hour 1 = .ok (.istore_n 3, 1) := by decide +kernel
theorem dX7_hour_2 : decode cX7_hour 2 = .ok (.iload_n 3, 1) := by decide +kernel
theorem dX7_hour_3 : decode cX7_hour 3 = .ok (.aload_n 0, 1) := by decide +kernel
theorem dX7_hour_4 : decode cX7_hour 4 = .ok (.getfield 7, 3) := by decide +kernel
theorem dX7_hour_7 : decode cX7_hour 7 = .ok (.iconst 1, 1) := by decide +kernel
theorem dX7_hour_8 : decode cX7_hour 8 = .ok (.iaload, 1) := by decide +kernel
theorem dX7_hour_9 : decode cX7_hour 9 = .ok (.if_icmp .ge 16, 3) := by decide +kernel
theorem dX7_hour_12 : decode cX7_hour 12 = .ok (.aload_n 0, 1) := by decide +kernel
theorem dX7_hour_13 : decode cX7_hour 13 = .ok (.iload_n 3, 1) := by decide +kernel
theorem dX7_hour_14 : decode cX7_hour 14 = .ok (.iload_n 1, 1) := by decide +kernel
theorem dX7_hour_15 : decode cX7_hour 15 = .ok (.iload_n 2, 1) := by decide +kernel
theorem dX7_hour_16 : decode cX7_hour 16 = .ok (.invokevirtual 85, 3) := by decide +kernel
theorem dX7_hour_19 : decode cX7_hour 19 = .ok (.iinc 3 1, 3) := by decide +kernel
theorem dX7_hour_22 : decode cX7_hour 22 = .ok (.goto (-20), 3) := by decide +kernel
theorem dX7_hour_25 : decode cX7_hour 25 = .ok (.iconst 0, 1) := by decide +kernel
theorem dX7_hour_26 : decode cX7_hour 26 = .ok (.istore_n 3, 1) := by decide +kernel
theorem dX7_hour_27 : decode cX7_hour 27 = .ok (.iload_n 3, 1) := by decide +kernel
theorem dX7_hour_28 : decode cX7_hour 28 = .ok (.aload_n 0, 1) := by decide +kernel
theorem dX7_hour_29 : decode cX7_hour 29 = .ok (.getfield 7, 3) := by decide +kernel
theorem dX7_hour_32 : decode cX7_hour 32 = .ok (.iconst 2, 1) := by decide +kernel
theorem dX7_hour_33 : decode cX7_hour 33 = .ok (.iaload, 1) := by decide +kernel
theorem dX7_hour_34 : decode cX7_hour 34 = .ok (.if_icmp .ge 14, 3) := by decide +kernel
theorem dX7_hour_37 : decode cX7_hour 37 = .ok (.aload_n 0, 1) := by decide +kernel
theorem dX7_hour_38 : decode cX7_hour 38 = .ok (.iload_n 3, 1) := by decide +kernel
theorem dX7_hour_39 : decode cX7_hour 39 = .ok (.invokevirtual 89, 3) := by decide +kernel
theorem dX7_hour_42 : decode cX7_hour 42 = .ok (.iinc 3 1, 3) := by decide +kernel
theorem dX7_hour_45 : decode cX7_hour 45 = .ok (.goto (-18), 3) := by decide +kernel
theorem dX7_hour_48 : decode cX7_hour 48 = .ok (.iconst 0, 1) := by decide +kernel
theorem dX7_hour_49 : decode cX7_hour 49 = .ok (.istore_n 3, 1) := by decide +kernel
theorem dX7_hour_50 : decode cX7_hour 50 = .ok (.iconst 0, 1) := by decide +kernel
theorem dX7_hour_51 : decode cX7_hour 51 = .ok (.istore 4, 2) := by decide +kernel
theorem dX7_hour_53 : decode cX7_hour 53 = .ok (.iload 4, 2) := by decide +kernel
theorem dX7_hour_55 : decode cX7_hour 55 = .ok (.aload_n 0, 1) := by decide +kernel
theorem dX7_hour_56 : decode cX7_hour 56 = .ok (.getfield 7, 3) := by decide +kernel
theorem dX7_hour_59 : decode cX7_hour 59 = .ok (.iconst 1, 1) := by decide +kernel
theorem dX7_hour_60 : decode cX7_hour 60 = .ok (.iaload, 1) := by decide +kernel
theorem dX7_hour_61 : decode cX7_hour 61 = .ok (.if_icmp .ge 18, 3) := by decide +kernel
theorem dX7_hour_64 : decode cX7_hour 64 = .ok (.iload_n 3, 1) := by decide +kernel
theorem dX7_hour_65 : decode cX7_hour 65 = .ok (.aload_n 0, 1) := by decide +kernel
theorem dX7_hour_66 : decode cX7_hour 66 = .ok (.iload 4, 2) := by decide +kernel
theorem dX7_hour_68 : decode cX7_hour 68 = .ok (.invokevirtual 93, 3) := by decide +kernel
theorem dX7_hour_71 : decode cX7_hour 71 = .ok (.iadd, 1) := by decide +kernel
theorem dX7_hour_72 : decode cX7_hour 72 = .ok (.istore_n 3, 1) := by decide +kernel
theorem dX7_hour_73 : decode cX7_hour 73 = .ok (.iinc 4 1, 3) := by decide +kernel
theorem dX7_hour_76 : decode cX7_hour 76 = .ok (.goto (-23), 3) := by decide +kernel
theorem dX7_hour_79 : decode cX7_hour 79 = .ok (.aload_n 0, 1) := by decide +kernel
theorem dX7_hour_80 : decode cX7_hour 80 = .ok (.getfield 7, 3) := by decide +kernel
theorem dX7_hour_83 : decode cX7_hour 83 = .ok (.bipush 6, 2) := by decide +kernel
theorem dX7_hour_85 : decode cX7_hour 85 = .ok (.dup2, 1) := by decide +kernel
theorem dX7_hour_86 : decode cX7_hour 86 = .ok (.iaload, 1) := by decide +kernel
theorem dX7_hour_87 : decode cX7_hour 87 = .ok (.iload_n 3, 1) := by decide +kernel
theorem dX7_hour_88 : decode cX7_hour 88 = .ok (.iadd, 1) := by decide +kernel
theorem dX7_hour_89 : decode cX7_hour 89 = .ok (.iastore, 1) := by decide +kernel
theorem dX7_hour_90 : decode cX7_hour 90 = .ok (.aload_n 0, 1) := by decide +kernel
theorem dX7_hour_91 : decode cX7_hour 91 = .ok (.getfield 7, 3) := by decide +kernel
theorem dX7_hour_94 : decode cX7_hour 94 = .ok (.iconst 0, 1) := by decide +kernel
theorem dX7_hour_95 : decode cX7_hour 95 = .ok (.dup2, 1) := by decide +kernel
theorem dX7_hour_96 : decode cX7_hour 96 = .ok (.iaload, 1) := by decide +kernel
theorem dX7_hour_97 : decode cX7_hour 97 = .ok (.iconst 1, 1) := by decide +kernel
theorem dX7_hour_98 : decode cX7_hour 98 = .ok (.iadd, 1) := by decide +kernel
theorem dX7_hour_99 : decode cX7_hour 99 = .ok (.iastore, 1) := by decide +kernel
theorem dX7_hour_100 : decode cX7_hour 100 = .ok (.iload_n 3, 1) := by decide +kernel
theorem dX7_hour_101 : decode cX7_hour 101 = .ok (.ireturn, 1) := by decide +kernel
theorem dX7_hours_0 : decode cX7_hours 0 = .ok (.iconst 0, 1) := by decide +kernel
theorem dX7_hours_1 : decode cX7_hours 1 = .ok (.istore 4, 2) := by decide +kernel
theorem dX7_hours_3 : decode cX7_hours 3 = .ok (.iconst 0, 1) := by decide +kernel
theorem dX7_hours_4 : decode cX7_hours 4 = .ok (.istore 5, 2) := by decide +kernel
theorem dX7_hours_6 : decode cX7_hours 6 = .ok (.iload 5, 2) := by decide +kernel
theorem dX7_hours_8 : decode cX7_hours 8 = .ok (.iload_n 3, 1) := by decide +kernel
theorem dX7_hours_9 : decode cX7_hours 9 = .ok (.if_icmp .ge 20, 3) := by decide +kernel
theorem dX7_hours_12 : decode cX7_hours 12 = .ok (.iload 4, 2) := by decide +kernel
theorem dX7_hours_14 : decode cX7_hours 14 = .ok (.aload_n 0, 1) := by decide +kernel
theorem dX7_hours_15 : decode cX7_hours 15 = .ok (.iload_n 1, 1) := by decide +kernel
theorem dX7_hours_16 : decode cX7_hours 16 = .ok (.iload_n 2, 1) := by decide +kernel
theorem dX7_hours_17 : decode cX7_hours 17 = .ok (.invokevirtual 97, 3) := by decide +kernel
theorem dX7_hours_20 : decode cX7_hours 20 = .ok (.iadd, 1) := by decide +kernel
theorem dX7_hours_21 : decode cX7_hours 21 = .ok (.istore 4, 2) := by decide +kernel
theorem dX7_hours_23 : decode cX7_hours 23 = .ok (.iinc 5 1, 3) := by decide +kernel
theorem dX7_hours_26 : decode cX7_hours 26 = .ok (.goto (-20), 3) := by decide +kernel
theorem dX7_hours_29 : decode cX7_hours 29 = .ok (.iload 4, 2) := by decide +kernel
theorem dX7_hours_31 : decode cX7_hours 31 = .ok (.ireturn, 1) := by decide +kernel
theorem dX7_isWeather_0 : decode cX7_isWeather 0 = .ok (.iload_n 0, 1) := by decide +kernel
theorem dX7_isWeather_1 : decode cX7_isWeather 1 = .ok (.sipush (-300), 3) := by decide +kernel
theorem dX7_isWeather_4 : decode cX7_isWeather 4 = .ok (.sipush 300, 3) := by decide +kernel
theorem dX7_isWeather_7 : decode cX7_isWeather 7 = .ok (.invokestatic 37, 3) := by decide +kernel
theorem dX7_isWeather_10 : decode cX7_isWeather 10 = .ok (.ifCond .eq 17, 3) := by decide +kernel
theorem dX7_isWeather_13 : decode cX7_isWeather 13 = .ok (.iload_n 1, 1) := by decide +kernel
theorem dX7_isWeather_14 : decode cX7_isWeather 14 = .ok (.iconst 0, 1) := by decide +kernel
theorem dX7_isWeather_15 : decode cX7_isWeather 15 = .ok (.bipush 100, 2) := by decide +kernel
theorem dX7_isWeather_17 : decode cX7_isWeather 17 = .ok (.invokestatic 37, 3) := by decide +kernel
theorem dX7_isWeather_20 : decode cX7_isWeather 20 = .ok (.ifCond .eq 7, 3) := by decide +kernel
theorem dX7_isWeather_23 : decode cX7_isWeather 23 = .ok (.iconst 1, 1) := by decide +kernel
theorem dX7_isWeather_24 : decode cX7_isWeather 24 = .ok (.goto 4, 3) := by decide +kernel
theorem dX7_isWeather_27 : decode cX7_isWeather 27 = .ok (.iconst 0, 1) := by decide +kernel
theorem dX7_isWeather_28 : decode cX7_isWeather 28 = .ok (.ireturn, 1) := by decide +kernel
theorem dX7_run_0 : decode cX7_run 0 = .ok (.aload_n 0, 1) := by decide +kernel
theorem dX7_run_1 : decode cX7_run 1 = .ok (.iload_n 1, 1) := by decide +kernel
theorem dX7_run_2 : decode cX7_run 2 = .ok (.iload_n 2, 1) := by decide +kernel
theorem dX7_run_3 : decode cX7_run 3 = .ok (.invokestatic 100, 3) := by decide +kernel
theorem dX7_run_6 : decode cX7_run 6 = .ok (.ifCond .eq 13, 3) := by decide +kernel
theorem dX7_run_9 : decode cX7_run 9 = .ok (.iload_n 3, 1) := by decide +kernel
theorem dX7_run_10 : decode cX7_run 10 = .ok (.iconst 0, 1) := by decide +kernel
theorem dX7_run_11 : decode cX7_run 11 = .ok (.bipush 100, 2) := by decide +kernel
theorem dX7_run_13 : decode cX7_run 13 = .ok (.invokestatic 37, 3) := by decide +kernel
theorem dX7_run_16 : decode cX7_run 16 = .ok (.ifCond .ne 7, 3) := by decide +kernel
theorem dX7_run_19 : decode cX7_run 19 = .ok (.iconst 1, 1) := by decide +kernel
theorem dX7_run_20 : decode cX7_run 20 = .ok (.goto 22, 3) := by decide +kernel
theorem dX7_run_23 : decode cX7_run 23 = .ok (.aload_n 0, 1) := by decide +kernel
theorem dX7_run_24 : decode cX7_run 24 = .ok (.getfield 7, 3) := by decide +kernel
theorem dX7_run_27 : decode cX7_run 27 = .ok (.iconst 0, 1) := by decide +kernel
theorem dX7_run_28 : decode cX7_run 28 = .ok (.iaload, 1) := by decide +kernel
theorem dX7_run_29 : decode cX7_run 29 = .ok (.iload_n 3, 1) := by decide +kernel
theorem dX7_run_30 : decode cX7_run 30 = .ok (.iadd, 1) := by decide +kernel
theorem dX7_run_31 : decode cX7_run 31 = .ok (.sipush 2000, 3) := by decide +kernel
theorem dX7_run_34 : decode cX7_run 34 = .ok (.if_icmp .le 7, 3) := by decide +kernel
theorem dX7_run_37 : decode cX7_run 37 = .ok (.iconst 2, 1) := by decide +kernel
theorem dX7_run_38 : decode cX7_run 38 = .ok (.goto 4, 3) := by decide +kernel
theorem dX7_run_41 : decode cX7_run 41 = .ok (.iconst 0, 1) := by decide +kernel
theorem dX7_run_42 : decode cX7_run 42 = .ok (.putfield 26, 3) := by decide +kernel
theorem dX7_run_45 : decode cX7_run 45 = .ok (.aload_n 0, 1) := by decide +kernel
theorem dX7_run_46 : decode cX7_run 46 = .ok (.getfield 26, 3) := by decide +kernel
theorem dX7_run_49 : decode cX7_run 49 = .ok (.ifCond .eq 5, 3) := by decide +kernel
theorem dX7_run_52 : decode cX7_run 52 = .ok (.iconst 0, 1) := by decide +kernel
theorem dX7_run_53 : decode cX7_run 53 = .ok (.ireturn, 1) := by decide +kernel
theorem dX7_run_54 : decode cX7_run 54 = .ok (.aload_n 0, 1) := by decide +kernel
theorem dX7_run_55 : decode cX7_run 55 = .ok (.invokevirtual 48, 3) := by decide +kernel
theorem dX7_run_58 : decode cX7_run 58 = .ok (.aload_n 0, 1) := by decide +kernel
theorem dX7_run_59 : decode cX7_run 59 = .ok (.iload_n 1, 1) := by decide +kernel
theorem dX7_run_60 : decode cX7_run 60 = .ok (.iload_n 2, 1) := by decide +kernel
theorem dX7_run_61 : decode cX7_run 61 = .ok (.iload_n 3, 1) := by decide +kernel
theorem dX7_run_62 : decode cX7_run 62 = .ok (.invokevirtual 103, 3) := by decide +kernel
theorem dX7_run_65 : decode cX7_run 65 = .ok (.ireturn, 1) := by decide +kernel
theorem dX7_due_0 : decode cX7_due 0 = .ok (.iconst 0, 1) := by decide +kernel
theorem dX7_due_1 : decode cX7_due 1 = .ok (.istore_n 1, 1) := by decide +kernel
theorem dX7_due_2 : decode cX7_due 2 = .ok (.iconst 0, 1) := by decide +kernel
theorem dX7_due_3 : decode cX7_due 3 = .ok (.istore_n 2, 1) := by decide +kernel
theorem dX7_due_4 : decode cX7_due 4 = .ok (.iload_n 2, 1) := by decide +kernel
theorem dX7_due_5 : decode cX7_due 5 = .ok (.aload_n 0, 1) := by decide +kernel
theorem dX7_due_6 : decode cX7_due 6 = .ok (.getfield 7, 3) := by decide +kernel
theorem dX7_due_9 : decode cX7_due 9 = .ok (.iconst 1, 1) := by decide +kernel
theorem dX7_due_10 : decode cX7_due 10 = .ok (.iaload, 1) := by decide +kernel
theorem dX7_due_11 : decode cX7_due 11 = .ok (.if_icmp .ge 25, 3) := by decide +kernel
theorem dX7_due_14 : decode cX7_due 14 = .ok (.iload_n 1, 1) := by decide +kernel
theorem dX7_due_15 : decode cX7_due 15 = .ok (.aload_n 0, 1) := by decide +kernel
theorem dX7_due_16 : decode cX7_due 16 = .ok (.iload_n 2, 1) := by decide +kernel
theorem dX7_due_17 : decode cX7_due 17 = .ok (.invokevirtual 75, 3) := by decide +kernel
theorem dX7_due_20 : decode cX7_due 20 = .ok (.ifCond .eq 7, 3) := by decide +kernel
theorem dX7_due_23 : decode cX7_due 23 = .ok (.iconst 1, 1) := by decide +kernel
theorem dX7_due_24 : decode cX7_due 24 = .ok (.goto 4, 3) := by decide +kernel
theorem dX7_due_27 : decode cX7_due 27 = .ok (.iconst 0, 1) := by decide +kernel
theorem dX7_due_28 : decode cX7_due 28 = .ok (.iadd, 1) := by decide +kernel
theorem dX7_due_29 : decode cX7_due 29 = .ok (.istore_n 1, 1) := by decide +kernel
theorem dX7_due_30 : decode cX7_due 30 = .ok (.iinc 2 1, 3) := by decide +kernel
theorem dX7_due_33 : decode cX7_due 33 = .ok (.goto (-29), 3) := by decide +kernel
theorem dX7_due_36 : decode cX7_due 36 = .ok (.iload_n 1, 1) := by decide +kernel
theorem dX7_due_37 : decode cX7_due 37 = .ok (.ireturn, 1) := by decide +kernel
theorem dX7_valueOf_0 : decode cX7_valueOf 0 = .ok (.iload_n 1, 1) := by decide +kernel
theorem dX7_valueOf_1 : decode cX7_valueOf 1 = .ok (.bipush 7, 2) := by decide +kernel
theorem dX7_valueOf_3 : decode cX7_valueOf 3 = .ok (.if_icmp .ge 12, 3) := by decide +kernel
theorem dX7_valueOf_6 : decode cX7_valueOf 6 = .ok (.aload_n 0, 1) := by decide +kernel
theorem dX7_valueOf_7 : decode cX7_valueOf 7 = .ok (.getfield 7, 3) := by decide +kernel
theorem dX7_valueOf_10 : decode cX7_valueOf 10 = .ok (.iload_n 1, 1) := by decide +kernel
theorem dX7_valueOf_11 : decode cX7_valueOf 11 = .ok (.iaload, 1) := by decide +kernel
theorem dX7_valueOf_12 : decode cX7_valueOf 12 = .ok (.goto 24, 3) := by decide +kernel
theorem dX7_valueOf_15 : decode cX7_valueOf 15 = .ok (.iload_n 1, 1) := by decide +kernel
theorem dX7_valueOf_16 : decode cX7_valueOf 16 = .ok (.bipush 7, 2) := by decide +kernel
theorem dX7_valueOf_18 : decode cX7_valueOf 18 = .ok (.if_icmp .ne 10, 3) := by decide +kernel
theorem dX7_valueOf_21 : decode cX7_valueOf 21 = .ok (.aload_n 0, 1) := by decide +kernel
theorem dX7_valueOf_22 : decode cX7_valueOf 22 = .ok (.invokevirtual 107, 3) := by decide +kernel
theorem dX7_valueOf_25 : decode cX7_valueOf 25 = .ok (.goto 11, 3) := by decide +kernel
theorem dX7_valueOf_28 : decode cX7_valueOf 28 = .ok (.aload_n 0, 1) := by decide +kernel
theorem dX7_valueOf_29 : decode cX7_valueOf 29 = .ok (.getfield 7, 3) := by decide +kernel
theorem dX7_valueOf_32 : decode cX7_valueOf 32 = .ok (.iload_n 1, 1) := by decide +kernel
theorem dX7_valueOf_33 : decode cX7_valueOf 33 = .ok (.iconst 1, 1) := by decide +kernel
theorem dX7_valueOf_34 : decode cX7_valueOf 34 = .ok (.isub, 1) := by decide +kernel
theorem dX7_valueOf_35 : decode cX7_valueOf 35 = .ok (.iaload, 1) := by decide +kernel
theorem dX7_valueOf_36 : decode cX7_valueOf 36 = .ok (.ireturn, 1) := by decide +kernel
theorem dX7_value_0 : decode cX7_value 0 = .ok (.aload_n 0, 1) := by decide +kernel
theorem dX7_value_1 : decode cX7_value 1 = .ok (.iload_n 1, 1) := by decide +kernel
theorem dX7_value_2 : decode cX7_value 2 = .ok (.iconst 0, 1) := by decide +kernel
theorem dX7_value_3 : decode cX7_value 3 = .ok (.bipush 9, 2) := by decide +kernel
theorem dX7_value_5 : decode cX7_value 5 = .ok (.invokestatic 37, 3) := by decide +kernel
theorem dX7_value_8 : decode cX7_value 8 = .ok (.ifCond .eq 7, 3) := by decide +kernel
theorem dX7_value_11 : decode cX7_value 11 = .ok (.iconst 0, 1) := by decide +kernel
theorem dX7_value_12 : decode cX7_value 12 = .ok (.goto 4, 3) := by decide +kernel
theorem dX7_value_15 : decode cX7_value 15 = .ok (.iconst 1, 1) := by decide +kernel
theorem dX7_value_16 : decode cX7_value 16 = .ok (.putfield 26, 3) := by decide +kernel
theorem dX7_value_19 : decode cX7_value 19 = .ok (.aload_n 0, 1) := by decide +kernel
theorem dX7_value_20 : decode cX7_value 20 = .ok (.getfield 26, 3) := by decide +kernel
theorem dX7_value_23 : decode cX7_value 23 = .ok (.ifCond .eq 7, 3) := by decide +kernel
theorem dX7_value_26 : decode cX7_value 26 = .ok (.iconst 0, 1) := by decide +kernel
theorem dX7_value_27 : decode cX7_value 27 = .ok (.goto 8, 3) := by decide +kernel
theorem dX7_value_30 : decode cX7_value 30 = .ok (.aload_n 0, 1) := by decide +kernel
theorem dX7_value_31 : decode cX7_value 31 = .ok (.iload_n 1, 1) := by decide +kernel
theorem dX7_value_32 : decode cX7_value 32 = .ok (.invokevirtual 111, 3) := by decide +kernel
theorem dX7_value_35 : decode cX7_value 35 = .ok (.ireturn, 1) := by decide +kernel
theorem dX7_ofStreet_0 : decode cX7_ofStreet 0 = .ok (.iload_n 2, 1) := by decide +kernel
theorem dX7_ofStreet_1 : decode cX7_ofStreet 1 = .ok (.bipush 6, 2) := by decide +kernel
theorem dX7_ofStreet_3 : decode cX7_ofStreet 3 = .ok (.if_icmp .ge 12, 3) := by decide +kernel
theorem dX7_ofStreet_6 : decode cX7_ofStreet 6 = .ok (.aload_n 0, 1) := by decide +kernel
theorem dX7_ofStreet_7 : decode cX7_ofStreet 7 = .ok (.iload_n 1, 1) := by decide +kernel
theorem dX7_ofStreet_8 : decode cX7_ofStreet 8 = .ok (.iload_n 2, 1) := by decide +kernel
theorem dX7_ofStreet_9 : decode cX7_ofStreet 9 = .ok (.invokevirtual 41, 3) := by decide +kernel
theorem dX7_ofStreet_12 : decode cX7_ofStreet 12 = .ok (.goto 33, 3) := by decide +kernel
theorem dX7_ofStreet_15 : decode cX7_ofStreet 15 = .ok (.iload_n 2, 1) := by decide +kernel
theorem dX7_ofStreet_16 : decode cX7_ofStreet 16 = .ok (.bipush 6, 2) := by decide +kernel
theorem dX7_ofStreet_18 : decode cX7_ofStreet 18 = .ok (.if_icmp .ne 19, 3) := by decide +kernel
theorem dX7_ofStreet_21 : decode cX7_ofStreet 21 = .ok (.aload_n 0, 1) := by decide +kernel
theorem dX7_ofStreet_22 : decode cX7_ofStreet 22 = .ok (.iload_n 1, 1) := by decide +kernel
theorem dX7_ofStreet_23 : decode cX7_ofStreet 23 = .ok (.invokevirtual 75, 3) := by decide +kernel
theorem dX7_ofStreet_26 : decode cX7_ofStreet 26 = .ok (.ifCond .eq 7, 3) := by decide +kernel
theorem dX7_ofStreet_29 : decode cX7_ofStreet 29 = .ok (.iconst 1, 1) := by decide +kernel
theorem dX7_ofStreet_30 : decode cX7_ofStreet 30 = .ok (.goto 15, 3) := by decide +kernel
theorem dX7_ofStreet_33 : decode cX7_ofStreet 33 = .ok (.iconst 0, 1) := by decide +kernel
theorem dX7_ofStreet_34 : decode cX7_ofStreet 34 = .ok (.goto 11, 3) := by decide +kernel
theorem dX7_ofStreet_37 : decode cX7_ofStreet 37 = .ok (.aload_n 0, 1) := by decide +kernel
theorem dX7_ofStreet_38 : decode cX7_ofStreet 38 = .ok (.iload_n 1, 1) := by decide +kernel
theorem dX7_ofStreet_39 : decode cX7_ofStreet 39 = .ok (.iload_n 2, 1) := by decide +kernel
theorem dX7_ofStreet_40 : decode cX7_ofStreet 40 = .ok (.iconst 1, 1) := by decide +kernel
theorem dX7_ofStreet_41 : decode cX7_ofStreet 41 = .ok (.isub, 1) := by decide +kernel
theorem dX7_ofStreet_42 : decode cX7_ofStreet 42 = .ok (.invokevirtual 41, 3) := by decide +kernel
theorem dX7_ofStreet_45 : decode cX7_ofStreet 45 = .ok (.ireturn, 1) := by decide +kernel
theorem dX7_street_0 : decode cX7_street 0 = .ok (.aload_n 0, 1) := by decide +kernel
theorem dX7_street_1 : decode cX7_street 1 = .ok (.aload_n 0, 1) := by decide +kernel
theorem dX7_street_2 : decode cX7_street 2 = .ok (.iload_n 1, 1) := by decide +kernel
theorem dX7_street_3 : decode cX7_street 3 = .ok (.invokevirtual 55, 3) := by decide +kernel
theorem dX7_street_6 : decode cX7_street 6 = .ok (.ifCond .ne 7, 3) := by decide +kernel
theorem dX7_street_9 : decode cX7_street 9 = .ok (.iconst 1, 1) := by decide +kernel
theorem dX7_street_10 : decode cX7_street 10 = .ok (.goto 18, 3) := by decide +kernel
theorem dX7_street_13 : decode cX7_street 13 = .ok (.iload_n 2, 1) := by decide +kernel
theorem dX7_street_14 : decode cX7_street 14 = .ok (.iconst 0, 1) := by decide +kernel
theorem dX7_street_15 : decode cX7_street 15 = .ok (.bipush 8, 2) := by decide +kernel
theorem dX7_street_17 : decode cX7_street 17 = .ok (.invokestatic 37, 3) := by decide +kernel
theorem dX7_street_20 : decode cX7_street 20 = .ok (.ifCond .eq 7, 3) := by decide +kernel
theorem dX7_street_23 : decode cX7_street 23 = .ok (.iconst 0, 1) := by decide +kernel
theorem dX7_street_24 : decode cX7_street 24 = .ok (.goto 4, 3) := by decide +kernel
theorem dX7_street_27 : decode cX7_street 27 = .ok (.iconst 2, 1) := by decide +kernel
theorem dX7_street_28 : decode cX7_street 28 = .ok (.putfield 26, 3) := by decide +kernel
theorem dX7_street_31 : decode cX7_street 31 = .ok (.aload_n 0, 1) := by decide +kernel
theorem dX7_street_32 : decode cX7_street 32 = .ok (.getfield 26, 3) := by decide +kernel
theorem dX7_street_35 : decode cX7_street 35 = .ok (.ifCond .eq 7, 3) := by decide +kernel
theorem dX7_street_38 : decode cX7_street 38 = .ok (.iconst 0, 1) := by decide +kernel
theorem dX7_street_39 : decode cX7_street 39 = .ok (.goto 9, 3) := by decide +kernel
theorem dX7_street_42 : decode cX7_street 42 = .ok (.aload_n 0, 1) := by decide +kernel
theorem dX7_street_43 : decode cX7_street 43 = .ok (.iload_n 1, 1) := by decide +kernel
theorem dX7_street_44 : decode cX7_street 44 = .ok (.iload_n 2, 1) := by decide +kernel
theorem dX7_street_45 : decode cX7_street 45 = .ok (.invokevirtual 114, 3) := by decide +kernel
theorem dX7_street_48 : decode cX7_street 48 = .ok (.ireturn, 1) := by decide +kernel
theorem dX7_plow_0 : decode cX7_plow 0 = .ok (.aload_n 0, 1) := by decide +kernel
theorem dX7_plow_1 : decode cX7_plow 1 = .ok (.aload_n 0, 1) := by decide +kernel
theorem dX7_plow_2 : decode cX7_plow 2 = .ok (.iload_n 1, 1) := by decide +kernel
theorem dX7_plow_3 : decode cX7_plow 3 = .ok (.invokevirtual 51, 3) := by decide +kernel
theorem dX7_plow_6 : decode cX7_plow 6 = .ok (.ifCond .ne 7, 3) := by decide +kernel
theorem dX7_plow_9 : decode cX7_plow 9 = .ok (.iconst 1, 1) := by decide +kernel
theorem dX7_plow_10 : decode cX7_plow 10 = .ok (.goto 18, 3) := by decide +kernel
theorem dX7_plow_13 : decode cX7_plow 13 = .ok (.iload_n 2, 1) := by decide +kernel
theorem dX7_plow_14 : decode cX7_plow 14 = .ok (.iconst 0, 1) := by decide +kernel
theorem dX7_plow_15 : decode cX7_plow 15 = .ok (.bipush 7, 2) := by decide +kernel
theorem dX7_plow_17 : decode cX7_plow 17 = .ok (.invokestatic 37, 3) := by decide +kernel
theorem dX7_plow_20 : decode cX7_plow 20 = .ok (.ifCond .eq 7, 3) := by decide +kernel
theorem dX7_plow_23 : decode cX7_plow 23 = .ok (.iconst 0, 1) := by decide +kernel
theorem dX7_plow_24 : decode cX7_plow 24 = .ok (.goto 4, 3) := by decide +kernel
theorem dX7_plow_27 : decode cX7_plow 27 = .ok (.iconst 2, 1) := by decide +kernel
theorem dX7_plow_28 : decode cX7_plow 28 = .ok (.putfield 26, 3) := by decide +kernel
theorem dX7_plow_31 : decode cX7_plow 31 = .ok (.aload_n 0, 1) := by decide +kernel
theorem dX7_plow_32 : decode cX7_plow 32 = .ok (.getfield 26, 3) := by decide +kernel
theorem dX7_plow_35 : decode cX7_plow 35 = .ok (.ifCond .eq 7, 3) := by decide +kernel
theorem dX7_plow_38 : decode cX7_plow 38 = .ok (.iconst 0, 1) := by decide +kernel
theorem dX7_plow_39 : decode cX7_plow 39 = .ok (.goto 9, 3) := by decide +kernel
theorem dX7_plow_42 : decode cX7_plow 42 = .ok (.aload_n 0, 1) := by decide +kernel
theorem dX7_plow_43 : decode cX7_plow 43 = .ok (.iload_n 1, 1) := by decide +kernel
theorem dX7_plow_44 : decode cX7_plow 44 = .ok (.iload_n 2, 1) := by decide +kernel
theorem dX7_plow_45 : decode cX7_plow 45 = .ok (.invokevirtual 58, 3) := by decide +kernel
theorem dX7_plow_48 : decode cX7_plow 48 = .ok (.ireturn, 1) := by decide +kernel
theorem dX7_stop_0 : decode cX7_stop 0 = .ok (.aload_n 0, 1) := by decide +kernel
theorem dX7_stop_1 : decode cX7_stop 1 = .ok (.aload_n 0, 1) := by decide +kernel
theorem dX7_stop_2 : decode cX7_stop 2 = .ok (.iload_n 1, 1) := by decide +kernel
theorem dX7_stop_3 : decode cX7_stop 3 = .ok (.invokevirtual 51, 3) := by decide +kernel
theorem dX7_stop_6 : decode cX7_stop 6 = .ok (.ifCond .eq 23, 3) := by decide +kernel
theorem dX7_stop_9 : decode cX7_stop 9 = .ok (.iload_n 2, 1) := by decide +kernel
theorem dX7_stop_10 : decode cX7_stop 10 = .ok (.iconst 0, 1) := by decide +kernel
theorem dX7_stop_11 : decode cX7_stop 11 = .ok (.aload_n 0, 1) := by decide +kernel
theorem dX7_stop_12 : decode cX7_stop 12 = .ok (.iload_n 1, 1) := by decide +kernel
theorem dX7_stop_13 : decode cX7_stop 13 = .ok (.iconst 3, 1) := by decide +kernel
theorem dX7_stop_14 : decode cX7_stop 14 = .ok (.invokevirtual 58, 3) := by decide +kernel
theorem dX7_stop_17 : decode cX7_stop 17 = .ok (.iconst 1, 1) := by decide +kernel
theorem dX7_stop_18 : decode cX7_stop 18 = .ok (.isub, 1) := by decide +kernel
theorem dX7_stop_19 : decode cX7_stop 19 = .ok (.invokestatic 37, 3) := by decide +kernel
theorem dX7_stop_22 : decode cX7_stop 22 = .ok (.ifCond .eq 7, 3) := by decide +kernel
theorem dX7_stop_25 : decode cX7_stop 25 = .ok (.iconst 0, 1) := by decide +kernel
theorem dX7_stop_26 : decode cX7_stop 26 = .ok (.goto 4, 3) := by decide +kernel
theorem dX7_stop_29 : decode cX7_stop 29 = .ok (.iconst 1, 1) := by decide +kernel
theorem dX7_stop_30 : decode cX7_stop 30 = .ok (.putfield 26, 3) := by decide +kernel
theorem dX7_stop_33 : decode cX7_stop 33 = .ok (.aload_n 0, 1) := by decide +kernel
theorem dX7_stop_34 : decode cX7_stop 34 = .ok (.getfield 26, 3) := by decide +kernel
theorem dX7_stop_37 : decode cX7_stop 37 = .ok (.ifCond .eq 7, 3) := by decide +kernel
theorem dX7_stop_40 : decode cX7_stop 40 = .ok (.iconst 0, 1) := by decide +kernel
theorem dX7_stop_41 : decode cX7_stop 41 = .ok (.goto 12, 3) := by decide +kernel
theorem dX7_stop_44 : decode cX7_stop 44 = .ok (.aload_n 0, 1) := by decide +kernel
theorem dX7_stop_45 : decode cX7_stop 45 = .ok (.iload_n 1, 1) := by decide +kernel
theorem dX7_stop_46 : decode cX7_stop 46 = .ok (.bipush 8, 2) := by decide +kernel
theorem dX7_stop_48 : decode cX7_stop 48 = .ok (.iload_n 2, 1) := by decide +kernel
theorem dX7_stop_49 : decode cX7_stop 49 = .ok (.iadd, 1) := by decide +kernel
theorem dX7_stop_50 : decode cX7_stop 50 = .ok (.invokevirtual 58, 3) := by decide +kernel
theorem dX7_stop_53 : decode cX7_stop 53 = .ok (.ireturn, 1) := by decide +kernel
theorem dX7_terms_0 : decode cX7_terms 0 = .ok (.aload_n 0, 1) := by decide +kernel
theorem dX7_terms_1 : decode cX7_terms 1 = .ok (.iload_n 1, 1) := by decide +kernel
theorem dX7_terms_2 : decode cX7_terms 2 = .ok (.iconst 0, 1) := by decide +kernel
theorem dX7_terms_3 : decode cX7_terms 3 = .ok (.iconst 2, 1) := by decide +kernel
theorem dX7_terms_4 : decode cX7_terms 4 = .ok (.invokestatic 37, 3) := by decide +kernel
theorem dX7_terms_7 : decode cX7_terms 7 = .ok (.ifCond .ne 7, 3) := by decide +kernel
theorem dX7_terms_10 : decode cX7_terms 10 = .ok (.iconst 1, 1) := by decide +kernel
theorem dX7_terms_11 : decode cX7_terms 11 = .ok (.goto 17, 3) := by decide +kernel
theorem dX7_terms_14 : decode cX7_terms 14 = .ok (.iload_n 2, 1) := by decide +kernel
theorem dX7_terms_15 : decode cX7_terms 15 = .ok (.iconst 0, 1) := by decide +kernel
theorem dX7_terms_16 : decode cX7_terms 16 = .ok (.iconst 3, 1) := by decide +kernel
theorem dX7_terms_17 : decode cX7_terms 17 = .ok (.invokestatic 37, 3) := by decide +kernel
theorem dX7_terms_20 : decode cX7_terms 20 = .ok (.ifCond .eq 7, 3) := by decide +kernel
theorem dX7_terms_23 : decode cX7_terms 23 = .ok (.iconst 0, 1) := by decide +kernel
theorem dX7_terms_24 : decode cX7_terms 24 = .ok (.goto 4, 3) := by decide +kernel
theorem dX7_terms_27 : decode cX7_terms 27 = .ok (.iconst 2, 1) := by decide +kernel
theorem dX7_terms_28 : decode cX7_terms 28 = .ok (.putfield 26, 3) := by decide +kernel
theorem dX7_terms_31 : decode cX7_terms 31 = .ok (.aload_n 0, 1) := by decide +kernel
theorem dX7_terms_32 : decode cX7_terms 32 = .ok (.getfield 26, 3) := by decide +kernel
theorem dX7_terms_35 : decode cX7_terms 35 = .ok (.ifCond .eq 7, 3) := by decide +kernel
theorem dX7_terms_38 : decode cX7_terms 38 = .ok (.iconst 0, 1) := by decide +kernel
theorem dX7_terms_39 : decode cX7_terms 39 = .ok (.goto 17, 3) := by decide +kernel
theorem dX7_terms_42 : decode cX7_terms 42 = .ok (.aload_n 0, 1) := by decide +kernel
theorem dX7_terms_43 : decode cX7_terms 43 = .ok (.getfield 7, 3) := by decide +kernel
theorem dX7_terms_46 : decode cX7_terms 46 = .ok (.sipush 229, 3) := by decide +kernel
theorem dX7_terms_49 : decode cX7_terms 49 = .ok (.iconst 4, 1) := by decide +kernel
theorem dX7_terms_50 : decode cX7_terms 50 = .ok (.iload_n 1, 1) := by decide +kernel
theorem dX7_terms_51 : decode cX7_terms 51 = .ok (.imul, 1) := by decide +kernel
theorem dX7_terms_52 : decode cX7_terms 52 = .ok (.iadd, 1) := by decide +kernel
theorem dX7_terms_53 : decode cX7_terms 53 = .ok (.iload_n 2, 1) := by decide +kernel
theorem dX7_terms_54 : decode cX7_terms 54 = .ok (.iadd, 1) := by decide +kernel
theorem dX7_terms_55 : decode cX7_terms 55 = .ok (.iaload, 1) := by decide +kernel
theorem dX7_terms_56 : decode cX7_terms 56 = .ok (.ireturn, 1) := by decide +kernel
theorem dX7_meanDepth_0 : decode cX7_meanDepth 0 = .ok (.aload_n 0, 1) := by decide +kernel
theorem dX7_meanDepth_1 : decode cX7_meanDepth 1 = .ok (.iconst 0, 1) := by decide +kernel
theorem dX7_meanDepth_2 : decode cX7_meanDepth 2 = .ok (.putfield 26, 3) := by decide +kernel
theorem dX7_meanDepth_5 : decode cX7_meanDepth 5 = .ok (.lconst 0, 1) := by decide +kernel
theorem dX7_meanDepth_6 : decode cX7_meanDepth 6 = .ok (.lstore_n 1, 1) := by decide +kernel
theorem dX7_meanDepth_7 : decode cX7_meanDepth 7 = .ok (.lconst 0, 1) := by decide +kernel
theorem dX7_meanDepth_8 : decode cX7_meanDepth 8 = .ok (.lstore_n 3, 1) := by decide +kernel
theorem dX7_meanDepth_9 : decode cX7_meanDepth 9 = .ok (.iconst 0, 1) := by decide +kernel
theorem dX7_meanDepth_10 : decode cX7_meanDepth 10 = .ok (.istore 5, 2) := by decide +kernel
theorem dX7_meanDepth_12 : decode cX7_meanDepth 12 = .ok (.iload 5, 2) := by decide +kernel
theorem dX7_meanDepth_14 : decode cX7_meanDepth 14 = .ok (.aload_n 0, 1) := by decide +kernel
theorem dX7_meanDepth_15 : decode cX7_meanDepth 15 = .ok (.getfield 7, 3) := by decide +kernel
theorem dX7_meanDepth_18 : decode cX7_meanDepth 18 = .ok (.iconst 1, 1) := by decide +kernel
theorem dX7_meanDepth_19 : decode cX7_meanDepth 19 = .ok (.iaload, 1) := by decide +kernel
theorem dX7_meanDepth_20 : decode cX7_meanDepth 20 = .ok (.if_icmp .ge 40, 3) := by decide +kernel
theorem dX7_meanDepth_23 : decode cX7_meanDepth 23 = .ok (.lload_n 1, 1) := by decide +kernel
theorem dX7_meanDepth_24 : decode cX7_meanDepth 24 = .ok (.aload_n 0, 1) := by decide +kernel
theorem dX7_meanDepth_25 : decode cX7_meanDepth 25 = .ok (.iload 5, 2) := by decide +kernel
theorem dX7_meanDepth_27 : decode cX7_meanDepth 27 = .ok (.iconst 2, 1) := by decide +kernel
theorem dX7_meanDepth_28 : decode cX7_meanDepth 28 = .ok (.invokevirtual 41, 3) := by decide +kernel
theorem dX7_meanDepth_31 : decode cX7_meanDepth 31 = .ok (.i2l, 1) := by decide +kernel
theorem dX7_meanDepth_32 : decode cX7_meanDepth 32 = .ok (.aload_n 0, 1) := by decide +kernel
theorem dX7_meanDepth_33 : decode cX7_meanDepth 33 = .ok (.iload 5, 2) := by decide +kernel
theorem dX7_meanDepth_35 : decode cX7_meanDepth 35 = .ok (.iconst 0, 1) := by decide +kernel
theorem dX7_meanDepth_36 : decode cX7_meanDepth 36 = .ok (.invokevirtual 41, 3) := by decide +kernel
theorem dX7_meanDepth_39 : decode cX7_meanDepth 39 = .ok (.i2l, 1) := by decide +kernel
theorem dX7_meanDepth_40 : decode cX7_meanDepth 40 = .ok (.lmul, 1) := by decide +kernel
theorem dX7_meanDepth_41 : decode cX7_meanDepth 41 = .ok (.ladd, 1) := by decide +kernel
theorem dX7_meanDepth_42 : decode cX7_meanDepth 42 = .ok (.lstore_n 1, 1) := by decide +kernel
theorem dX7_meanDepth_43 : decode cX7_meanDepth 43 = .ok (.lload_n 3, 1) := by decide +kernel
theorem dX7_meanDepth_44 : decode cX7_meanDepth 44 = .ok (.aload_n 0, 1) := by decide +kernel
theorem dX7_meanDepth_45 : decode cX7_meanDepth 45 = .ok (.iload 5, 2) := by decide +kernel
theorem dX7_meanDepth_47 : decode cX7_meanDepth 47 = .ok (.iconst 0, 1) := by decide +kernel
theorem dX7_meanDepth_48 : decode cX7_meanDepth 48 = .ok (.invokevirtual 41, 3) := by decide +kernel
theorem dX7_meanDepth_51 : decode cX7_meanDepth 51 = .ok (.i2l, 1) := by decide +kernel
theorem dX7_meanDepth_52 : decode cX7_meanDepth 52 = .ok (.ladd, 1) := by decide +kernel
theorem dX7_meanDepth_53 : decode cX7_meanDepth 53 = .ok (.lstore_n 3, 1) := by decide +kernel
theorem dX7_meanDepth_54 : decode cX7_meanDepth 54 = .ok (.iinc 5 1, 3) := by decide +kernel
theorem dX7_meanDepth_57 : decode cX7_meanDepth 57 = .ok (.goto (-45), 3) := by decide +kernel
theorem dX7_meanDepth_60 : decode cX7_meanDepth 60 = .ok (.lload_n 3, 1) := by decide +kernel
theorem dX7_meanDepth_61 : decode cX7_meanDepth 61 = .ok (.lconst 0, 1) := by decide +kernel
theorem dX7_meanDepth_62 : decode cX7_meanDepth 62 = .ok (.lcmp, 1) := by decide +kernel
theorem dX7_meanDepth_63 : decode cX7_meanDepth 63 = .ok (.ifCond .ne 7, 3) := by decide +kernel
theorem dX7_meanDepth_66 : decode cX7_meanDepth 66 = .ok (.dconst 0, 1) := by decide +kernel
theorem dX7_meanDepth_67 : decode cX7_meanDepth 67 = .ok (.goto 8, 3) := by decide +kernel
theorem dX7_meanDepth_70 : decode cX7_meanDepth 70 = .ok (.lload_n 1, 1) := by decide +kernel
theorem dX7_meanDepth_71 : decode cX7_meanDepth 71 = .ok (.l2d, 1) := by decide +kernel
theorem dX7_meanDepth_72 : decode cX7_meanDepth 72 = .ok (.lload_n 3, 1) := by decide +kernel
theorem dX7_meanDepth_73 : decode cX7_meanDepth 73 = .ok (.l2d, 1) := by decide +kernel
theorem dX7_meanDepth_74 : decode cX7_meanDepth 74 = .ok (.ddiv, 1) := by decide +kernel
theorem dX7_meanDepth_75 : decode cX7_meanDepth 75 = .ok (.dreturn, 1) := by decide +kernel
theorem dX7_credits_0 : decode cX7_credits 0 = .ok (.aload_n 0, 1) := by decide +kernel
theorem dX7_credits_1 : decode cX7_credits 1 = .ok (.getfield 7, 3) := by decide +kernel
theorem dX7_credits_4 : decode cX7_credits 4 = .ok (.iconst 0, 1) := by decide +kernel
theorem dX7_credits_5 : decode cX7_credits 5 = .ok (.aload_n 0, 1) := by decide +kernel
theorem dX7_credits_6 : decode cX7_credits 6 = .ok (.getfield 13, 3) := by decide +kernel
theorem dX7_credits_9 : decode cX7_credits 9 = .ok (.iconst 0, 1) := by decide +kernel
theorem dX7_credits_10 : decode cX7_credits 10 = .ok (.invokestatic 33, 3) := by decide +kernel
theorem dX7_credits_13 : decode cX7_credits 13 = .ok (.aload_n 0, 1) := by decide +kernel
theorem dX7_credits_14 : decode cX7_credits 14 = .ok (.iload_n 1, 1) := by decide +kernel
theorem dX7_credits_15 : decode cX7_credits 15 = .ok (.iload_n 2, 1) := by decide +kernel
theorem dX7_credits_16 : decode cX7_credits 16 = .ok (.iload_n 3, 1) := by decide +kernel
theorem dX7_credits_17 : decode cX7_credits 17 = .ok (.invokevirtual 103, 3) := by decide +kernel
theorem dX7_credits_20 : decode cX7_credits 20 = .ok (.istore 4, 2) := by decide +kernel
theorem dX7_credits_22 : decode cX7_credits 22 = .ok (.aload_n 0, 1) := by decide +kernel
theorem dX7_credits_23 : decode cX7_credits 23 = .ok (.getfield 13, 3) := by decide +kernel
theorem dX7_credits_26 : decode cX7_credits 26 = .ok (.iconst 0, 1) := by decide +kernel
theorem dX7_credits_27 : decode cX7_credits 27 = .ok (.aload_n 0, 1) := by decide +kernel
theorem dX7_credits_28 : decode cX7_credits 28 = .ok (.getfield 7, 3) := by decide +kernel
theorem dX7_credits_31 : decode cX7_credits 31 = .ok (.iconst 0, 1) := by decide +kernel
theorem dX7_credits_32 : decode cX7_credits 32 = .ok (.invokestatic 33, 3) := by decide +kernel
theorem dX7_credits_35 : decode cX7_credits 35 = .ok (.iload 4, 2) := by decide +kernel
theorem dX7_credits_37 : decode cX7_credits 37 = .ok (.ireturn, 1) := by decide +kernel
theorem dX7_creditsIn_0 : decode cX7_creditsIn 0 = .ok (.aload_n 0, 1) := by decide +kernel
theorem dX7_creditsIn_1 : decode cX7_creditsIn 1 = .ok (.iload_n 1, 1) := by decide +kernel
theorem dX7_creditsIn_2 : decode cX7_creditsIn 2 = .ok (.iload_n 2, 1) := by decide +kernel
theorem dX7_creditsIn_3 : decode cX7_creditsIn 3 = .ok (.invokestatic 100, 3) := by decide +kernel
theorem dX7_creditsIn_6 : decode cX7_creditsIn 6 = .ok (.ifCond .eq 17, 3) := by decide +kernel
theorem dX7_creditsIn_9 : decode cX7_creditsIn 9 = .ok (.iload_n 3, 1) := by decide +kernel
theorem dX7_creditsIn_10 : decode cX7_creditsIn 10 = .ok (.iconst 0, 1) := by decide +kernel
theorem dX7_creditsIn_11 : decode cX7_creditsIn 11 = .ok (.bipush 100, 2) := by decide +kernel
theorem dX7_creditsIn_13 : decode cX7_creditsIn 13 = .ok (.invokestatic 37, 3) := by decide +kernel
theorem dX7_creditsIn_16 : decode cX7_creditsIn 16 = .ok (.ifCond .eq 7, 3) := by decide +kernel
theorem dX7_creditsIn_19 : decode cX7_creditsIn 19 = .ok (.iconst 0, 1) := by decide +kernel
theorem dX7_creditsIn_20 : decode cX7_creditsIn 20 = .ok (.goto 4, 3) := by decide +kernel
theorem dX7_creditsIn_23 : decode cX7_creditsIn 23 = .ok (.iconst 1, 1) := by decide +kernel
theorem dX7_creditsIn_24 : decode cX7_creditsIn 24 = .ok (.putfield 26, 3) := by decide +kernel
theorem dX7_creditsIn_27 : decode cX7_creditsIn 27 = .ok (.aload_n 0, 1) := by decide +kernel
theorem dX7_creditsIn_28 : decode cX7_creditsIn 28 = .ok (.getfield 26, 3) := by decide +kernel
theorem dX7_creditsIn_31 : decode cX7_creditsIn 31 = .ok (.ifCond .eq 7, 3) := by decide +kernel
theorem dX7_creditsIn_34 : decode cX7_creditsIn 34 = .ok (.iconst 0, 1) := by decide +kernel
theorem dX7_creditsIn_35 : decode cX7_creditsIn 35 = .ok (.goto 10, 3) := by decide +kernel
theorem dX7_creditsIn_38 : decode cX7_creditsIn 38 = .ok (.aload_n 0, 1) := by decide +kernel
theorem dX7_creditsIn_39 : decode cX7_creditsIn 39 = .ok (.iload_n 1, 1) := by decide +kernel
theorem dX7_creditsIn_40 : decode cX7_creditsIn 40 = .ok (.iload_n 2, 1) := by decide +kernel
theorem dX7_creditsIn_41 : decode cX7_creditsIn 41 = .ok (.iload_n 3, 1) := by decide +kernel
theorem dX7_creditsIn_42 : decode cX7_creditsIn 42 = .ok (.invokevirtual 117, 3) := by decide +kernel
theorem dX7_creditsIn_45 : decode cX7_creditsIn 45 = .ok (.ireturn, 1) := by decide +kernel
theorem dX7_tried_0 : decode cX7_tried 0 = .ok (.aload_n 0, 1) := by decide +kernel
theorem dX7_tried_1 : decode cX7_tried 1 = .ok (.iload_n 1, 1) := by decide +kernel
theorem dX7_tried_2 : decode cX7_tried 2 = .ok (.iload_n 2, 1) := by decide +kernel
theorem dX7_tried_3 : decode cX7_tried 3 = .ok (.invokevirtual 68, 3) := by decide +kernel
theorem dX7_tried_6 : decode cX7_tried 6 = .ok (.istore 6, 2) := by decide +kernel
theorem dX7_tried_8 : decode cX7_tried 8 = .ok (.aload_n 0, 1) := by decide +kernel
theorem dX7_tried_9 : decode cX7_tried 9 = .ok (.iload_n 3, 1) := by decide +kernel
theorem dX7_tried_10 : decode cX7_tried 10 = .ok (.iload 4, 2) := by decide +kernel
theorem dX7_tried_12 : decode cX7_tried 12 = .ok (.iload 5, 2) := by decide +kernel
theorem dX7_tried_14 : decode cX7_tried 14 = .ok (.invokevirtual 117, 3) := by decide +kernel
theorem dX7_tried_17 : decode cX7_tried 17 = .ok (.istore 7, 2) := by decide +kernel
theorem dX7_tried_19 : decode cX7_tried 19 = .ok (.aload_n 0, 1) := by decide +kernel
theorem dX7_tried_20 : decode cX7_tried 20 = .ok (.iload_n 1, 1) := by decide +kernel
theorem dX7_tried_21 : decode cX7_tried 21 = .ok (.iload_n 2, 1) := by decide +kernel
theorem dX7_tried_22 : decode cX7_tried 22 = .ok (.invokevirtual 68, 3) := by decide +kernel
theorem dX7_tried_25 : decode cX7_tried 25 = .ok (.istore 6, 2) := by decide +kernel
theorem dX7_tried_27 : decode cX7_tried 27 = .ok (.iload 7, 2) := by decide +kernel
theorem dX7_tried_29 : decode cX7_tried 29 = .ok (.ireturn, 1) := by decide +kernel
theorem dX7_bestExchange_0 : decode cX7_bestExchange 0 = .ok (.aload_n 0, 1) := by decide +kernel
theorem dX7_bestExchange_1 : decode cX7_bestExchange 1 = .ok (.aload_n 0, 1) := by decide +kernel
theorem dX7_bestExchange_2 : decode cX7_bestExchange 2 = .ok (.iload_n 1, 1) := by decide +kernel
theorem dX7_bestExchange_3 : decode cX7_bestExchange 3 = .ok (.invokevirtual 51, 3) := by decide +kernel
theorem dX7_bestExchange_6 : decode cX7_bestExchange 6 = .ok (.ifCond .ne 7, 3) := by decide +kernel
theorem dX7_bestExchange_9 : decode cX7_bestExchange 9 = .ok (.iconst 1, 1) := by decide +kernel
theorem dX7_bestExchange_10 : decode cX7_bestExchange 10 = .ok (.goto 27, 3) := by decide +kernel
theorem dX7_bestExchange_13 : decode cX7_bestExchange 13 = .ok (.iload_n 2, 1) := by decide +kernel
theorem dX7_bestExchange_14 : decode cX7_bestExchange 14 = .ok (.iload_n 3, 1) := by decide +kernel
theorem dX7_bestExchange_15 : decode cX7_bestExchange 15 = .ok (.invokestatic 100, 3) := by decide +kernel
theorem dX7_bestExchange_18 : decode cX7_bestExchange 18 = .ok (.ifCond .eq 18, 3) := by decide +kernel
theorem dX7_bestExchange_21 : decode cX7_bestExchange 21 = .ok (.iload 4, 2) := by decide +kernel
theorem dX7_bestExchange_23 : decode cX7_bestExchange 23 = .ok (.iconst 0, 1) := by decide +kernel
theorem dX7_bestExchange_24 : decode cX7_bestExchange 24 = .ok (.bipush 50, 2) := by decide +kernel
theorem dX7_bestExchange_26 : decode cX7_bestExchange 26 = .ok (.invokestatic 37, 3) := by decide +kernel
theorem dX7_bestExchange_29 : decode cX7_bestExchange 29 = .ok (.ifCond .eq 7, 3) := by decide +kernel
theorem dX7_bestExchange_32 : decode cX7_bestExchange 32 = .ok (.iconst 0, 1) := by decide +kernel
theorem dX7_bestExchange_33 : decode cX7_bestExchange 33 = .ok (.goto 4, 3) := by decide +kernel
theorem dX7_bestExchange_36 : decode cX7_bestExchange 36 = .ok (.iconst 2, 1) := by decide +kernel
theorem dX7_bestExchange_37 : decode cX7_bestExchange 37 = .ok (.putfield 26, 3) := by decide +kernel
theorem dX7_bestExchange_40 : decode cX7_bestExchange 40 = .ok (.aload_n 0, 1) := by decide +kernel
theorem dX7_bestExchange_41 : decode cX7_bestExchange 41 = .ok (.getfield 26, 3) := by decide +kernel
theorem dX7_bestExchange_44 : decode cX7_bestExchange 44 = .ok (.ifCond .eq 5, 3) := by decide +kernel
theorem dX7_bestExchange_47 : decode cX7_bestExchange 47 = .ok (.iconst 0, 1) := by decide +kernel
theorem dX7_bestExchange_48 : decode cX7_bestExchange 48 = .ok (.ireturn, 1) := by decide +kernel
theorem dX7_bestExchange_49 : decode cX7_bestExchange 49 = .ok (.iconst (-1), 1) := by decide +kernel
theorem dX7_bestExchange_50 : decode cX7_bestExchange 50 = .ok (.istore 5, 2) := by decide +kernel
theorem dX7_bestExchange_52 : decode cX7_bestExchange 52 = .ok (.aload_n 0, 1) := by decide +kernel
theorem dX7_bestExchange_53 : decode cX7_bestExchange 53 = .ok (.iload_n 2, 1) := by decide +kernel
theorem dX7_bestExchange_54 : decode cX7_bestExchange 54 = .ok (.iload_n 3, 1) := by decide +kernel
theorem dX7_bestExchange_55 : decode cX7_bestExchange 55 = .ok (.iload 4, 2) := by decide +kernel
theorem dX7_bestExchange_57 : decode cX7_bestExchange 57 = .ok (.invokevirtual 117, 3) := by decide +kernel
theorem dX7_bestExchange_60 : decode cX7_bestExchange 60 = .ok (.istore 6, 2) := by decide +kernel
theorem dX7_bestExchange_62 : decode cX7_bestExchange 62 = .ok (.iconst 0, 1) := by decide +kernel
theorem dX7_bestExchange_63 : decode cX7_bestExchange 63 = .ok (.istore 7, 2) := by decide +kernel
theorem dX7_bestExchange_65 : decode cX7_bestExchange 65 = .ok (.aload_n 0, 1) := by decide +kernel
theorem dX7_bestExchange_66 : decode cX7_bestExchange 66 = .ok (.iload_n 1, 1) := by decide +kernel
theorem dX7_bestExchange_67 : decode cX7_bestExchange 67 = .ok (.iload 7, 2) := by decide +kernel
theorem dX7_bestExchange_69 : decode cX7_bestExchange 69 = .ok (.invokevirtual 61, 3) := by decide +kernel
theorem dX7_bestExchange_72 : decode cX7_bestExchange 72 = .ok (.ifCond .eq 57, 3) := by decide +kernel
theorem dX7_bestExchange_75 : decode cX7_bestExchange 75 = .ok (.aload_n 0, 1) := by decide +kernel
theorem dX7_bestExchange_76 : decode cX7_bestExchange 76 = .ok (.iload_n 1, 1) := by decide +kernel
theorem dX7_bestExchange_77 : decode cX7_bestExchange 77 = .ok (.iload 7, 2) := by decide +kernel
theorem dX7_bestExchange_79 : decode cX7_bestExchange 79 = .ok (.invokevirtual 65, 3) := by decide +kernel
theorem dX7_bestExchange_82 : decode cX7_bestExchange 82 = .ok (.ifCond .ne 41, 3) := by decide +kernel
theorem dX7_bestExchange_85 : decode cX7_bestExchange 85 = .ok (.aload_n 0, 1) := by decide +kernel
theorem dX7_bestExchange_86 : decode cX7_bestExchange 86 = .ok (.iload_n 1, 1) := by decide +kernel
theorem dX7_bestExchange_87 : decode cX7_bestExchange 87 = .ok (.iload 7, 2) := by decide +kernel
theorem dX7_bestExchange_89 : decode cX7_bestExchange 89 = .ok (.iload_n 2, 1) := by decide +kernel
theorem dX7_bestExchange_90 : decode cX7_bestExchange 90 = .ok (.iload_n 3, 1) := by decide +kernel
theorem dX7_bestExchange_91 : decode cX7_bestExchange 91 = .ok (.iload 4, 2) := by decide +kernel
theorem dX7_bestExchange_93 : decode cX7_bestExchange 93 = .ok (.invokevirtual 120, 3) := by decide +kernel
theorem dX7_bestExchange_96 : decode cX7_bestExchange 96 = .ok (.istore 8, 2) := by decide +kernel
theorem dX7_bestExchange_98 : decode cX7_bestExchange 98 = .ok (.iload 8, 2) := by decide +kernel
theorem dX7_bestExchange_100 : decode cX7_bestExchange 100 = .ok (.iload 6, 2) := by decide +kernel
theorem dX7_bestExchange_102 : decode cX7_bestExchange 102 = .ok (.if_icmp .ge 8, 3) := by decide +kernel
theorem dX7_bestExchange_105 : decode cX7_bestExchange 105 = .ok (.iload 7, 2) := by decide +kernel
theorem dX7_bestExchange_107 : decode cX7_bestExchange 107 = .ok (.goto 5, 3) := by decide +kernel
theorem dX7_bestExchange_110 : decode cX7_bestExchange 110 = .ok (.iload 5, 2) := by decide +kernel
theorem dX7_bestExchange_112 : decode cX7_bestExchange 112 = .ok (.istore 5, 2) := by decide +kernel
theorem dX7_bestExchange_114 : decode cX7_bestExchange 114 = .ok (.iload 8, 2) := by decide +kernel
theorem dX7_bestExchange_116 : decode cX7_bestExchange 116 = .ok (.iload 6, 2) := by decide +kernel
theorem dX7_bestExchange_118 : decode cX7_bestExchange 118 = .ok (.invokestatic 72, 3) := by decide +kernel
theorem dX7_bestExchange_121 : decode cX7_bestExchange 121 = .ok (.istore 6, 2) := by decide +kernel
theorem dX7_bestExchange_123 : decode cX7_bestExchange 123 = .ok (.iinc 7 1, 3) := by decide +kernel
theorem dX7_bestExchange_126 : decode cX7_bestExchange 126 = .ok (.goto (-61), 3) := by decide +kernel
theorem dX7_bestExchange_129 : decode cX7_bestExchange 129 = .ok (.iload 5, 2) := by decide +kernel
theorem dX7_bestExchange_131 : decode cX7_bestExchange 131 = .ok (.ireturn, 1) := by decide +kernel
theorem dX7_leastSpeed_0 : decode cX7_leastSpeed 0 = .ok (.aload_n 0, 1) := by decide +kernel
theorem dX7_leastSpeed_1 : decode cX7_leastSpeed 1 = .ok (.aload_n 0, 1) := by decide +kernel
theorem dX7_leastSpeed_2 : decode cX7_leastSpeed 2 = .ok (.iload_n 1, 1) := by decide +kernel
theorem dX7_leastSpeed_3 : decode cX7_leastSpeed 3 = .ok (.invokevirtual 51, 3) := by decide +kernel
theorem dX7_leastSpeed_6 : decode cX7_leastSpeed 6 = .ok (.ifCond .ne 7, 3) := by decide +kernel
theorem dX7_leastSpeed_9 : decode cX7_leastSpeed 9 = .ok (.iconst 1, 1) := by decide +kernel
theorem dX7_leastSpeed_10 : decode cX7_leastSpeed 10 = .ok (.goto 27, 3) := by decide +kernel
theorem dX7_leastSpeed_13 : decode cX7_leastSpeed 13 = .ok (.iload_n 2, 1) := by decide +kernel
theorem dX7_leastSpeed_14 : decode cX7_leastSpeed 14 = .ok (.iload_n 3, 1) := by decide +kernel
theorem dX7_leastSpeed_15 : decode cX7_leastSpeed 15 = .ok (.invokestatic 100, 3) := by decide +kernel
theorem dX7_leastSpeed_18 : decode cX7_leastSpeed 18 = .ok (.ifCond .eq 18, 3) := by decide +kernel
theorem dX7_leastSpeed_21 : decode cX7_leastSpeed 21 = .ok (.iload 4, 2) := by decide +kernel
theorem dX7_leastSpeed_23 : decode cX7_leastSpeed 23 = .ok (.iconst 0, 1) := by decide +kernel
theorem dX7_leastSpeed_24 : decode cX7_leastSpeed 24 = .ok (.bipush 50, 2) := by decide +kernel
theorem dX7_leastSpeed_26 : decode cX7_leastSpeed 26 = .ok (.invokestatic 37, 3) := by decide +kernel
theorem dX7_leastSpeed_29 : decode cX7_leastSpeed 29 = .ok (.ifCond .eq 7, 3) := by decide +kernel
theorem dX7_leastSpeed_32 : decode cX7_leastSpeed 32 = .ok (.iconst 0, 1) := by decide +kernel
theorem dX7_leastSpeed_33 : decode cX7_leastSpeed 33 = .ok (.goto 4, 3) := by decide +kernel
theorem dX7_leastSpeed_36 : decode cX7_leastSpeed 36 = .ok (.iconst 2, 1) := by decide +kernel
theorem dX7_leastSpeed_37 : decode cX7_leastSpeed 37 = .ok (.putfield 26, 3) := by decide +kernel
theorem dX7_leastSpeed_40 : decode cX7_leastSpeed 40 = .ok (.aload_n 0, 1) := by decide +kernel
theorem dX7_leastSpeed_41 : decode cX7_leastSpeed 41 = .ok (.getfield 26, 3) := by decide +kernel
theorem dX7_leastSpeed_44 : decode cX7_leastSpeed 44 = .ok (.ifCond .eq 5, 3) := by decide +kernel
theorem dX7_leastSpeed_47 : decode cX7_leastSpeed 47 = .ok (.iconst 0, 1) := by decide +kernel
theorem dX7_leastSpeed_48 : decode cX7_leastSpeed 48 = .ok (.ireturn, 1) := by decide +kernel
theorem dX7_leastSpeed_49 : decode cX7_leastSpeed 49 = .ok (.aload_n 0, 1) := by decide +kernel
theorem dX7_leastSpeed_50 : decode cX7_leastSpeed 50 = .ok (.getfield 7, 3) := by decide +kernel
theorem dX7_leastSpeed_53 : decode cX7_leastSpeed 53 = .ok (.iconst 0, 1) := by decide +kernel
theorem dX7_leastSpeed_54 : decode cX7_leastSpeed 54 = .ok (.aload_n 0, 1) := by decide +kernel
theorem dX7_leastSpeed_55 : decode cX7_leastSpeed 55 = .ok (.getfield 13, 3) := by decide +kernel
theorem dX7_leastSpeed_58 : decode cX7_leastSpeed 58 = .ok (.iconst 0, 1) := by decide +kernel
theorem dX7_leastSpeed_59 : decode cX7_leastSpeed 59 = .ok (.invokestatic 33, 3) := by decide +kernel
theorem dX7_leastSpeed_62 : decode cX7_leastSpeed 62 = .ok (.iconst (-1), 1) := by decide +kernel
theorem dX7_leastSpeed_63 : decode cX7_leastSpeed 63 = .ok (.istore 5, 2) := by decide +kernel
theorem dX7_leastSpeed_65 : decode cX7_leastSpeed 65 = .ok (.aload_n 0, 1) := by decide +kernel
theorem dX7_leastSpeed_66 : decode cX7_leastSpeed 66 = .ok (.getfield 7, 3) := by decide +kernel
theorem dX7_leastSpeed_69 : decode cX7_leastSpeed 69 = .ok (.iconst 5, 1) := by decide +kernel
theorem dX7_leastSpeed_70 : decode cX7_leastSpeed 70 = .ok (.iaload, 1) := by decide +kernel
theorem dX7_leastSpeed_71 : decode cX7_leastSpeed 71 = .ok (.istore 6, 2) := by decide +kernel
theorem dX7_leastSpeed_73 : decode cX7_leastSpeed 73 = .ok (.bipush 100, 2) := by decide +kernel
theorem dX7_leastSpeed_75 : decode cX7_leastSpeed 75 = .ok (.istore 7, 2) := by decide +kernel
theorem dX7_leastSpeed_77 : decode cX7_leastSpeed 77 = .ok (.iload 7, 2) := by decide +kernel
theorem dX7_leastSpeed_79 : decode cX7_leastSpeed 79 = .ok (.sipush 5000, 3) := by decide +kernel
theorem dX7_leastSpeed_82 : decode cX7_leastSpeed 82 = .ok (.if_icmp .gt 74, 3) := by decide +kernel
theorem dX7_leastSpeed_85 : decode cX7_leastSpeed 85 = .ok (.iload 5, 2) := by decide +kernel
theorem dX7_leastSpeed_87 : decode cX7_leastSpeed 87 = .ok (.iconst (-1), 1) := by decide +kernel
theorem dX7_leastSpeed_88 : decode cX7_leastSpeed 88 = .ok (.if_icmp .ne 68, 3) := by decide +kernel
theorem dX7_leastSpeed_91 : decode cX7_leastSpeed 91 = .ok (.aload_n 0, 1) := by decide +kernel
theorem dX7_leastSpeed_92 : decode cX7_leastSpeed 92 = .ok (.getfield 7, 3) := by decide +kernel
theorem dX7_leastSpeed_95 : decode cX7_leastSpeed 95 = .ok (.sipush 169, 3) := by decide +kernel
theorem dX7_leastSpeed_98 : decode cX7_leastSpeed 98 = .ok (.bipush 20, 2) := by decide +kernel
theorem dX7_leastSpeed_100 : decode cX7_leastSpeed 100 = .ok (.iload_n 1, 1) := by decide +kernel
theorem dX7_leastSpeed_101 : decode cX7_leastSpeed 101 = .ok (.imul, 1) := by decide +kernel
theorem dX7_leastSpeed_102 : decode cX7_leastSpeed 102 = .ok (.iadd, 1) := by decide +kernel
theorem dX7_leastSpeed_103 : decode cX7_leastSpeed 103 = .ok (.iconst 0, 1) := by decide +kernel
theorem dX7_leastSpeed_104 : decode cX7_leastSpeed 104 = .ok (.iadd, 1) := by decide +kernel
theorem dX7_leastSpeed_105 : decode cX7_leastSpeed 105 = .ok (.iload 7, 2) := by decide +kernel
theorem dX7_leastSpeed_107 : decode cX7_leastSpeed 107 = .ok (.iastore, 1) := by decide +kernel
theorem dX7_leastSpeed_108 : decode cX7_leastSpeed 108 = .ok (.aload_n 0, 1) := by decide +kernel
theorem dX7_leastSpeed_109 : decode cX7_leastSpeed 109 = .ok (.iload_n 2, 1) := by decide +kernel
theorem dX7_leastSpeed_110 : decode cX7_leastSpeed 110 = .ok (.iload_n 3, 1) := by decide +kernel
theorem dX7_leastSpeed_111 : decode cX7_leastSpeed 111 = .ok (.iload 4, 2) := by decide +kernel
theorem dX7_leastSpeed_113 : decode cX7_leastSpeed 113 = .ok (.invokevirtual 103, 3) := by decide +kernel
theorem dX7_leastSpeed_116 : decode cX7_leastSpeed 116 = .ok (.istore 8, 2) := by decide +kernel
theorem dX7_leastSpeed_118 : decode cX7_leastSpeed 118 = .ok (.aload_n 0, 1) := by decide +kernel
theorem dX7_leastSpeed_119 : decode cX7_leastSpeed 119 = .ok (.getfield 7, 3) := by decide +kernel
theorem dX7_leastSpeed_122 : decode cX7_leastSpeed 122 = .ok (.iconst 5, 1) := by decide +kernel
theorem dX7_leastSpeed_123 : decode cX7_leastSpeed 123 = .ok (.iaload, 1) := by decide +kernel
theorem dX7_leastSpeed_124 : decode cX7_leastSpeed 124 = .ok (.iload 6, 2) := by decide +kernel
theorem dX7_leastSpeed_126 : decode cX7_leastSpeed 126 = .ok (.if_icmp .ne 8, 3) := by decide +kernel
theorem dX7_leastSpeed_129 : decode cX7_leastSpeed 129 = .ok (.iload 7, 2) := by decide +kernel
theorem dX7_leastSpeed_131 : decode cX7_leastSpeed 131 = .ok (.goto 4, 3) := by decide +kernel
theorem dX7_leastSpeed_134 : decode cX7_leastSpeed 134 = .ok (.iconst (-1), 1) := by decide +kernel
theorem dX7_leastSpeed_135 : decode cX7_leastSpeed 135 = .ok (.istore 5, 2) := by decide +kernel
theorem dX7_leastSpeed_137 : decode cX7_leastSpeed 137 = .ok (.aload_n 0, 1) := by decide +kernel
theorem dX7_leastSpeed_138 : decode cX7_leastSpeed 138 = .ok (.getfield 13, 3) := by decide +kernel
theorem dX7_leastSpeed_141 : decode cX7_leastSpeed 141 = .ok (.iconst 0, 1) := by decide +kernel
theorem dX7_leastSpeed_142 : decode cX7_leastSpeed 142 = .ok (.aload_n 0, 1) := by decide +kernel
theorem dX7_leastSpeed_143 : decode cX7_leastSpeed 143 = .ok (.getfield 7, 3) := by decide +kernel
theorem dX7_leastSpeed_146 : decode cX7_leastSpeed 146 = .ok (.iconst 0, 1) := by decide +kernel
theorem dX7_leastSpeed_147 : decode cX7_leastSpeed 147 = .ok (.invokestatic 33, 3) := by decide +kernel
theorem dX7_leastSpeed_150 : decode cX7_leastSpeed 150 = .ok (.iinc 7 100, 3) := by decide +kernel
theorem dX7_leastSpeed_153 : decode cX7_leastSpeed 153 = .ok (.goto (-76), 3) := by decide +kernel
theorem dX7_leastSpeed_156 : decode cX7_leastSpeed 156 = .ok (.iload 5, 2) := by decide +kernel
theorem dX7_leastSpeed_158 : decode cX7_leastSpeed 158 = .ok (.ireturn, 1) := by decide +kernel
theorem dX7_emptyIn_0 : decode cX7_emptyIn 0 = .ok (.aload_n 0, 1) := by decide +kernel
theorem dX7_emptyIn_1 : decode cX7_emptyIn 1 = .ok (.iload_n 1, 1) := by decide +kernel
theorem dX7_emptyIn_2 : decode cX7_emptyIn 2 = .ok (.iload_n 2, 1) := by decide +kernel
theorem dX7_emptyIn_3 : decode cX7_emptyIn 3 = .ok (.invokestatic 100, 3) := by decide +kernel
theorem dX7_emptyIn_6 : decode cX7_emptyIn 6 = .ok (.ifCond .eq 7, 3) := by decide +kernel
theorem dX7_emptyIn_9 : decode cX7_emptyIn 9 = .ok (.iconst 0, 1) := by decide +kernel
theorem dX7_emptyIn_10 : decode cX7_emptyIn 10 = .ok (.goto 4, 3) := by decide +kernel
theorem dX7_emptyIn_13 : decode cX7_emptyIn 13 = .ok (.iconst 1, 1) := by decide +kernel
theorem dX7_emptyIn_14 : decode cX7_emptyIn 14 = .ok (.putfield 26, 3) := by decide +kernel
theorem dX7_emptyIn_17 : decode cX7_emptyIn 17 = .ok (.aload_n 0, 1) := by decide +kernel
theorem dX7_emptyIn_18 : decode cX7_emptyIn 18 = .ok (.getfield 26, 3) := by decide +kernel
theorem dX7_emptyIn_21 : decode cX7_emptyIn 21 = .ok (.ifCond .eq 5, 3) := by decide +kernel
theorem dX7_emptyIn_24 : decode cX7_emptyIn 24 = .ok (.iconst 0, 1) := by decide +kernel
theorem dX7_emptyIn_25 : decode cX7_emptyIn 25 = .ok (.ireturn, 1) := by decide +kernel
theorem dX7_emptyIn_26 : decode cX7_emptyIn 26 = .ok (.aload_n 0, 1) := by decide +kernel
theorem dX7_emptyIn_27 : decode cX7_emptyIn 27 = .ok (.getfield 7, 3) := by decide +kernel
theorem dX7_emptyIn_30 : decode cX7_emptyIn 30 = .ok (.iconst 0, 1) := by decide +kernel
theorem dX7_emptyIn_31 : decode cX7_emptyIn 31 = .ok (.aload_n 0, 1) := by decide +kernel
theorem dX7_emptyIn_32 : decode cX7_emptyIn 32 = .ok (.getfield 13, 3) := by decide +kernel
theorem dX7_emptyIn_35 : decode cX7_emptyIn 35 = .ok (.iconst 0, 1) := by decide +kernel
theorem dX7_emptyIn_36 : decode cX7_emptyIn 36 = .ok (.invokestatic 33, 3) := by decide +kernel
theorem dX7_emptyIn_39 : decode cX7_emptyIn 39 = .ok (.iconst 0, 1) := by decide +kernel
theorem dX7_emptyIn_40 : decode cX7_emptyIn 40 = .ok (.istore_n 3, 1) := by decide +kernel
theorem dX7_emptyIn_41 : decode cX7_emptyIn 41 = .ok (.aload_n 0, 1) := by decide +kernel
theorem dX7_emptyIn_42 : decode cX7_emptyIn 42 = .ok (.getfield 7, 3) := by decide +kernel
theorem dX7_emptyIn_45 : decode cX7_emptyIn 45 = .ok (.iconst 3, 1) := by decide +kernel
theorem dX7_emptyIn_46 : decode cX7_emptyIn 46 = .ok (.iaload, 1) := by decide +kernel
theorem dX7_emptyIn_47 : decode cX7_emptyIn 47 = .ok (.ifCond .le 24, 3) := by decide +kernel
theorem dX7_emptyIn_50 : decode cX7_emptyIn 50 = .ok (.iload_n 3, 1) := by decide +kernel
theorem dX7_emptyIn_51 : decode cX7_emptyIn 51 = .ok (.sipush 200, 3) := by decide +kernel
theorem dX7_emptyIn_54 : decode cX7_emptyIn 54 = .ok (.if_icmp .ge 17, 3) := by decide +kernel
theorem dX7_emptyIn_57 : decode cX7_emptyIn 57 = .ok (.aload_n 0, 1) := by decide +kernel
theorem dX7_emptyIn_58 : decode cX7_emptyIn 58 = .ok (.iload_n 1, 1) := by decide +kernel
theorem dX7_emptyIn_59 : decode cX7_emptyIn 59 = .ok (.iload_n 2, 1) := by decide +kernel
theorem dX7_emptyIn_60 : decode cX7_emptyIn 60 = .ok (.invokevirtual 97, 3) := by decide +kernel
theorem dX7_emptyIn_63 : decode cX7_emptyIn 63 = .ok (.istore 4, 2) := by decide +kernel
theorem dX7_emptyIn_65 : decode cX7_emptyIn 65 = .ok (.iinc 3 1, 3) := by decide +kernel
theorem dX7_emptyIn_68 : decode cX7_emptyIn 68 = .ok (.goto (-27), 3) := by decide +kernel
theorem dX7_emptyIn_71 : decode cX7_emptyIn 71 = .ok (.aload_n 0, 1) := by decide +kernel
theorem dX7_emptyIn_72 : decode cX7_emptyIn 72 = .ok (.getfield 7, 3) := by decide +kernel
theorem dX7_emptyIn_75 : decode cX7_emptyIn 75 = .ok (.iconst 3, 1) := by decide +kernel
theorem dX7_emptyIn_76 : decode cX7_emptyIn 76 = .ok (.iaload, 1) := by decide +kernel
theorem dX7_emptyIn_77 : decode cX7_emptyIn 77 = .ok (.ifCond .ne 7, 3) := by decide +kernel
theorem dX7_emptyIn_80 : decode cX7_emptyIn 80 = .ok (.iconst 1, 1) := by decide +kernel
theorem dX7_emptyIn_81 : decode cX7_emptyIn 81 = .ok (.goto 4, 3) := by decide +kernel
theorem dX7_emptyIn_84 : decode cX7_emptyIn 84 = .ok (.iconst 0, 1) := by decide +kernel
theorem dX7_emptyIn_85 : decode cX7_emptyIn 85 = .ok (.istore 4, 2) := by decide +kernel
theorem dX7_emptyIn_87 : decode cX7_emptyIn 87 = .ok (.aload_n 0, 1) := by decide +kernel
theorem dX7_emptyIn_88 : decode cX7_emptyIn 88 = .ok (.getfield 13, 3) := by decide +kernel
theorem dX7_emptyIn_91 : decode cX7_emptyIn 91 = .ok (.iconst 0, 1) := by decide +kernel
theorem dX7_emptyIn_92 : decode cX7_emptyIn 92 = .ok (.aload_n 0, 1) := by decide +kernel
theorem dX7_emptyIn_93 : decode cX7_emptyIn 93 = .ok (.getfield 7, 3) := by decide +kernel
theorem dX7_emptyIn_96 : decode cX7_emptyIn 96 = .ok (.iconst 0, 1) := by decide +kernel
theorem dX7_emptyIn_97 : decode cX7_emptyIn 97 = .ok (.invokestatic 33, 3) := by decide +kernel
theorem dX7_emptyIn_100 : decode cX7_emptyIn 100 = .ok (.iload 4, 2) := by decide +kernel
theorem dX7_emptyIn_102 : decode cX7_emptyIn 102 = .ok (.ifCond .eq 7, 3) := by decide +kernel
theorem dX7_emptyIn_105 : decode cX7_emptyIn 105 = .ok (.iload_n 3, 1) := by decide +kernel
theorem dX7_emptyIn_106 : decode cX7_emptyIn 106 = .ok (.goto 4, 3) := by decide +kernel
theorem dX7_emptyIn_109 : decode cX7_emptyIn 109 = .ok (.iconst (-1), 1) := by decide +kernel
theorem dX7_emptyIn_110 : decode cX7_emptyIn 110 = .ok (.ireturn, 1) := by decide +kernel
theorem dX7_append_0 : decode cX7_append 0 = .ok (.aload_n 0, 1) := by decide +kernel
theorem dX7_append_1 : decode cX7_append 1 = .ok (.iload_n 1, 1) := by decide +kernel
theorem dX7_append_2 : decode cX7_append 2 = .ok (.iconst 0, 1) := by decide +kernel
theorem dX7_append_3 : decode cX7_append 3 = .ok (.bipush 127, 2) := by decide +kernel
theorem dX7_append_5 : decode cX7_append 5 = .ok (.invokestatic 37, 3) := by decide +kernel
theorem dX7_append_8 : decode cX7_append 8 = .ok (.ifCond .ne 7, 3) := by decide +kernel
theorem dX7_append_11 : decode cX7_append 11 = .ok (.iconst 1, 1) := by decide +kernel
theorem dX7_append_12 : decode cX7_append 12 = .ok (.goto 18, 3) := by decide +kernel
theorem dX7_append_15 : decode cX7_append 15 = .ok (.aload_n 0, 1) := by decide +kernel
theorem dX7_append_16 : decode cX7_append 16 = .ok (.getfield 124, 3) := by decide +kernel
theorem dX7_append_19 : decode cX7_append 19 = .ok (.sipush 150, 3) := by decide +kernel
theorem dX7_append_22 : decode cX7_append 22 = .ok (.if_icmp .ne 7, 3) := by decide +kernel
theorem dX7_append_25 : decode cX7_append 25 = .ok (.iconst 2, 1) := by decide +kernel
theorem dX7_append_26 : decode cX7_append 26 = .ok (.goto 4, 3) := by decide +kernel
theorem dX7_append_29 : decode cX7_append 29 = .ok (.iconst 0, 1) := by decide +kernel
theorem dX7_append_30 : decode cX7_append 30 = .ok (.putfield 26, 3) := by decide +kernel
theorem dX7_append_33 : decode cX7_append 33 = .ok (.aload_n 0, 1) := by decide +kernel
theorem dX7_append_34 : decode cX7_append 34 = .ok (.getfield 26, 3) := by decide +kernel
theorem dX7_append_37 : decode cX7_append 37 = .ok (.ifCond .eq 5, 3) := by decide +kernel
theorem dX7_append_40 : decode cX7_append 40 = .ok (.iconst 0, 1) := by decide +kernel
theorem dX7_append_41 : decode cX7_append 41 = .ok (.ireturn, 1) := by decide +kernel
theorem dX7_append_42 : decode cX7_append 42 = .ok (.aload_n 0, 1) := by decide +kernel
theorem dX7_append_43 : decode cX7_append 43 = .ok (.getfield 19, 3) := by decide +kernel
theorem dX7_append_46 : decode cX7_append 46 = .ok (.aload_n 0, 1) := by decide +kernel
theorem dX7_append_47 : decode cX7_append 47 = .ok (.getfield 124, 3) := by decide +kernel
theorem dX7_append_50 : decode cX7_append 50 = .ok (.iload_n 1, 1) := by decide +kernel
theorem dX7_append_51 : decode cX7_append 51 = .ok (.iastore, 1) := by decide +kernel
theorem dX7_append_52 : decode cX7_append 52 = .ok (.aload_n 0, 1) := by decide +kernel
theorem dX7_append_53 : decode cX7_append 53 = .ok (.dup, 1) := by decide +kernel
theorem dX7_append_54 : decode cX7_append 54 = .ok (.getfield 124, 3) := by decide +kernel
theorem dX7_append_57 : decode cX7_append 57 = .ok (.iconst 1, 1) := by decide +kernel
theorem dX7_append_58 : decode cX7_append 58 = .ok (.iadd, 1) := by decide +kernel
theorem dX7_append_59 : decode cX7_append 59 = .ok (.putfield 124, 3) := by decide +kernel
theorem dX7_append_62 : decode cX7_append 62 = .ok (.aload_n 0, 1) := by decide +kernel
theorem dX7_append_63 : decode cX7_append 63 = .ok (.getfield 124, 3) := by decide +kernel
theorem dX7_append_66 : decode cX7_append 66 = .ok (.ireturn, 1) := by decide +kernel
theorem dX7_clearText_0 : decode cX7_clearText 0 = .ok (.aload_n 0, 1) := by decide +kernel
theorem dX7_clearText_1 : decode cX7_clearText 1 = .ok (.iconst 0, 1) := by decide +kernel
theorem dX7_clearText_2 : decode cX7_clearText 2 = .ok (.putfield 26, 3) := by decide +kernel
theorem dX7_clearText_5 : decode cX7_clearText 5 = .ok (.aload_n 0, 1) := by decide +kernel
theorem dX7_clearText_6 : decode cX7_clearText 6 = .ok (.getfield 124, 3) := by decide +kernel
theorem dX7_clearText_9 : decode cX7_clearText 9 = .ok (.istore_n 1, 1) := by decide +kernel
theorem dX7_clearText_10 : decode cX7_clearText 10 = .ok (.aload_n 0, 1) := by decide +kernel
theorem dX7_clearText_11 : decode cX7_clearText 11 = .ok (.iconst 0, 1) := by decide +kernel
theorem dX7_clearText_12 : decode cX7_clearText 12 = .ok (.putfield 124, 3) := by decide +kernel
theorem dX7_clearText_15 : decode cX7_clearText 15 = .ok (.iload_n 1, 1) := by decide +kernel
theorem dX7_clearText_16 : decode cX7_clearText 16 = .ok (.ireturn, 1) := by decide +kernel
theorem dX7_here_0 : decode cX7_here 0 = .ok (.aload_n 0, 1) := by decide +kernel
theorem dX7_here_1 : decode cX7_here 1 = .ok (.getfield 127, 3) := by decide +kernel
theorem dX7_here_4 : decode cX7_here 4 = .ok (.aload_n 0, 1) := by decide +kernel
theorem dX7_here_5 : decode cX7_here 5 = .ok (.getfield 124, 3) := by decide +kernel
theorem dX7_here_8 : decode cX7_here 8 = .ok (.if_icmp .ge 15, 3) := by decide +kernel
theorem dX7_here_11 : decode cX7_here 11 = .ok (.aload_n 0, 1) := by decide +kernel
theorem dX7_here_12 : decode cX7_here 12 = .ok (.getfield 19, 3) := by decide +kernel
theorem dX7_here_15 : decode cX7_here 15 = .ok (.aload_n 0, 1) := by decide +kernel
theorem dX7_here_16 : decode cX7_here 16 = .ok (.getfield 127, 3) := by decide +kernel
theorem dX7_here_19 : decode cX7_here 19 = .ok (.iaload, 1) := by decide +kernel
theorem dX7_here_20 : decode cX7_here 20 = .ok (.goto 4, 3) := by decide +kernel
theorem dX7_here_23 : decode cX7_here 23 = .ok (.iconst (-1), 1) := by decide +kernel
theorem dX7_here_24 : decode cX7_here 24 = .ok (.ireturn, 1) := by decide +kernel
theorem dX7_isDigit_0 : decode cX7_isDigit 0 = .ok (.aload_n 0, 1) := by decide +kernel
theorem dX7_isDigit_1 : decode cX7_isDigit 1 = .ok (.invokevirtual 130, 3) := by decide +kernel
theorem dX7_isDigit_4 : decode cX7_isDigit 4 = .ok (.bipush 48, 2) := by decide +kernel
theorem dX7_isDigit_6 : decode cX7_isDigit 6 = .ok (.bipush 57, 2) := by decide +kernel
theorem dX7_isDigit_8 : decode cX7_isDigit 8 = .ok (.invokestatic 37, 3) := by decide +kernel
theorem dX7_isDigit_11 : decode cX7_isDigit 11 = .ok (.ireturn, 1) := by decide +kernel
theorem dX7_takes_0 : decode cX7_takes 0 = .ok (.aload_n 0, 1) := by decide +kernel
theorem dX7_takes_1 : decode cX7_takes 1 = .ok (.invokevirtual 130, 3) := by decide +kernel
theorem dX7_takes_4 : decode cX7_takes 4 = .ok (.iload_n 1, 1) := by decide +kernel
theorem dX7_takes_5 : decode cX7_takes 5 = .ok (.if_icmp .ne 7, 3) := by decide +kernel
theorem dX7_takes_8 : decode cX7_takes 8 = .ok (.iconst 1, 1) := by decide +kernel
theorem dX7_takes_9 : decode cX7_takes 9 = .ok (.goto 4, 3) := by decide +kernel
theorem dX7_takes_12 : decode cX7_takes 12 = .ok (.iconst 0, 1) := by decide +kernel
theorem dX7_takes_13 : decode cX7_takes 13 = .ok (.istore_n 2, 1) := by decide +kernel
theorem dX7_takes_14 : decode cX7_takes 14 = .ok (.aload_n 0, 1) := by decide +kernel
theorem dX7_takes_15 : decode cX7_takes 15 = .ok (.dup, 1) := by decide +kernel
theorem dX7_takes_16 : decode cX7_takes 16 = .ok (.getfield 127, 3) := by decide +kernel
theorem dX7_takes_19 : decode cX7_takes 19 = .ok (.iload_n 2, 1) := by decide +kernel
theorem dX7_takes_20 : decode cX7_takes 20 = .ok (.ifCond .eq 7, 3) := by decide +kernel
theorem dX7_takes_23 : decode cX7_takes 23 = .ok (.iconst 1, 1) := by decide +kernel
theorem dX7_takes_24 : decode cX7_takes 24 = .ok (.goto 4, 3) := by decide +kernel
theorem dX7_takes_27 : decode cX7_takes 27 = .ok (.iconst 0, 1) := by decide +kernel
theorem dX7_takes_28 : decode cX7_takes 28 = .ok (.iadd, 1) := by decide +kernel
theorem dX7_takes_29 : decode cX7_takes 29 = .ok (.putfield 127, 3) := by decide +kernel
theorem dX7_takes_32 : decode cX7_takes 32 = .ok (.iload_n 2, 1) := by decide +kernel
theorem dX7_takes_33 : decode cX7_takes 33 = .ok (.ireturn, 1) := by decide +kernel
theorem dX7_readNumber_0 : decode cX7_readNumber 0 = .ok (.aload_n 0, 1) := by decide +kernel
theorem dX7_readNumber_1 : decode cX7_readNumber 1 = .ok (.getfield 127, 3) := by decide +kernel
theorem dX7_readNumber_4 : decode cX7_readNumber 4 = .ok (.istore 4, 2) := by decide +kernel
theorem dX7_readNumber_6 : decode cX7_readNumber 6 = .ok (.aload_n 0, 1) := by decide +kernel
theorem dX7_readNumber_7 : decode cX7_readNumber 7 = .ok (.iconst 0, 1) := by decide +kernel
theorem dX7_readNumber_8 : decode cX7_readNumber 8 = .ok (.putfield 133, 3) := by decide +kernel
theorem dX7_readNumber_11 : decode cX7_readNumber 11 = .ok (.aload_n 0, 1) := by decide +kernel
theorem dX7_readNumber_12 : decode cX7_readNumber 12 = .ok (.getfield 127, 3) := by decide +kernel
theorem dX7_readNumber_15 : decode cX7_readNumber 15 = .ok (.iload 4, 2) := by decide +kernel
theorem dX7_readNumber_17 : decode cX7_readNumber 17 = .ok (.iload_n 1, 1) := by decide +kernel
theorem dX7_readNumber_18 : decode cX7_readNumber 18 = .ok (.iadd, 1) := by decide +kernel
theorem dX7_readNumber_19 : decode cX7_readNumber 19 = .ok (.if_icmp .ge 42, 3) := by decide +kernel
theorem dX7_readNumber_22 : decode cX7_readNumber 22 = .ok (.aload_n 0, 1) := by decide +kernel
theorem dX7_readNumber_23 : decode cX7_readNumber 23 = .ok (.invokevirtual 136, 3) := by decide +kernel
theorem dX7_readNumber_26 : decode cX7_readNumber 26 = .ok (.ifCond .eq 35, 3) := by decide +kernel
theorem dX7_readNumber_29 : decode cX7_readNumber 29 = .ok (.aload_n 0, 1) := by decide +kernel
theorem dX7_readNumber_30 : decode cX7_readNumber 30 = .ok (.bipush 10, 2) := by decide +kernel
theorem dX7_readNumber_32 : decode cX7_readNumber 32 = .ok (.aload_n 0, 1) := by decide +kernel
theorem dX7_readNumber_33 : decode cX7_readNumber 33 = .ok (.getfield 133, 3) := by decide +kernel
theorem dX7_readNumber_36 : decode cX7_readNumber 36 = .ok (.imul, 1) := by decide +kernel
theorem dX7_readNumber_37 : decode cX7_readNumber 37 = .ok (.aload_n 0, 1) := by decide +kernel
theorem dX7_readNumber_38 : decode cX7_readNumber 38 = .ok (.invokevirtual 130, 3) := by decide +kernel
theorem dX7_readNumber_41 : decode cX7_readNumber 41 = .ok (.iadd, 1) := by decide +kernel
theorem dX7_readNumber_42 : decode cX7_readNumber 42 = .ok (.bipush 48, 2) := by decide +kernel
theorem dX7_readNumber_44 : decode cX7_readNumber 44 = .ok (.isub, 1) := by decide +kernel
theorem dX7_readNumber_45 : decode cX7_readNumber 45 = .ok (.putfield 133, 3) := by decide +kernel
theorem dX7_readNumber_48 : decode cX7_readNumber 48 = .ok (.aload_n 0, 1) := by decide +kernel
theorem dX7_readNumber_49 : decode cX7_readNumber 49 = .ok (.dup, 1) := by decide +kernel
theorem dX7_readNumber_50 : decode cX7_readNumber 50 = .ok (.getfield 127, 3) := by decide +kernel
theorem dX7_readNumber_53 : decode cX7_readNumber 53 = .ok (.iconst 1, 1) := by decide +kernel
theorem dX7_readNumber_54 : decode cX7_readNumber 54 = .ok (.iadd, 1) := by decide +kernel
theorem dX7_readNumber_55 : decode cX7_readNumber 55 = .ok (.putfield 127, 3) := by decide +kernel
theorem dX7_readNumber_58 : decode cX7_readNumber 58 = .ok (.goto (-47), 3) := by decide +kernel
theorem dX7_readNumber_61 : decode cX7_readNumber 61 = .ok (.aload_n 0, 1) := by decide +kernel
theorem dX7_readNumber_62 : decode cX7_readNumber 62 = .ok (.getfield 127, 3) := by decide +kernel
theorem dX7_readNumber_65 : decode cX7_readNumber 65 = .ok (.iload 4, 2) := by decide +kernel
theorem dX7_readNumber_67 : decode cX7_readNumber 67 = .ok (.if_icmp .eq 10, 3) := by decide +kernel
theorem dX7_readNumber_70 : decode cX7_readNumber 70 = .ok (.aload_n 0, 1) := by decide +kernel
theorem dX7_readNumber_71 : decode cX7_readNumber 71 = .ok (.invokevirtual 136, 3) := by decide +kernel
theorem dX7_readNumber_74 : decode cX7_readNumber 74 = .ok (.ifCond .eq 5, 3) := by decide +kernel
theorem dX7_readNumber_77 : decode cX7_readNumber 77 = .ok (.iconst 0, 1) := by decide +kernel
theorem dX7_readNumber_78 : decode cX7_readNumber 78 = .ok (.ireturn, 1) := by decide +kernel
theorem dX7_readNumber_79 : decode cX7_readNumber 79 = .ok (.aload_n 0, 1) := by decide +kernel
theorem dX7_readNumber_80 : decode cX7_readNumber 80 = .ok (.getfield 133, 3) := by decide +kernel
theorem dX7_readNumber_83 : decode cX7_readNumber 83 = .ok (.iload_n 2, 1) := by decide +kernel
theorem dX7_readNumber_84 : decode cX7_readNumber 84 = .ok (.iload_n 3, 1) := by decide +kernel
theorem dX7_readNumber_85 : decode cX7_readNumber 85 = .ok (.invokestatic 37, 3) := by decide +kernel
theorem dX7_readNumber_88 : decode cX7_readNumber 88 = .ok (.ifCond .ne 11, 3) := by decide +kernel
theorem dX7_readNumber_91 : decode cX7_readNumber 91 = .ok (.aload_n 0, 1) := by decide +kernel
theorem dX7_readNumber_92 : decode cX7_readNumber 92 = .ok (.iload 4, 2) := by decide +kernel
theorem dX7_readNumber_94 : decode cX7_readNumber 94 = .ok (.putfield 127, 3) := by decide +kernel
theorem dX7_readNumber_97 : decode cX7_readNumber 97 = .ok (.iconst 0, 1) := by decide +kernel
theorem dX7_readNumber_98 : decode cX7_readNumber 98 = .ok (.ireturn, 1) := by decide +kernel
theorem dX7_readNumber_99 : decode cX7_readNumber 99 = .ok (.iconst 1, 1) := by decide +kernel
theorem dX7_readNumber_100 : decode cX7_readNumber 100 = .ok (.ireturn, 1) := by decide +kernel
theorem dX7_readItem_0 : decode cX7_readItem 0 = .ok (.aload_n 0, 1) := by decide +kernel
theorem dX7_readItem_1 : decode cX7_readItem 1 = .ok (.bipush 45, 2) := by decide +kernel
theorem dX7_readItem_3 : decode cX7_readItem 3 = .ok (.invokevirtual 140, 3) := by decide +kernel
theorem dX7_readItem_6 : decode cX7_readItem 6 = .ok (.istore_n 1, 1) := by decide +kernel
theorem dX7_readItem_7 : decode cX7_readItem 7 = .ok (.aload_n 0, 1) := by decide +kernel
theorem dX7_readItem_8 : decode cX7_readItem 8 = .ok (.iconst 3, 1) := by decide +kernel
theorem dX7_readItem_9 : decode cX7_readItem 9 = .ok (.iconst 0, 1) := by decide +kernel
theorem dX7_readItem_10 : decode cX7_readItem 10 = .ok (.sipush 300, 3) := by decide +kernel
theorem dX7_readItem_13 : decode cX7_readItem 13 = .ok (.invokevirtual 143, 3) := by decide +kernel
theorem dX7_readItem_16 : decode cX7_readItem 16 = .ok (.ifCond .ne 5, 3) := by decide +kernel
theorem dX7_readItem_19 : decode cX7_readItem 19 = .ok (.iconst 0, 1) := by decide +kernel
theorem dX7_readItem_20 : decode cX7_readItem 20 = .ok (.ireturn, 1) := by decide +kernel
theorem dX7_readItem_21 : decode cX7_readItem 21 = .ok (.aload_n 0, 1) := by decide +kernel
theorem dX7_readItem_22 : decode cX7_readItem 22 = .ok (.iload_n 1, 1) := by decide +kernel
theorem dX7_readItem_23 : decode cX7_readItem 23 = .ok (.ifCond .eq 11, 3) := by decide +kernel
theorem dX7_readItem_26 : decode cX7_readItem 26 = .ok (.aload_n 0, 1) := by decide +kernel
theorem dX7_readItem_27 : decode cX7_readItem 27 = .ok (.getfield 133, 3) := by decide +kernel
theorem dX7_readItem_30 : decode cX7_readItem 30 = .ok (.ineg, 1) := by decide +kernel
theorem dX7_readItem_31 : decode cX7_readItem 31 = .ok (.goto 7, 3) := by decide +kernel
theorem dX7_readItem_34 : decode cX7_readItem 34 = .ok (.aload_n 0, 1) := by decide +kernel
theorem dX7_readItem_35 : decode cX7_readItem 35 = .ok (.getfield 133, 3) := by decide +kernel
theorem dX7_readItem_38 : decode cX7_readItem 38 = .ok (.putfield 146, 3) := by decide +kernel
theorem dX7_readItem_41 : decode cX7_readItem 41 = .ok (.aload_n 0, 1) := by decide +kernel
theorem dX7_readItem_42 : decode cX7_readItem 42 = .ok (.bipush 44, 2) := by decide +kernel
theorem dX7_readItem_44 : decode cX7_readItem 44 = .ok (.invokevirtual 140, 3) := by decide +kernel
theorem dX7_readItem_47 : decode cX7_readItem 47 = .ok (.ifCond .eq 14, 3) := by decide +kernel
theorem dX7_readItem_50 : decode cX7_readItem 50 = .ok (.aload_n 0, 1) := by decide +kernel
theorem dX7_readItem_51 : decode cX7_readItem 51 = .ok (.iconst 3, 1) := by decide +kernel
theorem dX7_readItem_52 : decode cX7_readItem 52 = .ok (.iconst 0, 1) := by decide +kernel
theorem dX7_readItem_53 : decode cX7_readItem 53 = .ok (.bipush 100, 2) := by decide +kernel
theorem dX7_readItem_55 : decode cX7_readItem 55 = .ok (.invokevirtual 143, 3) := by decide +kernel
theorem dX7_readItem_58 : decode cX7_readItem 58 = .ok (.ifCond .ne 5, 3) := by decide +kernel
theorem dX7_readItem_61 : decode cX7_readItem 61 = .ok (.iconst 0, 1) := by decide +kernel
theorem dX7_readItem_62 : decode cX7_readItem 62 = .ok (.ireturn, 1) := by decide +kernel
theorem dX7_readItem_63 : decode cX7_readItem 63 = .ok (.aload_n 0, 1) := by decide +kernel
theorem dX7_readItem_64 : decode cX7_readItem 64 = .ok (.aload_n 0, 1) := by decide +kernel
theorem dX7_readItem_65 : decode cX7_readItem 65 = .ok (.getfield 133, 3) := by decide +kernel
theorem dX7_readItem_68 : decode cX7_readItem 68 = .ok (.putfield 149, 3) := by decide +kernel
theorem dX7_readItem_71 : decode cX7_readItem 71 = .ok (.aload_n 0, 1) := by decide +kernel
theorem dX7_readItem_72 : decode cX7_readItem 72 = .ok (.iconst 1, 1) := by decide +kernel
theorem dX7_readItem_73 : decode cX7_readItem 73 = .ok (.putfield 152, 3) := by decide +kernel
theorem dX7_readItem_76 : decode cX7_readItem 76 = .ok (.aload_n 0, 1) := by decide +kernel
theorem dX7_readItem_77 : decode cX7_readItem 77 = .ok (.bipush 120, 2) := by decide +kernel
theorem dX7_readItem_79 : decode cX7_readItem 79 = .ok (.invokevirtual 140, 3) := by decide +kernel
theorem dX7_readItem_82 : decode cX7_readItem 82 = .ok (.ifCond .eq 24, 3) := by decide +kernel
theorem dX7_readItem_85 : decode cX7_readItem 85 = .ok (.aload_n 0, 1) := by decide +kernel
theorem dX7_readItem_86 : decode cX7_readItem 86 = .ok (.iconst 2, 1) := by decide +kernel
theorem dX7_readItem_87 : decode cX7_readItem 87 = .ok (.iconst 1, 1) := by decide +kernel
theorem dX7_readItem_88 : decode cX7_readItem 88 = .ok (.bipush 99, 2) := by decide +kernel
theorem dX7_readItem_90 : decode cX7_readItem 90 = .ok (.invokevirtual 143, 3) := by decide +kernel
theorem dX7_readItem_93 : decode cX7_readItem 93 = .ok (.ifCond .ne 5, 3) := by decide +kernel
theorem dX7_readItem_96 : decode cX7_readItem 96 = .ok (.iconst 0, 1) := by decide +kernel
theorem dX7_readItem_97 : decode cX7_readItem 97 = .ok (.ireturn, 1) := by decide +kernel
theorem dX7_readItem_98 : decode cX7_readItem 98 = .ok (.aload_n 0, 1) := by decide +kernel
theorem dX7_readItem_99 : decode cX7_readItem 99 = .ok (.aload_n 0, 1) := by decide +kernel
theorem dX7_readItem_100 : decode cX7_readItem 100 = .ok (.getfield 133, 3) := by decide +kernel
theorem dX7_readItem_103 : decode cX7_readItem 103 = .ok (.putfield 152, 3) := by decide +kernel
theorem dX7_readItem_106 : decode cX7_readItem 106 = .ok (.aload_n 0, 1) := by decide +kernel
theorem dX7_readItem_107 : decode cX7_readItem 107 = .ok (.bipush 59, 2) := by decide +kernel
theorem dX7_readItem_109 : decode cX7_readItem 109 = .ok (.invokevirtual 140, 3) := by decide +kernel
theorem dX7_readItem_112 : decode cX7_readItem 112 = .ok (.ireturn, 1) := by decide +kernel
theorem dX7_allHours_0 : decode cX7_allHours 0 = .ok (.iconst 0, 1) := by decide +kernel
theorem dX7_allHours_1 : decode cX7_allHours 1 = .ok (.istore_n 1, 1) := by decide +kernel
theorem dX7_allHours_2 : decode cX7_allHours 2 = .ok (.aload_n 0, 1) := by decide +kernel
theorem dX7_allHours_3 : decode cX7_allHours 3 = .ok (.iconst 0, 1) := by decide +kernel
theorem dX7_allHours_4 : decode cX7_allHours 4 = .ok (.putfield 127, 3) := by decide +kernel
theorem dX7_allHours_7 : decode cX7_allHours 7 = .ok (.aload_n 0, 1) := by decide +kernel
theorem dX7_allHours_8 : decode cX7_allHours 8 = .ok (.getfield 127, 3) := by decide +kernel
theorem dX7_allHours_11 : decode cX7_allHours 11 = .ok (.aload_n 0, 1) := by decide +kernel
theorem dX7_allHours_12 : decode cX7_allHours 12 = .ok (.getfield 124, 3) := by decide +kernel
theorem dX7_allHours_15 : decode cX7_allHours 15 = .ok (.if_icmp .ge 22, 3) := by decide +kernel
theorem dX7_allHours_18 : decode cX7_allHours 18 = .ok (.aload_n 0, 1) := by decide +kernel
theorem dX7_allHours_19 : decode cX7_allHours 19 = .ok (.invokevirtual 155, 3) := by decide +kernel
theorem dX7_allHours_22 : decode cX7_allHours 22 = .ok (.ifCond .ne 5, 3) := by decide +kernel
theorem dX7_allHours_25 : decode cX7_allHours 25 = .ok (.iconst (-1), 1) := by decide +kernel
theorem dX7_allHours_26 : decode cX7_allHours 26 = .ok (.ireturn, 1) := by decide +kernel
theorem dX7_allHours_27 : decode cX7_allHours 27 = .ok (.iload_n 1, 1) := by decide +kernel
theorem dX7_allHours_28 : decode cX7_allHours 28 = .ok (.aload_n 0, 1) := by decide +kernel
theorem dX7_allHours_29 : decode cX7_allHours 29 = .ok (.getfield 152, 3) := by decide +kernel
theorem dX7_allHours_32 : decode cX7_allHours 32 = .ok (.iadd, 1) := by decide +kernel
theorem dX7_allHours_33 : decode cX7_allHours 33 = .ok (.istore_n 1, 1) := by decide +kernel
theorem dX7_allHours_34 : decode cX7_allHours 34 = .ok (.goto (-27), 3) := by decide +kernel
theorem dX7_allHours_37 : decode cX7_allHours 37 = .ok (.iload_n 1, 1) := by decide +kernel
theorem dX7_allHours_38 : decode cX7_allHours 38 = .ok (.ireturn, 1) := by decide +kernel
theorem dX7_runText_0 : decode cX7_runText 0 = .ok (.aload_n 0, 1) := by decide +kernel
theorem dX7_runText_1 : decode cX7_runText 1 = .ok (.invokevirtual 158, 3) := by decide +kernel
theorem dX7_runText_4 : decode cX7_runText 4 = .ok (.istore_n 1, 1) := by decide +kernel
theorem dX7_runText_5 : decode cX7_runText 5 = .ok (.aload_n 0, 1) := by decide +kernel
theorem dX7_runText_6 : decode cX7_runText 6 = .ok (.iload_n 1, 1) := by decide +kernel
theorem dX7_runText_7 : decode cX7_runText 7 = .ok (.iconst (-1), 1) := by decide +kernel
theorem dX7_runText_8 : decode cX7_runText 8 = .ok (.if_icmp .eq 21, 3) := by decide +kernel
theorem dX7_runText_11 : decode cX7_runText 11 = .ok (.aload_n 0, 1) := by decide +kernel
theorem dX7_runText_12 : decode cX7_runText 12 = .ok (.getfield 7, 3) := by decide +kernel
theorem dX7_runText_15 : decode cX7_runText 15 = .ok (.iconst 0, 1) := by decide +kernel
theorem dX7_runText_16 : decode cX7_runText 16 = .ok (.iaload, 1) := by decide +kernel
theorem dX7_runText_17 : decode cX7_runText 17 = .ok (.iload_n 1, 1) := by decide +kernel
theorem dX7_runText_18 : decode cX7_runText 18 = .ok (.iadd, 1) := by decide +kernel
theorem dX7_runText_19 : decode cX7_runText 19 = .ok (.sipush 2000, 3) := by decide +kernel
theorem dX7_runText_22 : decode cX7_runText 22 = .ok (.if_icmp .le 7, 3) := by decide +kernel
theorem dX7_runText_25 : decode cX7_runText 25 = .ok (.iconst 1, 1) := by decide +kernel
theorem dX7_runText_26 : decode cX7_runText 26 = .ok (.goto 4, 3) := by decide +kernel
theorem dX7_runText_29 : decode cX7_runText 29 = .ok (.iconst 0, 1) := by decide +kernel
theorem dX7_runText_30 : decode cX7_runText 30 = .ok (.putfield 26, 3) := by decide +kernel
theorem dX7_runText_33 : decode cX7_runText 33 = .ok (.aload_n 0, 1) := by decide +kernel
theorem dX7_runText_34 : decode cX7_runText 34 = .ok (.getfield 26, 3) := by decide +kernel
theorem dX7_runText_37 : decode cX7_runText 37 = .ok (.ifCond .ne 8, 3) := by decide +kernel
theorem dX7_runText_40 : decode cX7_runText 40 = .ok (.iload_n 1, 1) := by decide +kernel
theorem dX7_runText_41 : decode cX7_runText 41 = .ok (.iconst (-1), 1) := by decide +kernel
theorem dX7_runText_42 : decode cX7_runText 42 = .ok (.if_icmp .ne 22, 3) := by decide +kernel
theorem dX7_runText_45 : decode cX7_runText 45 = .ok (.aload_n 0, 1) := by decide +kernel
theorem dX7_runText_46 : decode cX7_runText 46 = .ok (.getfield 26, 3) := by decide +kernel
theorem dX7_runText_49 : decode cX7_runText 49 = .ok (.ifCond .eq 7, 3) := by decide +kernel
theorem dX7_runText_52 : decode cX7_runText 52 = .ok (.iconst 0, 1) := by decide +kernel
theorem dX7_runText_53 : decode cX7_runText 53 = .ok (.goto 10, 3) := by decide +kernel
theorem dX7_runText_56 : decode cX7_runText 56 = .ok (.bipush (-10), 2) := by decide +kernel
theorem dX7_runText_58 : decode cX7_runText 58 = .ok (.aload_n 0, 1) := by decide +kernel
theorem dX7_runText_59 : decode cX7_runText 59 = .ok (.getfield 127, 3) := by decide +kernel
theorem dX7_runText_62 : decode cX7_runText 62 = .ok (.isub, 1) := by decide +kernel
theorem dX7_runText_63 : decode cX7_runText 63 = .ok (.ireturn, 1) := by decide +kernel
theorem dX7_runText_64 : decode cX7_runText 64 = .ok (.aload_n 0, 1) := by decide +kernel
theorem dX7_runText_65 : decode cX7_runText 65 = .ok (.invokevirtual 48, 3) := by decide +kernel
theorem dX7_runText_68 : decode cX7_runText 68 = .ok (.iconst 0, 1) := by decide +kernel
theorem dX7_runText_69 : decode cX7_runText 69 = .ok (.istore_n 2, 1) := by decide +kernel
theorem dX7_runText_70 : decode cX7_runText 70 = .ok (.aload_n 0, 1) := by decide +kernel
theorem dX7_runText_71 : decode cX7_runText 71 = .ok (.iconst 0, 1) := by decide +kernel
theorem dX7_runText_72 : decode cX7_runText 72 = .ok (.putfield 127, 3) := by decide +kernel
theorem dX7_runText_75 : decode cX7_runText 75 = .ok (.aload_n 0, 1) := by decide +kernel
theorem dX7_runText_76 : decode cX7_runText 76 = .ok (.getfield 127, 3) := by decide +kernel
theorem dX7_runText_79 : decode cX7_runText 79 = .ok (.aload_n 0, 1) := by decide +kernel
theorem dX7_runText_80 : decode cX7_runText 80 = .ok (.getfield 124, 3) := by decide +kernel
theorem dX7_runText_83 : decode cX7_runText 83 = .ok (.if_icmp .ge 32, 3) := by decide +kernel
theorem dX7_runText_86 : decode cX7_runText 86 = .ok (.aload_n 0, 1) := by decide +kernel
theorem dX7_runText_87 : decode cX7_runText 87 = .ok (.invokevirtual 155, 3) := by decide +kernel
theorem dX7_runText_90 : decode cX7_runText 90 = .ok (.ifCond .eq 25, 3) := by decide +kernel
theorem dX7_runText_93 : decode cX7_runText 93 = .ok (.iload_n 2, 1) := by decide +kernel
theorem dX7_runText_94 : decode cX7_runText 94 = .ok (.aload_n 0, 1) := by decide +kernel
theorem dX7_runText_95 : decode cX7_runText 95 = .ok (.aload_n 0, 1) := by decide +kernel
theorem dX7_runText_96 : decode cX7_runText 96 = .ok (.getfield 146, 3) := by decide +kernel
theorem dX7_runText_99 : decode cX7_runText 99 = .ok (.aload_n 0, 1) := by decide +kernel
theorem dX7_runText_100 : decode cX7_runText 100 = .ok (.getfield 149, 3) := by decide +kernel
theorem dX7_runText_103 : decode cX7_runText 103 = .ok (.aload_n 0, 1) := by decide +kernel
theorem dX7_runText_104 : decode cX7_runText 104 = .ok (.getfield 152, 3) := by decide +kernel
theorem dX7_runText_107 : decode cX7_runText 107 = .ok (.invokevirtual 103, 3) := by decide +kernel
theorem dX7_runText_110 : decode cX7_runText 110 = .ok (.iadd, 1) := by decide +kernel
theorem dX7_runText_111 : decode cX7_runText 111 = .ok (.istore_n 2, 1) := by decide +kernel
theorem dX7_runText_112 : decode cX7_runText 112 = .ok (.goto (-37), 3) := by decide +kernel
theorem dX7_runText_115 : decode cX7_runText 115 = .ok (.iload_n 2, 1) := by decide +kernel
theorem dX7_runText_116 : decode cX7_runText 116 = .ok (.ireturn, 1) := by decide +kernel
theorem dX7_undo_0 : decode cX7_undo 0 = .ok (.aload_n 0, 1) := by decide +kernel
theorem dX7_undo_1 : decode cX7_undo 1 = .ok (.aload_n 0, 1) := by decide +kernel
theorem dX7_undo_2 : decode cX7_undo 2 = .ok (.getfield 30, 3) := by decide +kernel
theorem dX7_undo_5 : decode cX7_undo 5 = .ok (.ifCond .ne 7, 3) := by decide +kernel
theorem dX7_undo_8 : decode cX7_undo 8 = .ok (.iconst 1, 1) := by decide +kernel
theorem dX7_undo_9 : decode cX7_undo 9 = .ok (.goto 4, 3) := by decide +kernel
theorem dX7_undo_12 : decode cX7_undo 12 = .ok (.iconst 0, 1) := by decide +kernel
theorem dX7_undo_13 : decode cX7_undo 13 = .ok (.putfield 26, 3) := by decide +kernel
theorem dX7_undo_16 : decode cX7_undo 16 = .ok (.aload_n 0, 1) := by decide +kernel
theorem dX7_undo_17 : decode cX7_undo 17 = .ok (.getfield 26, 3) := by decide +kernel
theorem dX7_undo_20 : decode cX7_undo 20 = .ok (.ifCond .eq 5, 3) := by decide +kernel
theorem dX7_undo_23 : decode cX7_undo 23 = .ok (.iconst 0, 1) := by decide +kernel
theorem dX7_undo_24 : decode cX7_undo 24 = .ok (.ireturn, 1) := by decide +kernel
theorem dX7_undo_25 : decode cX7_undo 25 = .ok (.aload_n 0, 1) := by decide +kernel
theorem dX7_undo_26 : decode cX7_undo 26 = .ok (.dup, 1) := by decide +kernel
theorem dX7_undo_27 : decode cX7_undo 27 = .ok (.getfield 30, 3) := by decide +kernel
theorem dX7_undo_30 : decode cX7_undo 30 = .ok (.iconst 1, 1) := by decide +kernel
theorem dX7_undo_31 : decode cX7_undo 31 = .ok (.isub, 1) := by decide +kernel
theorem dX7_undo_32 : decode cX7_undo 32 = .ok (.putfield 30, 3) := by decide +kernel
theorem dX7_undo_35 : decode cX7_undo 35 = .ok (.aload_n 0, 1) := by decide +kernel
theorem dX7_undo_36 : decode cX7_undo 36 = .ok (.getfield 16, 3) := by decide +kernel
theorem dX7_undo_39 : decode cX7_undo 39 = .ok (.sipush 241, 3) := by decide +kernel
theorem dX7_undo_42 : decode cX7_undo 42 = .ok (.aload_n 0, 1) := by decide +kernel
theorem dX7_undo_43 : decode cX7_undo 43 = .ok (.getfield 30, 3) := by decide +kernel
theorem dX7_undo_46 : decode cX7_undo 46 = .ok (.imul, 1) := by decide +kernel
theorem dX7_undo_47 : decode cX7_undo 47 = .ok (.aload_n 0, 1) := by decide +kernel
theorem dX7_undo_48 : decode cX7_undo 48 = .ok (.getfield 7, 3) := by decide +kernel
theorem dX7_undo_51 : decode cX7_undo 51 = .ok (.iconst 0, 1) := by decide +kernel
theorem dX7_undo_52 : decode cX7_undo 52 = .ok (.invokestatic 33, 3) := by decide +kernel
theorem dX7_undo_55 : decode cX7_undo 55 = .ok (.aload_n 0, 1) := by decide +kernel
theorem dX7_undo_56 : decode cX7_undo 56 = .ok (.getfield 30, 3) := by decide +kernel
theorem dX7_undo_59 : decode cX7_undo 59 = .ok (.ireturn, 1) := by decide +kernel
theorem dX7_mix_0 : decode cX7_mix 0 = .ok (.aload_n 0, 1) := by decide +kernel
theorem dX7_mix_1 : decode cX7_mix 1 = .ok (.ldc2_w 161, 3) := by decide +kernel
theorem dX7_mix_4 : decode cX7_mix 4 = .ok (.aload_n 0, 1) := by decide +kernel
theorem dX7_mix_5 : decode cX7_mix 5 = .ok (.getfield 163, 3) := by decide +kernel
theorem dX7_mix_8 : decode cX7_mix 8 = .ok (.lmul, 1) := by decide +kernel
theorem dX7_mix_9 : decode cX7_mix 9 = .ok (.lload_n 1, 1) := by decide +kernel
theorem dX7_mix_10 : decode cX7_mix 10 = .ok (.ladd, 1) := by decide +kernel
theorem dX7_mix_11 : decode cX7_mix 11 = .ok (.putfield 163, 3) := by decide +kernel
theorem dX7_mix_14 : decode cX7_mix 14 = .ok (.return_, 1) := by decide +kernel
theorem dX7_digest_0 : decode cX7_digest 0 = .ok (.aload_n 0, 1) := by decide +kernel
theorem dX7_digest_1 : decode cX7_digest 1 = .ok (.iconst 0, 1) := by decide +kernel
theorem dX7_digest_2 : decode cX7_digest 2 = .ok (.putfield 26, 3) := by decide +kernel
theorem dX7_digest_5 : decode cX7_digest 5 = .ok (.aload_n 0, 1) := by decide +kernel
theorem dX7_digest_6 : decode cX7_digest 6 = .ok (.ldc2_w 167, 3) := by decide +kernel
theorem dX7_digest_9 : decode cX7_digest 9 = .ok (.putfield 163, 3) := by decide +kernel
theorem dX7_digest_12 : decode cX7_digest 12 = .ok (.aload_n 0, 1) := by decide +kernel
theorem dX7_digest_13 : decode cX7_digest 13 = .ok (.aload_n 0, 1) := by decide +kernel
theorem dX7_digest_14 : decode cX7_digest 14 = .ok (.getfield 124, 3) := by decide +kernel
theorem dX7_digest_17 : decode cX7_digest 17 = .ok (.i2l, 1) := by decide +kernel
theorem dX7_digest_18 : decode cX7_digest 18 = .ok (.invokevirtual 169, 3) := by decide +kernel
theorem dX7_digest_21 : decode cX7_digest 21 = .ok (.iconst 0, 1) := by decide +kernel
theorem dX7_digest_22 : decode cX7_digest 22 = .ok (.istore_n 1, 1) := by decide +kernel
theorem dX7_digest_23 : decode cX7_digest 23 = .ok (.iload_n 1, 1) := by decide +kernel
theorem dX7_digest_24 : decode cX7_digest 24 = .ok (.bipush 10, 2) := by decide +kernel
theorem dX7_digest_26 : decode cX7_digest 26 = .ok (.if_icmp .ge 19, 3) := by decide +kernel
theorem dX7_digest_29 : decode cX7_digest 29 = .ok (.aload_n 0, 1) := by decide +kernel
theorem dX7_digest_30 : decode cX7_digest 30 = .ok (.aload_n 0, 1) := by decide +kernel
theorem dX7_digest_31 : decode cX7_digest 31 = .ok (.iload_n 1, 1) := by decide +kernel
theorem dX7_digest_32 : decode cX7_digest 32 = .ok (.invokevirtual 111, 3) := by decide +kernel
theorem dX7_digest_35 : decode cX7_digest 35 = .ok (.i2l, 1) := by decide +kernel
theorem dX7_digest_36 : decode cX7_digest 36 = .ok (.invokevirtual 169, 3) := by decide +kernel
theorem dX7_digest_39 : decode cX7_digest 39 = .ok (.iinc 1 1, 3) := by decide +kernel
theorem dX7_digest_42 : decode cX7_digest 42 = .ok (.goto (-19), 3) := by decide +kernel
theorem dX7_digest_45 : decode cX7_digest 45 = .ok (.iconst 0, 1) := by decide +kernel
theorem dX7_digest_46 : decode cX7_digest 46 = .ok (.istore_n 1, 1) := by decide +kernel
theorem dX7_digest_47 : decode cX7_digest 47 = .ok (.iload_n 1, 1) := by decide +kernel
theorem dX7_digest_48 : decode cX7_digest 48 = .ok (.aload_n 0, 1) := by decide +kernel
theorem dX7_digest_49 : decode cX7_digest 49 = .ok (.getfield 7, 3) := by decide +kernel
theorem dX7_digest_52 : decode cX7_digest 52 = .ok (.iconst 1, 1) := by decide +kernel
theorem dX7_digest_53 : decode cX7_digest 53 = .ok (.iaload, 1) := by decide +kernel
theorem dX7_digest_54 : decode cX7_digest 54 = .ok (.if_icmp .ge 34, 3) := by decide +kernel
theorem dX7_digest_57 : decode cX7_digest 57 = .ok (.iconst 0, 1) := by decide +kernel
theorem dX7_digest_58 : decode cX7_digest 58 = .ok (.istore_n 2, 1) := by decide +kernel
theorem dX7_digest_59 : decode cX7_digest 59 = .ok (.iload_n 2, 1) := by decide +kernel
theorem dX7_digest_60 : decode cX7_digest 60 = .ok (.bipush 9, 2) := by decide +kernel
theorem dX7_digest_62 : decode cX7_digest 62 = .ok (.if_icmp .ge 20, 3) := by decide +kernel
theorem dX7_digest_65 : decode cX7_digest 65 = .ok (.aload_n 0, 1) := by decide +kernel
theorem dX7_digest_66 : decode cX7_digest 66 = .ok (.aload_n 0, 1) := by decide +kernel
theorem dX7_digest_67 : decode cX7_digest 67 = .ok (.iload_n 1, 1) := by decide +kernel
theorem dX7_digest_68 : decode cX7_digest 68 = .ok (.iload_n 2, 1) := by decide +kernel
theorem dX7_digest_69 : decode cX7_digest 69 = .ok (.invokevirtual 114, 3) := by decide +kernel
theorem dX7_digest_72 : decode cX7_digest 72 = .ok (.i2l, 1) := by decide +kernel
theorem dX7_digest_73 : decode cX7_digest 73 = .ok (.invokevirtual 169, 3) := by decide +kernel
theorem dX7_digest_76 : decode cX7_digest 76 = .ok (.iinc 2 1, 3) := by decide +kernel
theorem dX7_digest_79 : decode cX7_digest 79 = .ok (.goto (-20), 3) := by decide +kernel
theorem dX7_digest_82 : decode cX7_digest 82 = .ok (.iinc 1 1, 3) := by decide +kernel
theorem dX7_digest_85 : decode cX7_digest 85 = .ok (.goto (-38), 3) := by decide +kernel
theorem dX7_digest_88 : decode cX7_digest 88 = .ok (.iconst 0, 1) := by decide +kernel
theorem dX7_digest_89 : decode cX7_digest 89 = .ok (.istore_n 1, 1) := by decide +kernel
theorem dX7_digest_90 : decode cX7_digest 90 = .ok (.iload_n 1, 1) := by decide +kernel
theorem dX7_digest_91 : decode cX7_digest 91 = .ok (.aload_n 0, 1) := by decide +kernel
theorem dX7_digest_92 : decode cX7_digest 92 = .ok (.getfield 7, 3) := by decide +kernel
theorem dX7_digest_95 : decode cX7_digest 95 = .ok (.iconst 2, 1) := by decide +kernel
theorem dX7_digest_96 : decode cX7_digest 96 = .ok (.iaload, 1) := by decide +kernel
theorem dX7_digest_97 : decode cX7_digest 97 = .ok (.if_icmp .ge 41, 3) := by decide +kernel
theorem dX7_digest_100 : decode cX7_digest 100 = .ok (.iconst 0, 1) := by decide +kernel
theorem dX7_digest_101 : decode cX7_digest 101 = .ok (.istore_n 2, 1) := by decide +kernel
theorem dX7_digest_102 : decode cX7_digest 102 = .ok (.iload_n 2, 1) := by decide +kernel
theorem dX7_digest_103 : decode cX7_digest 103 = .ok (.bipush 8, 2) := by decide +kernel
theorem dX7_digest_105 : decode cX7_digest 105 = .ok (.aload_n 0, 1) := by decide +kernel
theorem dX7_digest_106 : decode cX7_digest 106 = .ok (.iload_n 1, 1) := by decide +kernel
theorem dX7_digest_107 : decode cX7_digest 107 = .ok (.iconst 3, 1) := by decide +kernel
theorem dX7_digest_108 : decode cX7_digest 108 = .ok (.invokevirtual 58, 3) := by decide +kernel
theorem dX7_digest_111 : decode cX7_digest 111 = .ok (.iadd, 1) := by decide +kernel
theorem dX7_digest_112 : decode cX7_digest 112 = .ok (.if_icmp .ge 20, 3) := by decide +kernel
theorem dX7_digest_115 : decode cX7_digest 115 = .ok (.aload_n 0, 1) := by decide +kernel
theorem dX7_digest_116 : decode cX7_digest 116 = .ok (.aload_n 0, 1) := by decide +kernel
theorem dX7_digest_117 : decode cX7_digest 117 = .ok (.iload_n 1, 1) := by decide +kernel
theorem dX7_digest_118 : decode cX7_digest 118 = .ok (.iload_n 2, 1) := by decide +kernel
theorem dX7_digest_119 : decode cX7_digest 119 = .ok (.invokevirtual 58, 3) := by decide +kernel
theorem dX7_digest_122 : decode cX7_digest 122 = .ok (.i2l, 1) := by decide +kernel
theorem dX7_digest_123 : decode cX7_digest 123 = .ok (.invokevirtual 169, 3) := by decide +kernel
theorem dX7_digest_126 : decode cX7_digest 126 = .ok (.iinc 2 1, 3) := by decide +kernel
theorem dX7_digest_129 : decode cX7_digest 129 = .ok (.goto (-27), 3) := by decide +kernel
theorem dX7_digest_132 : decode cX7_digest 132 = .ok (.iinc 1 1, 3) := by decide +kernel
theorem dX7_digest_135 : decode cX7_digest 135 = .ok (.goto (-45), 3) := by decide +kernel
theorem dX7_digest_138 : decode cX7_digest 138 = .ok (.iconst 0, 1) := by decide +kernel
theorem dX7_digest_139 : decode cX7_digest 139 = .ok (.istore_n 1, 1) := by decide +kernel
theorem dX7_digest_140 : decode cX7_digest 140 = .ok (.iload_n 1, 1) := by decide +kernel
theorem dX7_digest_141 : decode cX7_digest 141 = .ok (.bipush 12, 2) := by decide +kernel
theorem dX7_digest_143 : decode cX7_digest 143 = .ok (.if_icmp .ge 24, 3) := by decide +kernel
theorem dX7_digest_146 : decode cX7_digest 146 = .ok (.aload_n 0, 1) := by decide +kernel
theorem dX7_digest_147 : decode cX7_digest 147 = .ok (.aload_n 0, 1) := by decide +kernel
theorem dX7_digest_148 : decode cX7_digest 148 = .ok (.getfield 7, 3) := by decide +kernel
theorem dX7_digest_151 : decode cX7_digest 151 = .ok (.sipush 229, 3) := by decide +kernel
theorem dX7_digest_154 : decode cX7_digest 154 = .ok (.iload_n 1, 1) := by decide +kernel
theorem dX7_digest_155 : decode cX7_digest 155 = .ok (.iadd, 1) := by decide +kernel
theorem dX7_digest_156 : decode cX7_digest 156 = .ok (.iaload, 1) := by decide +kernel
theorem dX7_digest_157 : decode cX7_digest 157 = .ok (.i2l, 1) := by decide +kernel
theorem dX7_digest_158 : decode cX7_digest 158 = .ok (.invokevirtual 169, 3) := by decide +kernel
theorem dX7_digest_161 : decode cX7_digest 161 = .ok (.iinc 1 1, 3) := by decide +kernel
theorem dX7_digest_164 : decode cX7_digest 164 = .ok (.goto (-24), 3) := by decide +kernel
theorem dX7_digest_167 : decode cX7_digest 167 = .ok (.aload_n 0, 1) := by decide +kernel
theorem dX7_digest_168 : decode cX7_digest 168 = .ok (.aload_n 0, 1) := by decide +kernel
theorem dX7_digest_169 : decode cX7_digest 169 = .ok (.getfield 30, 3) := by decide +kernel
theorem dX7_digest_172 : decode cX7_digest 172 = .ok (.i2l, 1) := by decide +kernel
theorem dX7_digest_173 : decode cX7_digest 173 = .ok (.invokevirtual 169, 3) := by decide +kernel
theorem dX7_digest_176 : decode cX7_digest 176 = .ok (.aload_n 0, 1) := by decide +kernel
theorem dX7_digest_177 : decode cX7_digest 177 = .ok (.getfield 163, 3) := by decide +kernel
theorem dX7_digest_180 : decode cX7_digest 180 = .ok (.lreturn, 1) := by decide +kernel
