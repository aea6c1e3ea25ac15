theorem dX0_init_0 : decode cX0_init 0 = .ok (.aload_n 0, 1) := by decide +kernel
theorem dX0_init_1 : decode cX0_init 1 = .ok (.invokespecial 3, 3) := by decide +kernel
theorem dX0_init_4 : decode cX0_init 4 = .ok (.aload_n 0, 1) := by decide +kernel
theorem dX0_init_5 : decode cX0_init 5 = .ok (.bipush 20, 2) := by decide +kernel
theorem dX0_init_7 : decode cX0_init 7 = .ok (.anewarray 9, 3) := by decide +kernel
theorem dX0_init_10 : decode cX0_init 10 = .ok (.putfield 11, 3) := by decide +kernel
theorem dX0_init_13 : decode cX0_init 13 = .ok (.aload_n 0, 1) := by decide +kernel
theorem dX0_init_14 : decode cX0_init 14 = .ok (.iconst 3, 1) := by decide +kernel
theorem dX0_init_15 : decode cX0_init 15 = .ok (.anewarray 17, 3) := by decide +kernel
theorem dX0_init_18 : decode cX0_init 18 = .ok (.putfield 19, 3) := by decide +kernel
theorem dX0_init_21 : decode cX0_init 21 = .ok (.aload_n 0, 1) := by decide +kernel
theorem dX0_init_22 : decode cX0_init 22 = .ok (.iconst 3, 1) := by decide +kernel
theorem dX0_init_23 : decode cX0_init 23 = .ok (.anewarray 23, 3) := by decide +kernel
theorem dX0_init_26 : decode cX0_init 26 = .ok (.putfield 25, 3) := by decide +kernel
theorem dX0_init_29 : decode cX0_init 29 = .ok (.aload_n 0, 1) := by decide +kernel
theorem dX0_init_30 : decode cX0_init 30 = .ok (.sipush 1000, 3) := by decide +kernel
theorem dX0_init_33 : decode cX0_init 33 = .ok (.putfield 29, 3) := by decide +kernel
theorem dX0_init_36 : decode cX0_init 36 = .ok (.aload_n 0, 1) := by decide +kernel
theorem dX0_init_37 : decode cX0_init 37 = .ok (.bipush 10, 2) := by decide +kernel
theorem dX0_init_39 : decode cX0_init 39 = .ok (.putfield 33, 3) := by decide +kernel
theorem dX0_init_42 : decode cX0_init 42 = .ok (.aload_n 0, 1) := by decide +kernel
theorem dX0_init_43 : decode cX0_init 43 = .ok (.sipush 1000, 3) := by decide +kernel
theorem dX0_init_46 : decode cX0_init 46 = .ok (.putfield 36, 3) := by decide +kernel
theorem dX0_init_49 : decode cX0_init 49 = .ok (.iconst 0, 1) := by decide +kernel
theorem dX0_init_50 : decode cX0_init 50 = .ok (.istore_n 1, 1) := by decide +kernel
theorem dX0_init_51 : decode cX0_init 51 = .ok (.iload_n 1, 1) := by decide +kernel
theorem dX0_init_52 : decode cX0_init 52 = .ok (.bipush 20, 2) := by decide +kernel
theorem dX0_init_54 : decode cX0_init 54 = .ok (.if_icmp .ge 22, 3) := by decide +kernel
theorem dX0_init_57 : decode cX0_init 57 = .ok (.aload_n 0, 1) := by decide +kernel
theorem dX0_init_58 : decode cX0_init 58 = .ok (.getfield 11, 3) := by decide +kernel
theorem dX0_init_61 : decode cX0_init 61 = .ok (.iload_n 1, 1) := by decide +kernel
theorem dX0_init_62 : decode cX0_init 62 = .ok (.new 9, 3) := by decide +kernel
theorem dX0_init_65 : decode cX0_init 65 = .ok (.dup, 1) := by decide +kernel
theorem dX0_init_66 : decode cX0_init 66 = .ok (.invokespecial 39, 3) := by decide +kernel
theorem dX0_init_69 : decode cX0_init 69 = .ok (.aastore, 1) := by decide +kernel
theorem dX0_init_70 : decode cX0_init 70 = .ok (.iinc 1 1, 3) := by decide +kernel
theorem dX0_init_73 : decode cX0_init 73 = .ok (.goto (-22), 3) := by decide +kernel
theorem dX0_init_76 : decode cX0_init 76 = .ok (.iconst 0, 1) := by decide +kernel
theorem dX0_init_77 : decode cX0_init 77 = .ok (.istore_n 1, 1) := by decide +kernel
theorem dX0_init_78 : decode cX0_init 78 = .ok (.iload_n 1, 1) := by decide +kernel
theorem dX0_init_79 : decode cX0_init 79 = .ok (.iconst 3, 1) := by decide +kernel
theorem dX0_init_80 : decode cX0_init 80 = .ok (.if_icmp .ge 22, 3) := by decide +kernel
theorem dX0_init_83 : decode cX0_init 83 = .ok (.aload_n 0, 1) := by decide +kernel
theorem dX0_init_84 : decode cX0_init 84 = .ok (.getfield 19, 3) := by decide +kernel
theorem dX0_init_87 : decode cX0_init 87 = .ok (.iload_n 1, 1) := by decide +kernel
theorem dX0_init_88 : decode cX0_init 88 = .ok (.new 17, 3) := by decide +kernel
theorem dX0_init_91 : decode cX0_init 91 = .ok (.dup, 1) := by decide +kernel
theorem dX0_init_92 : decode cX0_init 92 = .ok (.invokespecial 40, 3) := by decide +kernel
theorem dX0_init_95 : decode cX0_init 95 = .ok (.aastore, 1) := by decide +kernel
theorem dX0_init_96 : decode cX0_init 96 = .ok (.iinc 1 1, 3) := by decide +kernel
theorem dX0_init_99 : decode cX0_init 99 = .ok (.goto (-21), 3) := by decide +kernel
theorem dX0_init_102 : decode cX0_init 102 = .ok (.aload_n 0, 1) := by decide +kernel
theorem dX0_init_103 : decode cX0_init 103 = .ok (.getfield 25, 3) := by decide +kernel
theorem dX0_init_106 : decode cX0_init 106 = .ok (.iconst 0, 1) := by decide +kernel
theorem dX0_init_107 : decode cX0_init 107 = .ok (.new 23, 3) := by decide +kernel
theorem dX0_init_110 : decode cX0_init 110 = .ok (.dup, 1) := by decide +kernel
theorem dX0_init_111 : decode cX0_init 111 = .ok (.bipush 20, 2) := by decide +kernel
theorem dX0_init_113 : decode cX0_init 113 = .ok (.iconst 3, 1) := by decide +kernel
theorem dX0_init_114 : decode cX0_init 114 = .ok (.bipush 30, 2) := by decide +kernel
theorem dX0_init_116 : decode cX0_init 116 = .ok (.invokespecial 41, 3) := by decide +kernel
theorem dX0_init_119 : decode cX0_init 119 = .ok (.aastore, 1) := by decide +kernel
theorem dX0_init_120 : decode cX0_init 120 = .ok (.aload_n 0, 1) := by decide +kernel
theorem dX0_init_121 : decode cX0_init 121 = .ok (.getfield 25, 3) := by decide +kernel
theorem dX0_init_124 : decode cX0_init 124 = .ok (.iconst 1, 1) := by decide +kernel
theorem dX0_init_125 : decode cX0_init 125 = .ok (.new 23, 3) := by decide +kernel
theorem dX0_init_128 : decode cX0_init 128 = .ok (.dup, 1) := by decide +kernel
theorem dX0_init_129 : decode cX0_init 129 = .ok (.bipush 40, 2) := by decide +kernel
theorem dX0_init_131 : decode cX0_init 131 = .ok (.bipush 6, 2) := by decide +kernel
theorem dX0_init_133 : decode cX0_init 133 = .ok (.bipush 20, 2) := by decide +kernel
theorem dX0_init_135 : decode cX0_init 135 = .ok (.invokespecial 41, 3) := by decide +kernel
theorem dX0_init_138 : decode cX0_init 138 = .ok (.aastore, 1) := by decide +kernel
theorem dX0_init_139 : decode cX0_init 139 = .ok (.aload_n 0, 1) := by decide +kernel
theorem dX0_init_140 : decode cX0_init 140 = .ok (.getfield 25, 3) := by decide +kernel
theorem dX0_init_143 : decode cX0_init 143 = .ok (.iconst 2, 1) := by decide +kernel
theorem dX0_init_144 : decode cX0_init 144 = .ok (.new 23, 3) := by decide +kernel
theorem dX0_init_147 : decode cX0_init 147 = .ok (.dup, 1) := by decide +kernel
theorem dX0_init_148 : decode cX0_init 148 = .ok (.bipush 60, 2) := by decide +kernel
theorem dX0_init_150 : decode cX0_init 150 = .ok (.bipush 12, 2) := by decide +kernel
theorem dX0_init_152 : decode cX0_init 152 = .ok (.bipush 10, 2) := by decide +kernel
theorem dX0_init_154 : decode cX0_init 154 = .ok (.invokespecial 41, 3) := by decide +kernel
theorem dX0_init_157 : decode cX0_init 157 = .ok (.aastore, 1) := by decide +kernel
theorem dX0_init_158 : decode cX0_init 158 = .ok (.return_, 1) := by decide +kernel
theorem dX0_copyFrom_0 : decode cX0_copyFrom 0 = .ok (.aload_n 0, 1) := by decide +kernel
theorem dX0_copyFrom_1 : decode cX0_copyFrom 1 = .ok (.aload_n 1, 1) := by decide +kernel
theorem dX0_copyFrom_2 : decode cX0_copyFrom 2 = .ok (.getfield 44, 3) := by decide +kernel
theorem dX0_copyFrom_5 : decode cX0_copyFrom 5 = .ok (.putfield 44, 3) := by decide +kernel
theorem dX0_copyFrom_8 : decode cX0_copyFrom 8 = .ok (.iconst 0, 1) := by decide +kernel
theorem dX0_copyFrom_9 : decode cX0_copyFrom 9 = .ok (.istore_n 2, 1) := by decide +kernel
theorem dX0_copyFrom_10 : decode cX0_copyFrom 10 = .ok (.iload_n 2, 1) := by decide +kernel
theorem dX0_copyFrom_11 : decode cX0_copyFrom 11 = .ok (.aload_n 0, 1) := by decide +kernel
theorem dX0_copyFrom_12 : decode cX0_copyFrom 12 = .ok (.getfield 44, 3) := by decide +kernel
theorem dX0_copyFrom_15 : decode cX0_copyFrom 15 = .ok (.if_icmp .ge 24, 3) := by decide +kernel
theorem dX0_copyFrom_18 : decode cX0_copyFrom 18 = .ok (.aload_n 0, 1) := by decide +kernel
theorem dX0_copyFrom_19 : decode cX0_copyFrom 19 = .ok (.getfield 11, 3) := by decide +kernel
theorem dX0_copyFrom_22 : decode cX0_copyFrom 22 = .ok (.iload_n 2, 1) := by decide +kernel
theorem dX0_copyFrom_23 : decode cX0_copyFrom 23 = .ok (.aaload, 1) := by decide +kernel
theorem dX0_copyFrom_24 : decode cX0_copyFrom 24 = .ok (.aload_n 1, 1) := by decide +kernel
theorem dX0_copyFrom_25 : decode cX0_copyFrom 25 = .ok (.getfield 11, 3) := by decide +kernel
theorem dX0_copyFrom_28 : decode cX0_copyFrom 28 = .ok (.iload_n 2, 1) := by decide +kernel
theorem dX0_copyFrom_29 : decode cX0_copyFrom 29 = .ok (.aaload, 1) := by decide +kernel
theorem dX0_copyFrom_30 : decode cX0_copyFrom 30 = .ok (.invokevirtual 47, 3) := by decide +kernel
theorem dX0_copyFrom_33 : decode cX0_copyFrom 33 = .ok (.iinc 2 1, 3) := by decide +kernel
theorem dX0_copyFrom_36 : decode cX0_copyFrom 36 = .ok (.goto (-26), 3) := by decide +kernel
theorem dX0_copyFrom_39 : decode cX0_copyFrom 39 = .ok (.aload_n 0, 1) := by decide +kernel
theorem dX0_copyFrom_40 : decode cX0_copyFrom 40 = .ok (.aload_n 1, 1) := by decide +kernel
theorem dX0_copyFrom_41 : decode cX0_copyFrom 41 = .ok (.getfield 51, 3) := by decide +kernel
theorem dX0_copyFrom_44 : decode cX0_copyFrom 44 = .ok (.putfield 51, 3) := by decide +kernel
theorem dX0_copyFrom_47 : decode cX0_copyFrom 47 = .ok (.iconst 0, 1) := by decide +kernel
theorem dX0_copyFrom_48 : decode cX0_copyFrom 48 = .ok (.istore_n 2, 1) := by decide +kernel
theorem dX0_copyFrom_49 : decode cX0_copyFrom 49 = .ok (.iload_n 2, 1) := by decide +kernel
theorem dX0_copyFrom_50 : decode cX0_copyFrom 50 = .ok (.aload_n 0, 1) := by decide +kernel
theorem dX0_copyFrom_51 : decode cX0_copyFrom 51 = .ok (.getfield 51, 3) := by decide +kernel
theorem dX0_copyFrom_54 : decode cX0_copyFrom 54 = .ok (.if_icmp .ge 24, 3) := by decide +kernel
theorem dX0_copyFrom_57 : decode cX0_copyFrom 57 = .ok (.aload_n 0, 1) := by decide +kernel
theorem dX0_copyFrom_58 : decode cX0_copyFrom 58 = .ok (.getfield 19, 3) := by decide +kernel
theorem dX0_copyFrom_61 : decode cX0_copyFrom 61 = .ok (.iload_n 2, 1) := by decide +kernel
theorem dX0_copyFrom_62 : decode cX0_copyFrom 62 = .ok (.aaload, 1) := by decide +kernel
theorem dX0_copyFrom_63 : decode cX0_copyFrom 63 = .ok (.aload_n 1, 1) := by decide +kernel
theorem dX0_copyFrom_64 : decode cX0_copyFrom 64 = .ok (.getfield 19, 3) := by decide +kernel
theorem dX0_copyFrom_67 : decode cX0_copyFrom 67 = .ok (.iload_n 2, 1) := by decide +kernel
theorem dX0_copyFrom_68 : decode cX0_copyFrom 68 = .ok (.aaload, 1) := by decide +kernel
theorem dX0_copyFrom_69 : decode cX0_copyFrom 69 = .ok (.invokevirtual 54, 3) := by decide +kernel
theorem dX0_copyFrom_72 : decode cX0_copyFrom 72 = .ok (.iinc 2 1, 3) := by decide +kernel
theorem dX0_copyFrom_75 : decode cX0_copyFrom 75 = .ok (.goto (-26), 3) := by decide +kernel
theorem dX0_copyFrom_78 : decode cX0_copyFrom 78 = .ok (.iconst 0, 1) := by decide +kernel
theorem dX0_copyFrom_79 : decode cX0_copyFrom 79 = .ok (.istore_n 2, 1) := by decide +kernel
theorem dX0_copyFrom_80 : decode cX0_copyFrom 80 = .ok (.iload_n 2, 1) := by decide +kernel
theorem dX0_copyFrom_81 : decode cX0_copyFrom 81 = .ok (.iconst 3, 1) := by decide +kernel
theorem dX0_copyFrom_82 : decode cX0_copyFrom 82 = .ok (.if_icmp .ge 24, 3) := by decide +kernel
theorem dX0_copyFrom_85 : decode cX0_copyFrom 85 = .ok (.aload_n 0, 1) := by decide +kernel
theorem dX0_copyFrom_86 : decode cX0_copyFrom 86 = .ok (.getfield 25, 3) := by decide +kernel
theorem dX0_copyFrom_89 : decode cX0_copyFrom 89 = .ok (.iload_n 2, 1) := by decide +kernel
theorem dX0_copyFrom_90 : decode cX0_copyFrom 90 = .ok (.aaload, 1) := by decide +kernel
theorem dX0_copyFrom_91 : decode cX0_copyFrom 91 = .ok (.aload_n 1, 1) := by decide +kernel
theorem dX0_copyFrom_92 : decode cX0_copyFrom 92 = .ok (.getfield 25, 3) := by decide +kernel
theorem dX0_copyFrom_95 : decode cX0_copyFrom 95 = .ok (.iload_n 2, 1) := by decide +kernel
theorem dX0_copyFrom_96 : decode cX0_copyFrom 96 = .ok (.aaload, 1) := by decide +kernel
theorem dX0_copyFrom_97 : decode cX0_copyFrom 97 = .ok (.invokevirtual 57, 3) := by decide +kernel
theorem dX0_copyFrom_100 : decode cX0_copyFrom 100 = .ok (.iinc 2 1, 3) := by decide +kernel
theorem dX0_copyFrom_103 : decode cX0_copyFrom 103 = .ok (.goto (-23), 3) := by decide +kernel
theorem dX0_copyFrom_106 : decode cX0_copyFrom 106 = .ok (.aload_n 0, 1) := by decide +kernel
theorem dX0_copyFrom_107 : decode cX0_copyFrom 107 = .ok (.aload_n 1, 1) := by decide +kernel
theorem dX0_copyFrom_108 : decode cX0_copyFrom 108 = .ok (.getfield 60, 3) := by decide +kernel
theorem dX0_copyFrom_111 : decode cX0_copyFrom 111 = .ok (.putfield 60, 3) := by decide +kernel
theorem dX0_copyFrom_114 : decode cX0_copyFrom 114 = .ok (.aload_n 0, 1) := by decide +kernel
theorem dX0_copyFrom_115 : decode cX0_copyFrom 115 = .ok (.aload_n 1, 1) := by decide +kernel
theorem dX0_copyFrom_116 : decode cX0_copyFrom 116 = .ok (.getfield 29, 3) := by decide +kernel
theorem dX0_copyFrom_119 : decode cX0_copyFrom 119 = .ok (.putfield 29, 3) := by decide +kernel
theorem dX0_copyFrom_122 : decode cX0_copyFrom 122 = .ok (.aload_n 0, 1) := by decide +kernel
theorem dX0_copyFrom_123 : decode cX0_copyFrom 123 = .ok (.aload_n 1, 1) := by decide +kernel
theorem dX0_copyFrom_124 : decode cX0_copyFrom 124 = .ok (.getfield 33, 3) := by decide +kernel
theorem dX0_copyFrom_127 : decode cX0_copyFrom 127 = .ok (.putfield 33, 3) := by decide +kernel
theorem dX0_copyFrom_130 : decode cX0_copyFrom 130 = .ok (.aload_n 0, 1) := by decide +kernel
theorem dX0_copyFrom_131 : decode cX0_copyFrom 131 = .ok (.aload_n 1, 1) := by decide +kernel
theorem dX0_copyFrom_132 : decode cX0_copyFrom 132 = .ok (.getfield 63, 3) := by decide +kernel
theorem dX0_copyFrom_135 : decode cX0_copyFrom 135 = .ok (.putfield 63, 3) := by decide +kernel
theorem dX0_copyFrom_138 : decode cX0_copyFrom 138 = .ok (.aload_n 0, 1) := by decide +kernel
theorem dX0_copyFrom_139 : decode cX0_copyFrom 139 = .ok (.aload_n 1, 1) := by decide +kernel
theorem dX0_copyFrom_140 : decode cX0_copyFrom 140 = .ok (.getfield 36, 3) := by decide +kernel
theorem dX0_copyFrom_143 : decode cX0_copyFrom 143 = .ok (.putfield 36, 3) := by decide +kernel
theorem dX0_copyFrom_146 : decode cX0_copyFrom 146 = .ok (.aload_n 0, 1) := by decide +kernel
theorem dX0_copyFrom_147 : decode cX0_copyFrom 147 = .ok (.aload_n 1, 1) := by decide +kernel
theorem dX0_copyFrom_148 : decode cX0_copyFrom 148 = .ok (.getfield 66, 3) := by decide +kernel
theorem dX0_copyFrom_151 : decode cX0_copyFrom 151 = .ok (.putfield 66, 3) := by decide +kernel
theorem dX0_copyFrom_154 : decode cX0_copyFrom 154 = .ok (.return_, 1) := by decide +kernel
theorem dX0_number_0 : decode cX0_number 0 = .ok (.iload_n 1, 1) := by decide +kernel
theorem dX0_number_1 : decode cX0_number 1 = .ok (.tableswitch 96 0 8 #[51, 56, 61, 66, 71, 76, 81, 86, 91], 51) := by decide +kernel
theorem dX0_number_52 : decode cX0_number 52 = .ok (.aload_n 0, 1) := by decide +kernel
theorem dX0_number_53 : decode cX0_number 53 = .ok (.getfield 60, 3) := by decide +kernel
theorem dX0_number_56 : decode cX0_number 56 = .ok (.ireturn, 1) := by decide +kernel
theorem dX0_number_57 : decode cX0_number 57 = .ok (.aload_n 0, 1) := by decide +kernel
theorem dX0_number_58 : decode cX0_number 58 = .ok (.getfield 44, 3) := by decide +kernel
theorem dX0_number_61 : decode cX0_number 61 = .ok (.ireturn, 1) := by decide +kernel
theorem dX0_number_62 : decode cX0_number 62 = .ok (.aload_n 0, 1) := by decide +kernel
theorem dX0_number_63 : decode cX0_number 63 = .ok (.getfield 51, 3) := by decide +kernel
theorem dX0_number_66 : decode cX0_number 66 = .ok (.ireturn, 1) := by decide +kernel
theorem dX0_number_67 : decode cX0_number 67 = .ok (.aload_n 0, 1) := by decide +kernel
theorem dX0_number_68 : decode cX0_number 68 = .ok (.getfield 29, 3) := by decide +kernel
theorem dX0_number_71 : decode cX0_number 71 = .ok (.ireturn, 1) := by decide +kernel
theorem dX0_number_72 : decode cX0_number 72 = .ok (.aload_n 0, 1) := by decide +kernel
theorem dX0_number_73 : decode cX0_number 73 = .ok (.getfield 33, 3) := by decide +kernel
theorem dX0_number_76 : decode cX0_number 76 = .ok (.ireturn, 1) := by decide +kernel
theorem dX0_number_77 : decode cX0_number 77 = .ok (.aload_n 0, 1) := by decide +kernel
theorem dX0_number_78 : decode cX0_number 78 = .ok (.invokevirtual 69, 3) := by decide +kernel
theorem dX0_number_81 : decode cX0_number 81 = .ok (.ireturn, 1) := by decide +kernel
theorem dX0_number_82 : decode cX0_number 82 = .ok (.aload_n 0, 1) := by decide +kernel
theorem dX0_number_83 : decode cX0_number 83 = .ok (.getfield 63, 3) := by decide +kernel
theorem dX0_number_86 : decode cX0_number 86 = .ok (.ireturn, 1) := by decide +kernel
theorem dX0_number_87 : decode cX0_number 87 = .ok (.aload_n 0, 1) := by decide +kernel
theorem dX0_number_88 : decode cX0_number 88 = .ok (.invokevirtual 73, 3) := by decide +kernel
theorem dX0_number_91 : decode cX0_number 91 = .ok (.ireturn, 1) := by decide +kernel
theorem dX0_number_92 : decode cX0_number 92 = .ok (.aload_n 0, 1) := by decide +kernel
theorem dX0_number_93 : decode cX0_number 93 = .ok (.getfield 36, 3) := by decide +kernel
theorem dX0_number_96 : decode cX0_number 96 = .ok (.ireturn, 1) := by decide +kernel
theorem dX0_number_97 : decode cX0_number 97 = .ok (.aload_n 0, 1) := by decide +kernel
theorem dX0_number_98 : decode cX0_number 98 = .ok (.getfield 66, 3) := by decide +kernel
theorem dX0_number_101 : decode cX0_number 101 = .ok (.ireturn, 1) := by decide +kernel
theorem dX0_numberOfStreet_0 : decode cX0_numberOfStreet 0 = .ok (.iload_n 2, 1) := by decide +kernel
theorem dX0_numberOfStreet_1 : decode cX0_numberOfStreet 1 = .ok (.tableswitch 96 0 7 #[47, 52, 57, 62, 67, 72, 77, 91], 47) := by decide +kernel
theorem dX0_numberOfStreet_48 : decode cX0_numberOfStreet 48 = .ok (.aload_n 1, 1) := by decide +kernel
theorem dX0_numberOfStreet_49 : decode cX0_numberOfStreet 49 = .ok (.getfield 76, 3) := by decide +kernel
theorem dX0_numberOfStreet_52 : decode cX0_numberOfStreet 52 = .ok (.ireturn, 1) := by decide +kernel
theorem dX0_numberOfStreet_53 : decode cX0_numberOfStreet 53 = .ok (.aload_n 1, 1) := by decide +kernel
theorem dX0_numberOfStreet_54 : decode cX0_numberOfStreet 54 = .ok (.getfield 79, 3) := by decide +kernel
theorem dX0_numberOfStreet_57 : decode cX0_numberOfStreet 57 = .ok (.ireturn, 1) := by decide +kernel
theorem dX0_numberOfStreet_58 : decode cX0_numberOfStreet 58 = .ok (.aload_n 1, 1) := by decide +kernel
theorem dX0_numberOfStreet_59 : decode cX0_numberOfStreet 59 = .ok (.getfield 82, 3) := by decide +kernel
theorem dX0_numberOfStreet_62 : decode cX0_numberOfStreet 62 = .ok (.ireturn, 1) := by decide +kernel
theorem dX0_numberOfStreet_63 : decode cX0_numberOfStreet 63 = .ok (.aload_n 1, 1) := by decide +kernel
theorem dX0_numberOfStreet_64 : decode cX0_numberOfStreet 64 = .ok (.getfield 85, 3) := by decide +kernel
theorem dX0_numberOfStreet_67 : decode cX0_numberOfStreet 67 = .ok (.ireturn, 1) := by decide +kernel
theorem dX0_numberOfStreet_68 : decode cX0_numberOfStreet 68 = .ok (.aload_n 1, 1) := by decide +kernel
theorem dX0_numberOfStreet_69 : decode cX0_numberOfStreet 69 = .ok (.getfield 88, 3) := by decide +kernel
theorem dX0_numberOfStreet_72 : decode cX0_numberOfStreet 72 = .ok (.ireturn, 1) := by decide +kernel
theorem dX0_numberOfStreet_73 : decode cX0_numberOfStreet 73 = .ok (.aload_n 1, 1) := by decide +kernel
theorem dX0_numberOfStreet_74 : decode cX0_numberOfStreet 74 = .ok (.getfield 91, 3) := by decide +kernel
theorem dX0_numberOfStreet_77 : decode cX0_numberOfStreet 77 = .ok (.ireturn, 1) := by decide +kernel
theorem dX0_numberOfStreet_78 : decode cX0_numberOfStreet 78 = .ok (.aload_n 0, 1) := by decide +kernel
theorem dX0_numberOfStreet_79 : decode cX0_numberOfStreet 79 = .ok (.aload_n 1, 1) := by decide +kernel
theorem dX0_numberOfStreet_80 : decode cX0_numberOfStreet 80 = .ok (.invokevirtual 94, 3) := by decide +kernel
theorem dX0_numberOfStreet_83 : decode cX0_numberOfStreet 83 = .ok (.ifCond .eq 7, 3) := by decide +kernel
theorem dX0_numberOfStreet_86 : decode cX0_numberOfStreet 86 = .ok (.iconst 1, 1) := by decide +kernel
theorem dX0_numberOfStreet_87 : decode cX0_numberOfStreet 87 = .ok (.goto 4, 3) := by decide +kernel
theorem dX0_numberOfStreet_90 : decode cX0_numberOfStreet 90 = .ok (.iconst 0, 1) := by decide +kernel
theorem dX0_numberOfStreet_91 : decode cX0_numberOfStreet 91 = .ok (.ireturn, 1) := by decide +kernel
theorem dX0_numberOfStreet_92 : decode cX0_numberOfStreet 92 = .ok (.aload_n 1, 1) := by decide +kernel
theorem dX0_numberOfStreet_93 : decode cX0_numberOfStreet 93 = .ok (.getfield 98, 3) := by decide +kernel
theorem dX0_numberOfStreet_96 : decode cX0_numberOfStreet 96 = .ok (.ireturn, 1) := by decide +kernel
theorem dX0_numberOfStreet_97 : decode cX0_numberOfStreet 97 = .ok (.aload_n 1, 1) := by decide +kernel
theorem dX0_numberOfStreet_98 : decode cX0_numberOfStreet 98 = .ok (.getfield 101, 3) := by decide +kernel
theorem dX0_numberOfStreet_101 : decode cX0_numberOfStreet 101 = .ok (.ireturn, 1) := by decide +kernel
theorem dX0_complaints_0 : decode cX0_complaints 0 = .ok (.iconst 0, 1) := by decide +kernel
theorem dX0_complaints_1 : decode cX0_complaints 1 = .ok (.istore_n 1, 1) := by decide +kernel
theorem dX0_complaints_2 : decode cX0_complaints 2 = .ok (.iconst 0, 1) := by decide +kernel
theorem dX0_complaints_3 : decode cX0_complaints 3 = .ok (.istore_n 2, 1) := by decide +kernel
theorem dX0_complaints_4 : decode cX0_complaints 4 = .ok (.iload_n 2, 1) := by decide +kernel
theorem dX0_complaints_5 : decode cX0_complaints 5 = .ok (.iconst 3, 1) := by decide +kernel
theorem dX0_complaints_6 : decode cX0_complaints 6 = .ok (.if_icmp .ge 21, 3) := by decide +kernel
theorem dX0_complaints_9 : decode cX0_complaints 9 = .ok (.iload_n 1, 1) := by decide +kernel
theorem dX0_complaints_10 : decode cX0_complaints 10 = .ok (.aload_n 0, 1) := by decide +kernel
theorem dX0_complaints_11 : decode cX0_complaints 11 = .ok (.getfield 25, 3) := by decide +kernel
theorem dX0_complaints_14 : decode cX0_complaints 14 = .ok (.iload_n 2, 1) := by decide +kernel
theorem dX0_complaints_15 : decode cX0_complaints 15 = .ok (.aaload, 1) := by decide +kernel
theorem dX0_complaints_16 : decode cX0_complaints 16 = .ok (.getfield 104, 3) := by decide +kernel
theorem dX0_complaints_19 : decode cX0_complaints 19 = .ok (.iadd, 1) := by decide +kernel
theorem dX0_complaints_20 : decode cX0_complaints 20 = .ok (.istore_n 1, 1) := by decide +kernel
theorem dX0_complaints_21 : decode cX0_complaints 21 = .ok (.iinc 2 1, 3) := by decide +kernel
theorem dX0_complaints_24 : decode cX0_complaints 24 = .ok (.goto (-20), 3) := by decide +kernel
theorem dX0_complaints_27 : decode cX0_complaints 27 = .ok (.iload_n 1, 1) := by decide +kernel
theorem dX0_complaints_28 : decode cX0_complaints 28 = .ok (.ireturn, 1) := by decide +kernel
theorem dX0_dueStreets_0 : decode cX0_dueStreets 0 = .ok (.iconst 0, 1) := by decide +kernel
theorem dX0_dueStreets_1 : decode cX0_dueStreets 1 = .ok (.istore_n 1, 1) := by decide +kernel
theorem dX0_dueStreets_2 : decode cX0_dueStreets 2 = .ok (.iconst 0, 1) := by decide +kernel
theorem dX0_dueStreets_3 : decode cX0_dueStreets 3 = .ok (.istore_n 2, 1) := by decide +kernel
theorem dX0_dueStreets_4 : decode cX0_dueStreets 4 = .ok (.iload_n 2, 1) := by decide +kernel
theorem dX0_dueStreets_5 : decode cX0_dueStreets 5 = .ok (.aload_n 0, 1) := by decide +kernel
theorem dX0_dueStreets_6 : decode cX0_dueStreets 6 = .ok (.getfield 44, 3) := by decide +kernel
theorem dX0_dueStreets_9 : decode cX0_dueStreets 9 = .ok (.if_icmp .ge 25, 3) := by decide +kernel
theorem dX0_dueStreets_12 : decode cX0_dueStreets 12 = .ok (.aload_n 0, 1) := by decide +kernel
theorem dX0_dueStreets_13 : decode cX0_dueStreets 13 = .ok (.aload_n 0, 1) := by decide +kernel
theorem dX0_dueStreets_14 : decode cX0_dueStreets 14 = .ok (.getfield 11, 3) := by decide +kernel
theorem dX0_dueStreets_17 : decode cX0_dueStreets 17 = .ok (.iload_n 2, 1) := by decide +kernel
theorem dX0_dueStreets_18 : decode cX0_dueStreets 18 = .ok (.aaload, 1) := by decide +kernel
theorem dX0_dueStreets_19 : decode cX0_dueStreets 19 = .ok (.invokevirtual 94, 3) := by decide +kernel
theorem dX0_dueStreets_22 : decode cX0_dueStreets 22 = .ok (.ifCond .eq 6, 3) := by decide +kernel
theorem dX0_dueStreets_25 : decode cX0_dueStreets 25 = .ok (.iinc 1 1, 3) := by decide +kernel
theorem dX0_dueStreets_28 : decode cX0_dueStreets 28 = .ok (.iinc 2 1, 3) := by decide +kernel
theorem dX0_dueStreets_31 : decode cX0_dueStreets 31 = .ok (.goto (-27), 3) := by decide +kernel
theorem dX0_dueStreets_34 : decode cX0_dueStreets 34 = .ok (.iload_n 1, 1) := by decide +kernel
theorem dX0_dueStreets_35 : decode cX0_dueStreets 35 = .ok (.ireturn, 1) := by decide +kernel
theorem dX0_isDue_0 : decode cX0_isDue 0 = .ok (.aload_n 1, 1) := by decide +kernel
theorem dX0_isDue_1 : decode cX0_isDue 1 = .ok (.getfield 82, 3) := by decide +kernel
theorem dX0_isDue_4 : decode cX0_isDue 4 = .ok (.aload_n 0, 1) := by decide +kernel
theorem dX0_isDue_5 : decode cX0_isDue 5 = .ok (.getfield 25, 3) := by decide +kernel
theorem dX0_isDue_8 : decode cX0_isDue 8 = .ok (.aload_n 1, 1) := by decide +kernel
theorem dX0_isDue_9 : decode cX0_isDue 9 = .ok (.getfield 79, 3) := by decide +kernel
theorem dX0_isDue_12 : decode cX0_isDue 12 = .ok (.aaload, 1) := by decide +kernel
theorem dX0_isDue_13 : decode cX0_isDue 13 = .ok (.getfield 106, 3) := by decide +kernel
theorem dX0_isDue_16 : decode cX0_isDue 16 = .ok (.if_icmp .lt 7, 3) := by decide +kernel
theorem dX0_isDue_19 : decode cX0_isDue 19 = .ok (.iconst 1, 1) := by decide +kernel
theorem dX0_isDue_20 : decode cX0_isDue 20 = .ok (.goto 4, 3) := by decide +kernel
theorem dX0_isDue_23 : decode cX0_isDue 23 = .ok (.iconst 0, 1) := by decide +kernel
theorem dX0_isDue_24 : decode cX0_isDue 24 = .ok (.ireturn, 1) := by decide +kernel
theorem dX0_passHours_0 : decode cX0_passHours 0 = .ok (.aload_n 0, 1) := by decide +kernel
theorem dX0_passHours_1 : decode cX0_passHours 1 = .ok (.getfield 63, 3) := by decide +kernel
theorem dX0_passHours_4 : decode cX0_passHours 4 = .ok (.istore 4, 2) := by decide +kernel
theorem dX0_passHours_6 : decode cX0_passHours 6 = .ok (.iconst 0, 1) := by decide +kernel
theorem dX0_passHours_7 : decode cX0_passHours 7 = .ok (.istore 5, 2) := by decide +kernel
theorem dX0_passHours_9 : decode cX0_passHours 9 = .ok (.iload 5, 2) := by decide +kernel
theorem dX0_passHours_11 : decode cX0_passHours 11 = .ok (.iload_n 3, 1) := by decide +kernel
theorem dX0_passHours_12 : decode cX0_passHours 12 = .ok (.if_icmp .ge 15, 3) := by decide +kernel
theorem dX0_passHours_15 : decode cX0_passHours 15 = .ok (.aload_n 0, 1) := by decide +kernel
theorem dX0_passHours_16 : decode cX0_passHours 16 = .ok (.iload_n 1, 1) := by decide +kernel
theorem dX0_passHours_17 : decode cX0_passHours 17 = .ok (.iload_n 2, 1) := by decide +kernel
theorem dX0_passHours_18 : decode cX0_passHours 18 = .ok (.invokevirtual 109, 3) := by decide +kernel
theorem dX0_passHours_21 : decode cX0_passHours 21 = .ok (.iinc 5 1, 3) := by decide +kernel
theorem dX0_passHours_24 : decode cX0_passHours 24 = .ok (.goto (-15), 3) := by decide +kernel
theorem dX0_passHours_27 : decode cX0_passHours 27 = .ok (.aload_n 0, 1) := by decide +kernel
theorem dX0_passHours_28 : decode cX0_passHours 28 = .ok (.getfield 63, 3) := by decide +kernel
theorem dX0_passHours_31 : decode cX0_passHours 31 = .ok (.iload 4, 2) := by decide +kernel
theorem dX0_passHours_33 : decode cX0_passHours 33 = .ok (.isub, 1) := by decide +kernel
theorem dX0_passHours_34 : decode cX0_passHours 34 = .ok (.ireturn, 1) := by decide +kernel
theorem dX0_passesWithoutComplaint_0 : decode cX0_passesWithoutComplaint 0 = .ok (.aload_n 0, 1) := by decide +kernel
theorem dX0_passesWithoutComplaint_1 : decode cX0_passesWithoutComplaint 1 = .ok (.invokevirtual 69, 3) := by decide +kernel
theorem dX0_passesWithoutComplaint_4 : decode cX0_passesWithoutComplaint 4 = .ok (.istore 4, 2) := by decide +kernel
theorem dX0_passesWithoutComplaint_6 : decode cX0_passesWithoutComplaint 6 = .ok (.iconst 0, 1) := by decide +kernel
theorem dX0_passesWithoutComplaint_7 : decode cX0_passesWithoutComplaint 7 = .ok (.istore 5, 2) := by decide +kernel
theorem dX0_passesWithoutComplaint_9 : decode cX0_passesWithoutComplaint 9 = .ok (.iload 5, 2) := by decide +kernel
theorem dX0_passesWithoutComplaint_11 : decode cX0_passesWithoutComplaint 11 = .ok (.iload_n 3, 1) := by decide +kernel
theorem dX0_passesWithoutComplaint_12 : decode cX0_passesWithoutComplaint 12 = .ok (.if_icmp .ge 24, 3) := by decide +kernel
theorem dX0_passesWithoutComplaint_15 : decode cX0_passesWithoutComplaint 15 = .ok (.aload_n 0, 1) := by decide +kernel
theorem dX0_passesWithoutComplaint_16 : decode cX0_passesWithoutComplaint 16 = .ok (.invokevirtual 69, 3) := by decide +kernel
theorem dX0_passesWithoutComplaint_19 : decode cX0_passesWithoutComplaint 19 = .ok (.iload 4, 2) := by decide +kernel
theorem dX0_passesWithoutComplaint_21 : decode cX0_passesWithoutComplaint 21 = .ok (.if_icmp .ne 15, 3) := by decide +kernel
theorem dX0_passesWithoutComplaint_24 : decode cX0_passesWithoutComplaint 24 = .ok (.aload_n 0, 1) := by decide +kernel
theorem dX0_passesWithoutComplaint_25 : decode cX0_passesWithoutComplaint 25 = .ok (.iload_n 1, 1) := by decide +kernel
theorem dX0_passesWithoutComplaint_26 : decode cX0_passesWithoutComplaint 26 = .ok (.iload_n 2, 1) := by decide +kernel
theorem dX0_passesWithoutComplaint_27 : decode cX0_passesWithoutComplaint 27 = .ok (.invokevirtual 109, 3) := by decide +kernel
theorem dX0_passesWithoutComplaint_30 : decode cX0_passesWithoutComplaint 30 = .ok (.iinc 5 1, 3) := by decide +kernel
theorem dX0_passesWithoutComplaint_33 : decode cX0_passesWithoutComplaint 33 = .ok (.goto (-24), 3) := by decide +kernel
theorem dX0_passesWithoutComplaint_36 : decode cX0_passesWithoutComplaint 36 = .ok (.aload_n 0, 1) := by decide +kernel
theorem dX0_passesWithoutComplaint_37 : decode cX0_passesWithoutComplaint 37 = .ok (.invokevirtual 69, 3) := by decide +kernel
theorem dX0_passesWithoutComplaint_40 : decode cX0_passesWithoutComplaint 40 = .ok (.iload 4, 2) := by decide +kernel
theorem dX0_passesWithoutComplaint_42 : decode cX0_passesWithoutComplaint 42 = .ok (.if_icmp .ne 7, 3) := by decide +kernel
theorem dX0_passesWithoutComplaint_45 : decode cX0_passesWithoutComplaint 45 = .ok (.iconst 1, 1) := by decide +kernel
theorem dX0_passesWithoutComplaint_46 : decode cX0_passesWithoutComplaint 46 = .ok (.goto 4, 3) := by decide +kernel
theorem dX0_passesWithoutComplaint_49 : decode cX0_passesWithoutComplaint 49 = .ok (.iconst 0, 1) := by decide +kernel
theorem dX0_passesWithoutComplaint_50 : decode cX0_passesWithoutComplaint 50 = .ok (.ireturn, 1) := by decide +kernel
theorem dX0_passHour_0 : decode cX0_passHour 0 = .ok (.iconst 0, 1) := by decide +kernel
theorem dX0_passHour_1 : decode cX0_passHour 1 = .ok (.istore_n 3, 1) := by decide +kernel
theorem dX0_passHour_2 : decode cX0_passHour 2 = .ok (.iload_n 3, 1) := by decide +kernel
theorem dX0_passHour_3 : decode cX0_passHour 3 = .ok (.aload_n 0, 1) := by decide +kernel
theorem dX0_passHour_4 : decode cX0_passHour 4 = .ok (.getfield 44, 3) := by decide +kernel
theorem dX0_passHour_7 : decode cX0_passHour 7 = .ok (.if_icmp .ge 20, 3) := by decide +kernel
theorem dX0_passHour_10 : decode cX0_passHour 10 = .ok (.aload_n 0, 1) := by decide +kernel
theorem dX0_passHour_11 : decode cX0_passHour 11 = .ok (.getfield 11, 3) := by decide +kernel
theorem dX0_passHour_14 : decode cX0_passHour 14 = .ok (.iload_n 3, 1) := by decide +kernel
theorem dX0_passHour_15 : decode cX0_passHour 15 = .ok (.aaload, 1) := by decide +kernel
theorem dX0_passHour_16 : decode cX0_passHour 16 = .ok (.iload_n 1, 1) := by decide +kernel
theorem dX0_passHour_17 : decode cX0_passHour 17 = .ok (.iload_n 2, 1) := by decide +kernel
theorem dX0_passHour_18 : decode cX0_passHour 18 = .ok (.invokevirtual 113, 3) := by decide +kernel
theorem dX0_passHour_21 : decode cX0_passHour 21 = .ok (.iinc 3 1, 3) := by decide +kernel
theorem dX0_passHour_24 : decode cX0_passHour 24 = .ok (.goto (-22), 3) := by decide +kernel
theorem dX0_passHour_27 : decode cX0_passHour 27 = .ok (.iconst 0, 1) := by decide +kernel
theorem dX0_passHour_28 : decode cX0_passHour 28 = .ok (.istore_n 3, 1) := by decide +kernel
theorem dX0_passHour_29 : decode cX0_passHour 29 = .ok (.iload_n 3, 1) := by decide +kernel
theorem dX0_passHour_30 : decode cX0_passHour 30 = .ok (.aload_n 0, 1) := by decide +kernel
theorem dX0_passHour_31 : decode cX0_passHour 31 = .ok (.getfield 51, 3) := by decide +kernel
theorem dX0_passHour_34 : decode cX0_passHour 34 = .ok (.if_icmp .ge 31, 3) := by decide +kernel
theorem dX0_passHour_37 : decode cX0_passHour 37 = .ok (.aload_n 0, 1) := by decide +kernel
theorem dX0_passHour_38 : decode cX0_passHour 38 = .ok (.getfield 19, 3) := by decide +kernel
theorem dX0_passHour_41 : decode cX0_passHour 41 = .ok (.iload_n 3, 1) := by decide +kernel
theorem dX0_passHour_42 : decode cX0_passHour 42 = .ok (.aaload, 1) := by decide +kernel
theorem dX0_passHour_43 : decode cX0_passHour 43 = .ok (.getfield 116, 3) := by decide +kernel
theorem dX0_passHour_46 : decode cX0_passHour 46 = .ok (.ifCond .le 13, 3) := by decide +kernel
theorem dX0_passHour_49 : decode cX0_passHour 49 = .ok (.aload_n 0, 1) := by decide +kernel
theorem dX0_passHour_50 : decode cX0_passHour 50 = .ok (.aload_n 0, 1) := by decide +kernel
theorem dX0_passHour_51 : decode cX0_passHour 51 = .ok (.getfield 19, 3) := by decide +kernel
theorem dX0_passHour_54 : decode cX0_passHour 54 = .ok (.iload_n 3, 1) := by decide +kernel
theorem dX0_passHour_55 : decode cX0_passHour 55 = .ok (.aaload, 1) := by decide +kernel
theorem dX0_passHour_56 : decode cX0_passHour 56 = .ok (.invokevirtual 119, 3) := by decide +kernel
theorem dX0_passHour_59 : decode cX0_passHour 59 = .ok (.iinc 3 1, 3) := by decide +kernel
theorem dX0_passHour_62 : decode cX0_passHour 62 = .ok (.goto (-33), 3) := by decide +kernel
theorem dX0_passHour_65 : decode cX0_passHour 65 = .ok (.iconst 0, 1) := by decide +kernel
theorem dX0_passHour_66 : decode cX0_passHour 66 = .ok (.istore_n 3, 1) := by decide +kernel
theorem dX0_passHour_67 : decode cX0_passHour 67 = .ok (.iload_n 3, 1) := by decide +kernel
theorem dX0_passHour_68 : decode cX0_passHour 68 = .ok (.aload_n 0, 1) := by decide +kernel
theorem dX0_passHour_69 : decode cX0_passHour 69 = .ok (.getfield 44, 3) := by decide +kernel
theorem dX0_passHour_72 : decode cX0_passHour 72 = .ok (.if_icmp .ge 19, 3) := by decide +kernel
theorem dX0_passHour_75 : decode cX0_passHour 75 = .ok (.aload_n 0, 1) := by decide +kernel
theorem dX0_passHour_76 : decode cX0_passHour 76 = .ok (.aload_n 0, 1) := by decide +kernel
theorem dX0_passHour_77 : decode cX0_passHour 77 = .ok (.getfield 11, 3) := by decide +kernel
theorem dX0_passHour_80 : decode cX0_passHour 80 = .ok (.iload_n 3, 1) := by decide +kernel
theorem dX0_passHour_81 : decode cX0_passHour 81 = .ok (.aaload, 1) := by decide +kernel
theorem dX0_passHour_82 : decode cX0_passHour 82 = .ok (.invokevirtual 122, 3) := by decide +kernel
theorem dX0_passHour_85 : decode cX0_passHour 85 = .ok (.iinc 3 1, 3) := by decide +kernel
theorem dX0_passHour_88 : decode cX0_passHour 88 = .ok (.goto (-21), 3) := by decide +kernel
theorem dX0_passHour_91 : decode cX0_passHour 91 = .ok (.aload_n 0, 1) := by decide +kernel
theorem dX0_passHour_92 : decode cX0_passHour 92 = .ok (.dup, 1) := by decide +kernel
theorem dX0_passHour_93 : decode cX0_passHour 93 = .ok (.getfield 60, 3) := by decide +kernel
theorem dX0_passHour_96 : decode cX0_passHour 96 = .ok (.iconst 1, 1) := by decide +kernel
theorem dX0_passHour_97 : decode cX0_passHour 97 = .ok (.iadd, 1) := by decide +kernel
theorem dX0_passHour_98 : decode cX0_passHour 98 = .ok (.putfield 60, 3) := by decide +kernel
theorem dX0_passHour_101 : decode cX0_passHour 101 = .ok (.return_, 1) := by decide +kernel
theorem dX0_letWork_0 : decode cX0_letWork 0 = .ok (.aload_n 1, 1) := by decide +kernel
theorem dX0_letWork_1 : decode cX0_letWork 1 = .ok (.invokevirtual 125, 3) := by decide +kernel
theorem dX0_letWork_4 : decode cX0_letWork 4 = .ok (.ifCond .eq 8, 3) := by decide +kernel
theorem dX0_letWork_7 : decode cX0_letWork 7 = .ok (.aload_n 0, 1) := by decide +kernel
theorem dX0_letWork_8 : decode cX0_letWork 8 = .ok (.aload_n 1, 1) := by decide +kernel
theorem dX0_letWork_9 : decode cX0_letWork 9 = .ok (.invokevirtual 129, 3) := by decide +kernel
theorem dX0_letWork_12 : decode cX0_letWork 12 = .ok (.aload_n 1, 1) := by decide +kernel
theorem dX0_letWork_13 : decode cX0_letWork 13 = .ok (.getfield 132, 3) := by decide +kernel
theorem dX0_letWork_16 : decode cX0_letWork 16 = .ok (.istore_n 2, 1) := by decide +kernel
theorem dX0_letWork_17 : decode cX0_letWork 17 = .ok (.iconst 1, 1) := by decide +kernel
theorem dX0_letWork_18 : decode cX0_letWork 18 = .ok (.istore_n 3, 1) := by decide +kernel
theorem dX0_letWork_19 : decode cX0_letWork 19 = .ok (.iconst 0, 1) := by decide +kernel
theorem dX0_letWork_20 : decode cX0_letWork 20 = .ok (.istore 4, 2) := by decide +kernel
theorem dX0_letWork_22 : decode cX0_letWork 22 = .ok (.iload 4, 2) := by decide +kernel
theorem dX0_letWork_24 : decode cX0_letWork 24 = .ok (.bipush 12, 2) := by decide +kernel
theorem dX0_letWork_26 : decode cX0_letWork 26 = .ok (.if_icmp .ge 94, 3) := by decide +kernel
theorem dX0_letWork_29 : decode cX0_letWork 29 = .ok (.iload_n 3, 1) := by decide +kernel
theorem dX0_letWork_30 : decode cX0_letWork 30 = .ok (.ifCond .eq 90, 3) := by decide +kernel
theorem dX0_letWork_33 : decode cX0_letWork 33 = .ok (.iload_n 2, 1) := by decide +kernel
theorem dX0_letWork_34 : decode cX0_letWork 34 = .ok (.ifCond .le 86, 3) := by decide +kernel
theorem dX0_letWork_37 : decode cX0_letWork 37 = .ok (.aload_n 0, 1) := by decide +kernel
theorem dX0_letWork_38 : decode cX0_letWork 38 = .ok (.getfield 11, 3) := by decide +kernel
theorem dX0_letWork_41 : decode cX0_letWork 41 = .ok (.aload_n 1, 1) := by decide +kernel
theorem dX0_letWork_42 : decode cX0_letWork 42 = .ok (.getfield 135, 3) := by decide +kernel
theorem dX0_letWork_45 : decode cX0_letWork 45 = .ok (.aload_n 1, 1) := by decide +kernel
theorem dX0_letWork_46 : decode cX0_letWork 46 = .ok (.getfield 139, 3) := by decide +kernel
theorem dX0_letWork_49 : decode cX0_letWork 49 = .ok (.iaload, 1) := by decide +kernel
theorem dX0_letWork_50 : decode cX0_letWork 50 = .ok (.aaload, 1) := by decide +kernel
theorem dX0_letWork_51 : decode cX0_letWork 51 = .ok (.astore 5, 2) := by decide +kernel
theorem dX0_letWork_53 : decode cX0_letWork 53 = .ok (.aload_n 1, 1) := by decide +kernel
theorem dX0_letWork_54 : decode cX0_letWork 54 = .ok (.getfield 142, 3) := by decide +kernel
theorem dX0_letWork_57 : decode cX0_letWork 57 = .ok (.ifCond .ne 20, 3) := by decide +kernel
theorem dX0_letWork_60 : decode cX0_letWork 60 = .ok (.aload_n 0, 1) := by decide +kernel
theorem dX0_letWork_61 : decode cX0_letWork 61 = .ok (.aload 5, 2) := by decide +kernel
theorem dX0_letWork_63 : decode cX0_letWork 63 = .ok (.invokevirtual 94, 3) := by decide +kernel
theorem dX0_letWork_66 : decode cX0_letWork 66 = .ok (.ifCond .ne 11, 3) := by decide +kernel
theorem dX0_letWork_69 : decode cX0_letWork 69 = .ok (.aload_n 1, 1) := by decide +kernel
theorem dX0_letWork_70 : decode cX0_letWork 70 = .ok (.invokevirtual 145, 3) := by decide +kernel
theorem dX0_letWork_73 : decode cX0_letWork 73 = .ok (.istore_n 3, 1) := by decide +kernel
theorem dX0_letWork_74 : decode cX0_letWork 74 = .ok (.goto 40, 3) := by decide +kernel
theorem dX0_letWork_77 : decode cX0_letWork 77 = .ok (.iload_n 2, 1) := by decide +kernel
theorem dX0_letWork_78 : decode cX0_letWork 78 = .ok (.aload_n 1, 1) := by decide +kernel
theorem dX0_letWork_79 : decode cX0_letWork 79 = .ok (.aload 5, 2) := by decide +kernel
theorem dX0_letWork_81 : decode cX0_letWork 81 = .ok (.getfield 76, 3) := by decide +kernel
theorem dX0_letWork_84 : decode cX0_letWork 84 = .ok (.iload_n 2, 1) := by decide +kernel
theorem dX0_letWork_85 : decode cX0_letWork 85 = .ok (.invokevirtual 148, 3) := by decide +kernel
theorem dX0_letWork_88 : decode cX0_letWork 88 = .ok (.isub, 1) := by decide +kernel
theorem dX0_letWork_89 : decode cX0_letWork 89 = .ok (.istore_n 2, 1) := by decide +kernel
theorem dX0_letWork_90 : decode cX0_letWork 90 = .ok (.aload_n 1, 1) := by decide +kernel
theorem dX0_letWork_91 : decode cX0_letWork 91 = .ok (.getfield 142, 3) := by decide +kernel
theorem dX0_letWork_94 : decode cX0_letWork 94 = .ok (.aload 5, 2) := by decide +kernel
theorem dX0_letWork_96 : decode cX0_letWork 96 = .ok (.getfield 76, 3) := by decide +kernel
theorem dX0_letWork_99 : decode cX0_letWork 99 = .ok (.if_icmp .ne 15, 3) := by decide +kernel
theorem dX0_letWork_102 : decode cX0_letWork 102 = .ok (.aload_n 0, 1) := by decide +kernel
theorem dX0_letWork_103 : decode cX0_letWork 103 = .ok (.aload 5, 2) := by decide +kernel
theorem dX0_letWork_105 : decode cX0_letWork 105 = .ok (.aload_n 1, 1) := by decide +kernel
theorem dX0_letWork_106 : decode cX0_letWork 106 = .ok (.invokevirtual 152, 3) := by decide +kernel
theorem dX0_letWork_109 : decode cX0_letWork 109 = .ok (.aload_n 1, 1) := by decide +kernel
theorem dX0_letWork_110 : decode cX0_letWork 110 = .ok (.invokevirtual 145, 3) := by decide +kernel
theorem dX0_letWork_113 : decode cX0_letWork 113 = .ok (.istore_n 3, 1) := by decide +kernel
theorem dX0_letWork_114 : decode cX0_letWork 114 = .ok (.iinc 4 1, 3) := by decide +kernel
theorem dX0_letWork_117 : decode cX0_letWork 117 = .ok (.goto (-95), 3) := by decide +kernel
theorem dX0_letWork_120 : decode cX0_letWork 120 = .ok (.return_, 1) := by decide +kernel
theorem dX0_fill_0 : decode cX0_fill 0 = .ok (.aload_n 1, 1) := by decide +kernel
theorem dX0_fill_1 : decode cX0_fill 1 = .ok (.getfield 156, 3) := by decide +kernel
theorem dX0_fill_4 : decode cX0_fill 4 = .ok (.aload_n 1, 1) := by decide +kernel
theorem dX0_fill_5 : decode cX0_fill 5 = .ok (.getfield 159, 3) := by decide +kernel
theorem dX0_fill_8 : decode cX0_fill 8 = .ok (.isub, 1) := by decide +kernel
theorem dX0_fill_9 : decode cX0_fill 9 = .ok (.aload_n 0, 1) := by decide +kernel
theorem dX0_fill_10 : decode cX0_fill 10 = .ok (.getfield 29, 3) := by decide +kernel
theorem dX0_fill_13 : decode cX0_fill 13 = .ok (.invokestatic 162, 3) := by decide +kernel
theorem dX0_fill_16 : decode cX0_fill 16 = .ok (.istore_n 2, 1) := by decide +kernel
theorem dX0_fill_17 : decode cX0_fill 17 = .ok (.aload_n 1, 1) := by decide +kernel
theorem dX0_fill_18 : decode cX0_fill 18 = .ok (.dup, 1) := by decide +kernel
theorem dX0_fill_19 : decode cX0_fill 19 = .ok (.getfield 159, 3) := by decide +kernel
theorem dX0_fill_22 : decode cX0_fill 22 = .ok (.iload_n 2, 1) := by decide +kernel
theorem dX0_fill_23 : decode cX0_fill 23 = .ok (.iadd, 1) := by decide +kernel
theorem dX0_fill_24 : decode cX0_fill 24 = .ok (.putfield 159, 3) := by decide +kernel
theorem dX0_fill_27 : decode cX0_fill 27 = .ok (.aload_n 0, 1) := by decide +kernel
theorem dX0_fill_28 : decode cX0_fill 28 = .ok (.dup, 1) := by decide +kernel
theorem dX0_fill_29 : decode cX0_fill 29 = .ok (.getfield 29, 3) := by decide +kernel
theorem dX0_fill_32 : decode cX0_fill 32 = .ok (.iload_n 2, 1) := by decide +kernel
theorem dX0_fill_33 : decode cX0_fill 33 = .ok (.isub, 1) := by decide +kernel
theorem dX0_fill_34 : decode cX0_fill 34 = .ok (.putfield 29, 3) := by decide +kernel
theorem dX0_fill_37 : decode cX0_fill 37 = .ok (.return_, 1) := by decide +kernel
theorem dX0_clear_0 : decode cX0_clear 0 = .ok (.aload_n 1, 1) := by decide +kernel
theorem dX0_clear_1 : decode cX0_clear 1 = .ok (.getfield 76, 3) := by decide +kernel
theorem dX0_clear_4 : decode cX0_clear 4 = .ok (.aload_n 0, 1) := by decide +kernel
theorem dX0_clear_5 : decode cX0_clear 5 = .ok (.getfield 33, 3) := by decide +kernel
theorem dX0_clear_8 : decode cX0_clear 8 = .ok (.imul, 1) := by decide +kernel
theorem dX0_clear_9 : decode cX0_clear 9 = .ok (.sipush 999, 3) := by decide +kernel
theorem dX0_clear_12 : decode cX0_clear 12 = .ok (.iadd, 1) := by decide +kernel
theorem dX0_clear_13 : decode cX0_clear 13 = .ok (.sipush 1000, 3) := by decide +kernel
theorem dX0_clear_16 : decode cX0_clear 16 = .ok (.idiv, 1) := by decide +kernel
theorem dX0_clear_17 : decode cX0_clear 17 = .ok (.istore_n 3, 1) := by decide +kernel
theorem dX0_clear_18 : decode cX0_clear 18 = .ok (.iload_n 3, 1) := by decide +kernel
theorem dX0_clear_19 : decode cX0_clear 19 = .ok (.aload_n 2, 1) := by decide +kernel
theorem dX0_clear_20 : decode cX0_clear 20 = .ok (.getfield 159, 3) := by decide +kernel
theorem dX0_clear_23 : decode cX0_clear 23 = .ok (.invokestatic 162, 3) := by decide +kernel
theorem dX0_clear_26 : decode cX0_clear 26 = .ok (.istore 4, 2) := by decide +kernel
theorem dX0_clear_28 : decode cX0_clear 28 = .ok (.aload_n 2, 1) := by decide +kernel
theorem dX0_clear_29 : decode cX0_clear 29 = .ok (.dup, 1) := by decide +kernel
theorem dX0_clear_30 : decode cX0_clear 30 = .ok (.getfield 159, 3) := by decide +kernel
theorem dX0_clear_33 : decode cX0_clear 33 = .ok (.iload 4, 2) := by decide +kernel
theorem dX0_clear_35 : decode cX0_clear 35 = .ok (.isub, 1) := by decide +kernel
theorem dX0_clear_36 : decode cX0_clear 36 = .ok (.putfield 159, 3) := by decide +kernel
theorem dX0_clear_39 : decode cX0_clear 39 = .ok (.aload_n 0, 1) := by decide +kernel
theorem dX0_clear_40 : decode cX0_clear 40 = .ok (.dup, 1) := by decide +kernel
theorem dX0_clear_41 : decode cX0_clear 41 = .ok (.getfield 66, 3) := by decide +kernel
theorem dX0_clear_44 : decode cX0_clear 44 = .ok (.iload 4, 2) := by decide +kernel
theorem dX0_clear_46 : decode cX0_clear 46 = .ok (.iadd, 1) := by decide +kernel
theorem dX0_clear_47 : decode cX0_clear 47 = .ok (.putfield 66, 3) := by decide +kernel
theorem dX0_clear_50 : decode cX0_clear 50 = .ok (.aload_n 1, 1) := by decide +kernel
theorem dX0_clear_51 : decode cX0_clear 51 = .ok (.aload_n 0, 1) := by decide +kernel
theorem dX0_clear_52 : decode cX0_clear 52 = .ok (.getfield 60, 3) := by decide +kernel
theorem dX0_clear_55 : decode cX0_clear 55 = .ok (.iload 4, 2) := by decide +kernel
theorem dX0_clear_57 : decode cX0_clear 57 = .ok (.iload_n 3, 1) := by decide +kernel
theorem dX0_clear_58 : decode cX0_clear 58 = .ok (.invokevirtual 167, 3) := by decide +kernel
theorem dX0_clear_61 : decode cX0_clear 61 = .ok (.return_, 1) := by decide +kernel
theorem dX0_letWait_0 : decode cX0_letWait 0 = .ok (.aload_n 0, 1) := by decide +kernel
theorem dX0_letWait_1 : decode cX0_letWait 1 = .ok (.aload_n 1, 1) := by decide +kernel
theorem dX0_letWait_2 : decode cX0_letWait 2 = .ok (.invokevirtual 94, 3) := by decide +kernel
theorem dX0_letWait_5 : decode cX0_letWait 5 = .ok (.ifCond .ne 9, 3) := by decide +kernel
theorem dX0_letWait_8 : decode cX0_letWait 8 = .ok (.aload_n 1, 1) := by decide +kernel
theorem dX0_letWait_9 : decode cX0_letWait 9 = .ok (.iconst 0, 1) := by decide +kernel
theorem dX0_letWait_10 : decode cX0_letWait 10 = .ok (.putfield 91, 3) := by decide +kernel
theorem dX0_letWait_13 : decode cX0_letWait 13 = .ok (.return_, 1) := by decide +kernel
theorem dX0_letWait_14 : decode cX0_letWait 14 = .ok (.aload_n 0, 1) := by decide +kernel
theorem dX0_letWait_15 : decode cX0_letWait 15 = .ok (.getfield 25, 3) := by decide +kernel
theorem dX0_letWait_18 : decode cX0_letWait 18 = .ok (.aload_n 1, 1) := by decide +kernel
theorem dX0_letWait_19 : decode cX0_letWait 19 = .ok (.getfield 79, 3) := by decide +kernel
theorem dX0_letWait_22 : decode cX0_letWait 22 = .ok (.aaload, 1) := by decide +kernel
theorem dX0_letWait_23 : decode cX0_letWait 23 = .ok (.astore_n 2, 1) := by decide +kernel
theorem dX0_letWait_24 : decode cX0_letWait 24 = .ok (.aload_n 1, 1) := by decide +kernel
theorem dX0_letWait_25 : decode cX0_letWait 25 = .ok (.dup, 1) := by decide +kernel
theorem dX0_letWait_26 : decode cX0_letWait 26 = .ok (.getfield 91, 3) := by decide +kernel
theorem dX0_letWait_29 : decode cX0_letWait 29 = .ok (.iconst 1, 1) := by decide +kernel
theorem dX0_letWait_30 : decode cX0_letWait 30 = .ok (.iadd, 1) := by decide +kernel
theorem dX0_letWait_31 : decode cX0_letWait 31 = .ok (.putfield 91, 3) := by decide +kernel
theorem dX0_letWait_34 : decode cX0_letWait 34 = .ok (.aload_n 1, 1) := by decide +kernel
theorem dX0_letWait_35 : decode cX0_letWait 35 = .ok (.getfield 91, 3) := by decide +kernel
theorem dX0_letWait_38 : decode cX0_letWait 38 = .ok (.aload_n 2, 1) := by decide +kernel
theorem dX0_letWait_39 : decode cX0_letWait 39 = .ok (.getfield 170, 3) := by decide +kernel
theorem dX0_letWait_42 : decode cX0_letWait 42 = .ok (.if_icmp .le 26, 3) := by decide +kernel
theorem dX0_letWait_45 : decode cX0_letWait 45 = .ok (.aload_n 2, 1) := by decide +kernel
theorem dX0_letWait_46 : decode cX0_letWait 46 = .ok (.dup, 1) := by decide +kernel
theorem dX0_letWait_47 : decode cX0_letWait 47 = .ok (.getfield 104, 3) := by decide +kernel
theorem dX0_letWait_50 : decode cX0_letWait 50 = .ok (.iconst 1, 1) := by decide +kernel
theorem dX0_letWait_51 : decode cX0_letWait 51 = .ok (.iadd, 1) := by decide +kernel
theorem dX0_letWait_52 : decode cX0_letWait 52 = .ok (.putfield 104, 3) := by decide +kernel
theorem dX0_letWait_55 : decode cX0_letWait 55 = .ok (.aload_n 0, 1) := by decide +kernel
theorem dX0_letWait_56 : decode cX0_letWait 56 = .ok (.dup, 1) := by decide +kernel
theorem dX0_letWait_57 : decode cX0_letWait 57 = .ok (.getfield 63, 3) := by decide +kernel
theorem dX0_letWait_60 : decode cX0_letWait 60 = .ok (.aload_n 2, 1) := by decide +kernel
theorem dX0_letWait_61 : decode cX0_letWait 61 = .ok (.getfield 173, 3) := by decide +kernel
theorem dX0_letWait_64 : decode cX0_letWait 64 = .ok (.iadd, 1) := by decide +kernel
theorem dX0_letWait_65 : decode cX0_letWait 65 = .ok (.putfield 63, 3) := by decide +kernel
theorem dX0_letWait_68 : decode cX0_letWait 68 = .ok (.return_, 1) := by decide +kernel
theorem dX1_init_0 : decode cX1_init 0 = .ok (.aload_n 0, 1) := by decide +kernel
theorem dX1_init_1 : decode cX1_init 1 = .ok (.invokespecial 3, 3) := by decide +kernel
theorem dX1_init_4 : decode cX1_init 4 = .ok (.aload_n 0, 1) := by decide +kernel
theorem dX1_init_5 : decode cX1_init 5 = .ok (.bipush 12, 2) := by decide +kernel
theorem dX1_init_7 : decode cX1_init 7 = .ok (.newarray .int, 2) := by decide +kernel
theorem dX1_init_9 : decode cX1_init 9 = .ok (.putfield 9, 3) := by decide +kernel
theorem dX1_init_12 : decode cX1_init 12 = .ok (.return_, 1) := by decide +kernel
theorem dX1_begin_0 : decode cX1_begin 0 = .ok (.aload_n 0, 1) := by decide +kernel
theorem dX1_begin_1 : decode cX1_begin 1 = .ok (.iload_n 1, 1) := by decide +kernel
theorem dX1_begin_2 : decode cX1_begin 2 = .ok (.putfield 15, 3) := by decide +kernel
theorem dX1_begin_5 : decode cX1_begin 5 = .ok (.aload_n 0, 1) := by decide +kernel
theorem dX1_begin_6 : decode cX1_begin 6 = .ok (.iload_n 2, 1) := by decide +kernel
theorem dX1_begin_7 : decode cX1_begin 7 = .ok (.putfield 19, 3) := by decide +kernel
theorem dX1_begin_10 : decode cX1_begin 10 = .ok (.aload_n 0, 1) := by decide +kernel
theorem dX1_begin_11 : decode cX1_begin 11 = .ok (.iconst 0, 1) := by decide +kernel
theorem dX1_begin_12 : decode cX1_begin 12 = .ok (.putfield 22, 3) := by decide +kernel
theorem dX1_begin_15 : decode cX1_begin 15 = .ok (.aload_n 0, 1) := by decide +kernel
theorem dX1_begin_16 : decode cX1_begin 16 = .ok (.iconst 0, 1) := by decide +kernel
theorem dX1_begin_17 : decode cX1_begin 17 = .ok (.putfield 25, 3) := by decide +kernel
theorem dX1_begin_20 : decode cX1_begin 20 = .ok (.aload_n 0, 1) := by decide +kernel
theorem dX1_begin_21 : decode cX1_begin 21 = .ok (.iconst 0, 1) := by decide +kernel
theorem dX1_begin_22 : decode cX1_begin 22 = .ok (.putfield 28, 3) := by decide +kernel
theorem dX1_begin_25 : decode cX1_begin 25 = .ok (.aload_n 0, 1) := by decide +kernel
theorem dX1_begin_26 : decode cX1_begin 26 = .ok (.iconst 0, 1) := by decide +kernel
theorem dX1_begin_27 : decode cX1_begin 27 = .ok (.putfield 31, 3) := by decide +kernel
theorem dX1_begin_30 : decode cX1_begin 30 = .ok (.aload_n 0, 1) := by decide +kernel
theorem dX1_begin_31 : decode cX1_begin 31 = .ok (.iconst 0, 1) := by decide +kernel
theorem dX1_begin_32 : decode cX1_begin 32 = .ok (.putfield 34, 3) := by decide +kernel
theorem dX1_begin_35 : decode cX1_begin 35 = .ok (.aload_n 0, 1) := by decide +kernel
theorem dX1_begin_36 : decode cX1_begin 36 = .ok (.iconst 0, 1) := by decide +kernel
theorem dX1_begin_37 : decode cX1_begin 37 = .ok (.putfield 37, 3) := by decide +kernel
theorem dX1_begin_40 : decode cX1_begin 40 = .ok (.return_, 1) := by decide +kernel
theorem dX1_copyFrom_0 : decode cX1_copyFrom 0 = .ok (.aload_n 0, 1) := by decide +kernel
theorem dX1_copyFrom_1 : decode cX1_copyFrom 1 = .ok (.aload_n 1, 1) := by decide +kernel
theorem dX1_copyFrom_2 : decode cX1_copyFrom 2 = .ok (.getfield 15, 3) := by decide +kernel
theorem dX1_copyFrom_5 : decode cX1_copyFrom 5 = .ok (.putfield 15, 3) := by decide +kernel
theorem dX1_copyFrom_8 : decode cX1_copyFrom 8 = .ok (.aload_n 0, 1) := by decide +kernel
theorem dX1_copyFrom_9 : decode cX1_copyFrom 9 = .ok (.aload_n 1, 1) := by decide +kernel
theorem dX1_copyFrom_10 : decode cX1_copyFrom 10 = .ok (.getfield 19, 3) := by decide +kernel
theorem dX1_copyFrom_13 : decode cX1_copyFrom 13 = .ok (.putfield 19, 3) := by decide +kernel
theorem dX1_copyFrom_16 : decode cX1_copyFrom 16 = .ok (.aload_n 0, 1) := by decide +kernel
theorem dX1_copyFrom_17 : decode cX1_copyFrom 17 = .ok (.aload_n 1, 1) := by decide +kernel
theorem dX1_copyFrom_18 : decode cX1_copyFrom 18 = .ok (.getfield 22, 3) := by decide +kernel
theorem dX1_copyFrom_21 : decode cX1_copyFrom 21 = .ok (.putfield 22, 3) := by decide +kernel
theorem dX1_copyFrom_24 : decode cX1_copyFrom 24 = .ok (.aload_n 1, 1) := by decide +kernel
theorem dX1_copyFrom_25 : decode cX1_copyFrom 25 = .ok (.getfield 9, 3) := by decide +kernel
theorem dX1_copyFrom_28 : decode cX1_copyFrom 28 = .ok (.iconst 0, 1) := by decide +kernel
theorem dX1_copyFrom_29 : decode cX1_copyFrom 29 = .ok (.aload_n 0, 1) := by decide +kernel
theorem dX1_copyFrom_30 : decode cX1_copyFrom 30 = .ok (.getfield 9, 3) := by decide +kernel
theorem dX1_copyFrom_33 : decode cX1_copyFrom 33 = .ok (.iconst 0, 1) := by decide +kernel
theorem dX1_copyFrom_34 : decode cX1_copyFrom 34 = .ok (.bipush 12, 2) := by decide +kernel
theorem dX1_copyFrom_36 : decode cX1_copyFrom 36 = .ok (.invokestatic 40, 3) := by decide +kernel
theorem dX1_copyFrom_39 : decode cX1_copyFrom 39 = .ok (.aload_n 0, 1) := by decide +kernel
theorem dX1_copyFrom_40 : decode cX1_copyFrom 40 = .ok (.aload_n 1, 1) := by decide +kernel
theorem dX1_copyFrom_41 : decode cX1_copyFrom 41 = .ok (.getfield 25, 3) := by decide +kernel
theorem dX1_copyFrom_44 : decode cX1_copyFrom 44 = .ok (.putfield 25, 3) := by decide +kernel
theorem dX1_copyFrom_47 : decode cX1_copyFrom 47 = .ok (.aload_n 0, 1) := by decide +kernel
theorem dX1_copyFrom_48 : decode cX1_copyFrom 48 = .ok (.aload_n 1, 1) := by decide +kernel
theorem dX1_copyFrom_49 : decode cX1_copyFrom 49 = .ok (.getfield 28, 3) := by decide +kernel
theorem dX1_copyFrom_52 : decode cX1_copyFrom 52 = .ok (.putfield 28, 3) := by decide +kernel
theorem dX1_copyFrom_55 : decode cX1_copyFrom 55 = .ok (.aload_n 0, 1) := by decide +kernel
theorem dX1_copyFrom_56 : decode cX1_copyFrom 56 = .ok (.aload_n 1, 1) := by decide +kernel
theorem dX1_copyFrom_57 : decode cX1_copyFrom 57 = .ok (.getfield 31, 3) := by decide +kernel
theorem dX1_copyFrom_60 : decode cX1_copyFrom 60 = .ok (.putfield 31, 3) := by decide +kernel
theorem dX1_copyFrom_63 : decode cX1_copyFrom 63 = .ok (.aload_n 0, 1) := by decide +kernel
theorem dX1_copyFrom_64 : decode cX1_copyFrom 64 = .ok (.aload_n 1, 1) := by decide +kernel
theorem dX1_copyFrom_65 : decode cX1_copyFrom 65 = .ok (.getfield 34, 3) := by decide +kernel
theorem dX1_copyFrom_68 : decode cX1_copyFrom 68 = .ok (.putfield 34, 3) := by decide +kernel
theorem dX1_copyFrom_71 : decode cX1_copyFrom 71 = .ok (.aload_n 0, 1) := by decide +kernel
theorem dX1_copyFrom_72 : decode cX1_copyFrom 72 = .ok (.aload_n 1, 1) := by decide +kernel
theorem dX1_copyFrom_73 : decode cX1_copyFrom 73 = .ok (.getfield 37, 3) := by decide +kernel
theorem dX1_copyFrom_76 : decode cX1_copyFrom 76 = .ok (.putfield 37, 3) := by decide +kernel
theorem dX1_copyFrom_79 : decode cX1_copyFrom 79 = .ok (.return_, 1) := by decide +kernel
theorem dX1_number_0 : decode cX1_number 0 = .ok (.iload_n 1, 1) := by decide +kernel
theorem dX1_number_1 : decode cX1_number 1 = .ok (.tableswitch 78 0 6 #[43, 48, 53, 58, 63, 68, 73], 43) := by decide +kernel
theorem dX1_number_44 : decode cX1_number 44 = .ok (.aload_n 0, 1) := by decide +kernel
theorem dX1_number_45 : decode cX1_number 45 = .ok (.getfield 15, 3) := by decide +kernel
theorem dX1_number_48 : decode cX1_number 48 = .ok (.ireturn, 1) := by decide +kernel
theorem dX1_number_49 : decode cX1_number 49 = .ok (.aload_n 0, 1) := by decide +kernel
theorem dX1_number_50 : decode cX1_number 50 = .ok (.getfield 19, 3) := by decide +kernel
theorem dX1_number_53 : decode cX1_number 53 = .ok (.ireturn, 1) := by decide +kernel
theorem dX1_number_54 : decode cX1_number 54 = .ok (.aload_n 0, 1) := by decide +kernel
theorem dX1_number_55 : decode cX1_number 55 = .ok (.getfield 22, 3) := by decide +kernel
theorem dX1_number_58 : decode cX1_number 58 = .ok (.ireturn, 1) := by decide +kernel
theorem dX1_number_59 : decode cX1_number 59 = .ok (.aload_n 0, 1) := by decide +kernel
theorem dX1_number_60 : decode cX1_number 60 = .ok (.getfield 25, 3) := by decide +kernel
theorem dX1_number_63 : decode cX1_number 63 = .ok (.ireturn, 1) := by decide +kernel
theorem dX1_number_64 : decode cX1_number 64 = .ok (.aload_n 0, 1) := by decide +kernel
theorem dX1_number_65 : decode cX1_number 65 = .ok (.getfield 28, 3) := by decide +kernel
theorem dX1_number_68 : decode cX1_number 68 = .ok (.ireturn, 1) := by decide +kernel
theorem dX1_number_69 : decode cX1_number 69 = .ok (.aload_n 0, 1) := by decide +kernel
theorem dX1_number_70 : decode cX1_number 70 = .ok (.getfield 31, 3) := by decide +kernel
theorem dX1_number_73 : decode cX1_number 73 = .ok (.ireturn, 1) := by decide +kernel
theorem dX1_number_74 : decode cX1_number 74 = .ok (.aload_n 0, 1) := by decide +kernel
theorem dX1_number_75 : decode cX1_number 75 = .ok (.getfield 34, 3) := by decide +kernel
theorem dX1_number_78 : decode cX1_number 78 = .ok (.ireturn, 1) := by decide +kernel
theorem dX1_number_79 : decode cX1_number 79 = .ok (.aload_n 0, 1) := by decide +kernel
theorem dX1_number_80 : decode cX1_number 80 = .ok (.getfield 37, 3) := by decide +kernel
theorem dX1_number_83 : decode cX1_number 83 = .ok (.ireturn, 1) := by decide +kernel
theorem dX1_forgetRoute_0 : decode cX1_forgetRoute 0 = .ok (.aload_n 0, 1) := by decide +kernel
theorem dX1_forgetRoute_1 : decode cX1_forgetRoute 1 = .ok (.getfield 25, 3) := by decide +kernel
theorem dX1_forgetRoute_4 : decode cX1_forgetRoute 4 = .ok (.istore_n 1, 1) := by decide +kernel
theorem dX1_forgetRoute_5 : decode cX1_forgetRoute 5 = .ok (.aload_n 0, 1) := by decide +kernel
theorem dX1_forgetRoute_6 : decode cX1_forgetRoute 6 = .ok (.iconst 0, 1) := by decide +kernel
theorem dX1_forgetRoute_7 : decode cX1_forgetRoute 7 = .ok (.putfield 25, 3) := by decide +kernel
theorem dX1_forgetRoute_10 : decode cX1_forgetRoute 10 = .ok (.aload_n 0, 1) := by decide +kernel
theorem dX1_forgetRoute_11 : decode cX1_forgetRoute 11 = .ok (.iconst 0, 1) := by decide +kernel
theorem dX1_forgetRoute_12 : decode cX1_forgetRoute 12 = .ok (.putfield 28, 3) := by decide +kernel
theorem dX1_forgetRoute_15 : decode cX1_forgetRoute 15 = .ok (.aload_n 0, 1) := by decide +kernel
theorem dX1_forgetRoute_16 : decode cX1_forgetRoute 16 = .ok (.iconst 0, 1) := by decide +kernel
theorem dX1_forgetRoute_17 : decode cX1_forgetRoute 17 = .ok (.putfield 31, 3) := by decide +kernel
theorem dX1_forgetRoute_20 : decode cX1_forgetRoute 20 = .ok (.iload_n 1, 1) := by decide +kernel
theorem dX1_forgetRoute_21 : decode cX1_forgetRoute 21 = .ok (.ireturn, 1) := by decide +kernel
theorem dX1_isBusyAtPair_0 : decode cX1_isBusyAtPair 0 = .ok (.aload_n 0, 1) := by decide +kernel
theorem dX1_isBusyAtPair_1 : decode cX1_isBusyAtPair 1 = .ok (.getfield 31, 3) := by decide +kernel
theorem dX1_isBusyAtPair_4 : decode cX1_isBusyAtPair 4 = .ok (.ifCond .le 25, 3) := by decide +kernel
theorem dX1_isBusyAtPair_7 : decode cX1_isBusyAtPair 7 = .ok (.aload_n 0, 1) := by decide +kernel
theorem dX1_isBusyAtPair_8 : decode cX1_isBusyAtPair 8 = .ok (.getfield 28, 3) := by decide +kernel
theorem dX1_isBusyAtPair_11 : decode cX1_isBusyAtPair 11 = .ok (.iload_n 1, 1) := by decide +kernel
theorem dX1_isBusyAtPair_12 : decode cX1_isBusyAtPair 12 = .ok (.if_icmp .eq 13, 3) := by decide +kernel
theorem dX1_isBusyAtPair_15 : decode cX1_isBusyAtPair 15 = .ok (.aload_n 0, 1) := by decide +kernel
theorem dX1_isBusyAtPair_16 : decode cX1_isBusyAtPair 16 = .ok (.getfield 28, 3) := by decide +kernel
theorem dX1_isBusyAtPair_19 : decode cX1_isBusyAtPair 19 = .ok (.iload_n 1, 1) := by decide +kernel
theorem dX1_isBusyAtPair_20 : decode cX1_isBusyAtPair 20 = .ok (.iconst 1, 1) := by decide +kernel
theorem dX1_isBusyAtPair_21 : decode cX1_isBusyAtPair 21 = .ok (.iadd, 1) := by decide +kernel
theorem dX1_isBusyAtPair_22 : decode cX1_isBusyAtPair 22 = .ok (.if_icmp .ne 7, 3) := by decide +kernel
theorem dX1_isBusyAtPair_25 : decode cX1_isBusyAtPair 25 = .ok (.iconst 1, 1) := by decide +kernel
theorem dX1_isBusyAtPair_26 : decode cX1_isBusyAtPair 26 = .ok (.goto 4, 3) := by decide +kernel
theorem dX1_isBusyAtPair_29 : decode cX1_isBusyAtPair 29 = .ok (.iconst 0, 1) := by decide +kernel
theorem dX1_isBusyAtPair_30 : decode cX1_isBusyAtPair 30 = .ok (.ireturn, 1) := by decide +kernel
theorem dX1_swapWithNext_0 : decode cX1_swapWithNext 0 = .ok (.aload_n 0, 1) := by decide +kernel
theorem dX1_swapWithNext_1 : decode cX1_swapWithNext 1 = .ok (.getfield 9, 3) := by decide +kernel
theorem dX1_swapWithNext_4 : decode cX1_swapWithNext 4 = .ok (.iload_n 1, 1) := by decide +kernel
theorem dX1_swapWithNext_5 : decode cX1_swapWithNext 5 = .ok (.iaload, 1) := by decide +kernel
theorem dX1_swapWithNext_6 : decode cX1_swapWithNext 6 = .ok (.istore_n 2, 1) := by decide +kernel
theorem dX1_swapWithNext_7 : decode cX1_swapWithNext 7 = .ok (.aload_n 0, 1) := by decide +kernel
theorem dX1_swapWithNext_8 : decode cX1_swapWithNext 8 = .ok (.getfield 9, 3) := by decide +kernel
theorem dX1_swapWithNext_11 : decode cX1_swapWithNext 11 = .ok (.iload_n 1, 1) := by decide +kernel
theorem dX1_swapWithNext_12 : decode cX1_swapWithNext 12 = .ok (.aload_n 0, 1) := by decide +kernel
theorem dX1_swapWithNext_13 : decode cX1_swapWithNext 13 = .ok (.getfield 9, 3) := by decide +kernel
theorem dX1_swapWithNext_16 : decode cX1_swapWithNext 16 = .ok (.iload_n 1, 1) := by decide +kernel
theorem dX1_swapWithNext_17 : decode cX1_swapWithNext 17 = .ok (.iconst 1, 1) := by decide +kernel
theorem dX1_swapWithNext_18 : decode cX1_swapWithNext 18 = .ok (.iadd, 1) := by decide +kernel
theorem dX1_swapWithNext_19 : decode cX1_swapWithNext 19 = .ok (.iaload, 1) := by decide +kernel
theorem dX1_swapWithNext_20 : decode cX1_swapWithNext 20 = .ok (.iastore, 1) := by decide +kernel
theorem dX1_swapWithNext_21 : decode cX1_swapWithNext 21 = .ok (.aload_n 0, 1) := by decide +kernel
theorem dX1_swapWithNext_22 : decode cX1_swapWithNext 22 = .ok (.getfield 9, 3) := by decide +kernel
theorem dX1_swapWithNext_25 : decode cX1_swapWithNext 25 = .ok (.iload_n 1, 1) := by decide +kernel
theorem dX1_swapWithNext_26 : decode cX1_swapWithNext 26 = .ok (.iconst 1, 1) := by decide +kernel
theorem dX1_swapWithNext_27 : decode cX1_swapWithNext 27 = .ok (.iadd, 1) := by decide +kernel
theorem dX1_swapWithNext_28 : decode cX1_swapWithNext 28 = .ok (.iload_n 2, 1) := by decide +kernel
theorem dX1_swapWithNext_29 : decode cX1_swapWithNext 29 = .ok (.iastore, 1) := by decide +kernel
theorem dX1_swapWithNext_30 : decode cX1_swapWithNext 30 = .ok (.return_, 1) := by decide +kernel
theorem dX1_isAtStart_0 : decode cX1_isAtStart 0 = .ok (.aload_n 0, 1) := by decide +kernel
theorem dX1_isAtStart_1 : decode cX1_isAtStart 1 = .ok (.getfield 28, 3) := by decide +kernel
theorem dX1_isAtStart_4 : decode cX1_isAtStart 4 = .ok (.ifCond .ne 14, 3) := by decide +kernel
theorem dX1_isAtStart_7 : decode cX1_isAtStart 7 = .ok (.aload_n 0, 1) := by decide +kernel
theorem dX1_isAtStart_8 : decode cX1_isAtStart 8 = .ok (.getfield 31, 3) := by decide +kernel
theorem dX1_isAtStart_11 : decode cX1_isAtStart 11 = .ok (.ifCond .ne 7, 3) := by decide +kernel
theorem dX1_isAtStart_14 : decode cX1_isAtStart 14 = .ok (.iconst 1, 1) := by decide +kernel
theorem dX1_isAtStart_15 : decode cX1_isAtStart 15 = .ok (.goto 4, 3) := by decide +kernel
theorem dX1_isAtStart_18 : decode cX1_isAtStart 18 = .ok (.iconst 0, 1) := by decide +kernel
theorem dX1_isAtStart_19 : decode cX1_isAtStart 19 = .ok (.ireturn, 1) := by decide +kernel
theorem dX1_plowOn_0 : decode cX1_plowOn 0 = .ok (.iload_n 2, 1) := by decide +kernel
theorem dX1_plowOn_1 : decode cX1_plowOn 1 = .ok (.iload_n 1, 1) := by decide +kernel
theorem dX1_plowOn_2 : decode cX1_plowOn 2 = .ok (.aload_n 0, 1) := by decide +kernel
theorem dX1_plowOn_3 : decode cX1_plowOn 3 = .ok (.getfield 31, 3) := by decide +kernel
theorem dX1_plowOn_6 : decode cX1_plowOn 6 = .ok (.isub, 1) := by decide +kernel
theorem dX1_plowOn_7 : decode cX1_plowOn 7 = .ok (.invokestatic 46, 3) := by decide +kernel
theorem dX1_plowOn_10 : decode cX1_plowOn 10 = .ok (.istore_n 3, 1) := by decide +kernel
theorem dX1_plowOn_11 : decode cX1_plowOn 11 = .ok (.aload_n 0, 1) := by decide +kernel
theorem dX1_plowOn_12 : decode cX1_plowOn 12 = .ok (.dup, 1) := by decide +kernel
theorem dX1_plowOn_13 : decode cX1_plowOn 13 = .ok (.getfield 31, 3) := by decide +kernel
theorem dX1_plowOn_16 : decode cX1_plowOn 16 = .ok (.iload_n 3, 1) := by decide +kernel
theorem dX1_plowOn_17 : decode cX1_plowOn 17 = .ok (.iadd, 1) := by decide +kernel
theorem dX1_plowOn_18 : decode cX1_plowOn 18 = .ok (.putfield 31, 3) := by decide +kernel
theorem dX1_plowOn_21 : decode cX1_plowOn 21 = .ok (.aload_n 0, 1) := by decide +kernel
theorem dX1_plowOn_22 : decode cX1_plowOn 22 = .ok (.dup, 1) := by decide +kernel
theorem dX1_plowOn_23 : decode cX1_plowOn 23 = .ok (.getfield 37, 3) := by decide +kernel
theorem dX1_plowOn_26 : decode cX1_plowOn 26 = .ok (.iload_n 3, 1) := by decide +kernel
theorem dX1_plowOn_27 : decode cX1_plowOn 27 = .ok (.iadd, 1) := by decide +kernel
theorem dX1_plowOn_28 : decode cX1_plowOn 28 = .ok (.putfield 37, 3) := by decide +kernel
theorem dX1_plowOn_31 : decode cX1_plowOn 31 = .ok (.iload_n 3, 1) := by decide +kernel
theorem dX1_plowOn_32 : decode cX1_plowOn 32 = .ok (.ireturn, 1) := by decide +kernel
theorem dX1_goOn_0 : decode cX1_goOn 0 = .ok (.aload_n 0, 1) := by decide +kernel
theorem dX1_goOn_1 : decode cX1_goOn 1 = .ok (.iconst 0, 1) := by decide +kernel
theorem dX1_goOn_2 : decode cX1_goOn 2 = .ok (.putfield 31, 3) := by decide +kernel
theorem dX1_goOn_5 : decode cX1_goOn 5 = .ok (.aload_n 0, 1) := by decide +kernel
theorem dX1_goOn_6 : decode cX1_goOn 6 = .ok (.dup, 1) := by decide +kernel
theorem dX1_goOn_7 : decode cX1_goOn 7 = .ok (.getfield 28, 3) := by decide +kernel
theorem dX1_goOn_10 : decode cX1_goOn 10 = .ok (.iconst 1, 1) := by decide +kernel
theorem dX1_goOn_11 : decode cX1_goOn 11 = .ok (.iadd, 1) := by decide +kernel
theorem dX1_goOn_12 : decode cX1_goOn 12 = .ok (.putfield 28, 3) := by decide +kernel
theorem dX1_goOn_15 : decode cX1_goOn 15 = .ok (.aload_n 0, 1) := by decide +kernel
theorem dX1_goOn_16 : decode cX1_goOn 16 = .ok (.getfield 28, 3) := by decide +kernel
theorem dX1_goOn_19 : decode cX1_goOn 19 = .ok (.aload_n 0, 1) := by decide +kernel
theorem dX1_goOn_20 : decode cX1_goOn 20 = .ok (.getfield 25, 3) := by decide +kernel
theorem dX1_goOn_23 : decode cX1_goOn 23 = .ok (.if_icmp .ge 5, 3) := by decide +kernel
theorem dX1_goOn_26 : decode cX1_goOn 26 = .ok (.iconst 1, 1) := by decide +kernel
theorem dX1_goOn_27 : decode cX1_goOn 27 = .ok (.ireturn, 1) := by decide +kernel
theorem dX1_goOn_28 : decode cX1_goOn 28 = .ok (.aload_n 0, 1) := by decide +kernel
theorem dX1_goOn_29 : decode cX1_goOn 29 = .ok (.iconst 0, 1) := by decide +kernel
theorem dX1_goOn_30 : decode cX1_goOn 30 = .ok (.putfield 28, 3) := by decide +kernel
theorem dX1_goOn_33 : decode cX1_goOn 33 = .ok (.aload_n 0, 1) := by decide +kernel
theorem dX1_goOn_34 : decode cX1_goOn 34 = .ok (.dup, 1) := by decide +kernel
theorem dX1_goOn_35 : decode cX1_goOn 35 = .ok (.getfield 34, 3) := by decide +kernel
theorem dX1_goOn_38 : decode cX1_goOn 38 = .ok (.iconst 1, 1) := by decide +kernel
theorem dX1_goOn_39 : decode cX1_goOn 39 = .ok (.iadd, 1) := by decide +kernel
theorem dX1_goOn_40 : decode cX1_goOn 40 = .ok (.putfield 34, 3) := by decide +kernel
theorem dX1_goOn_43 : decode cX1_goOn 43 = .ok (.iconst 0, 1) := by decide +kernel
theorem dX1_goOn_44 : decode cX1_goOn 44 = .ok (.ireturn, 1) := by decide +kernel
theorem dX2_init_0 : decode cX2_init 0 = .ok (.aload_n 0, 1) := by decide +kernel
theorem dX2_init_1 : decode cX2_init 1 = .ok (.invokespecial 3, 3) := by decide +kernel
theorem dX2_init_4 : decode cX2_init 4 = .ok (.aload_n 0, 1) := by decide +kernel
theorem dX2_init_5 : decode cX2_init 5 = .ok (.iconst 4, 1) := by decide +kernel
theorem dX2_init_6 : decode cX2_init 6 = .ok (.anewarray 9, 3) := by decide +kernel
theorem dX2_init_9 : decode cX2_init 9 = .ok (.putfield 11, 3) := by decide +kernel
theorem dX2_init_12 : decode cX2_init 12 = .ok (.iconst 0, 1) := by decide +kernel
theorem dX2_init_13 : decode cX2_init 13 = .ok (.istore_n 1, 1) := by decide +kernel
theorem dX2_init_14 : decode cX2_init 14 = .ok (.iload_n 1, 1) := by decide +kernel
theorem dX2_init_15 : decode cX2_init 15 = .ok (.iconst 4, 1) := by decide +kernel
theorem dX2_init_16 : decode cX2_init 16 = .ok (.if_icmp .ge 22, 3) := by decide +kernel
theorem dX2_init_19 : decode cX2_init 19 = .ok (.aload_n 0, 1) := by decide +kernel
theorem dX2_init_20 : decode cX2_init 20 = .ok (.getfield 11, 3) := by decide +kernel
theorem dX2_init_23 : decode cX2_init 23 = .ok (.iload_n 1, 1) := by decide +kernel
theorem dX2_init_24 : decode cX2_init 24 = .ok (.new 9, 3) := by decide +kernel
theorem dX2_init_27 : decode cX2_init 27 = .ok (.dup, 1) := by decide +kernel
theorem dX2_init_28 : decode cX2_init 28 = .ok (.invokespecial 17, 3) := by decide +kernel
theorem dX2_init_31 : decode cX2_init 31 = .ok (.aastore, 1) := by decide +kernel
theorem dX2_init_32 : decode cX2_init 32 = .ok (.iinc 1 1, 3) := by decide +kernel
theorem dX2_init_35 : decode cX2_init 35 = .ok (.goto (-21), 3) := by decide +kernel
theorem dX2_init_38 : decode cX2_init 38 = .ok (.return_, 1) := by decide +kernel
theorem dX2_save_0 : decode cX2_save 0 = .ok (.aload_n 0, 1) := by decide +kernel
theorem dX2_save_1 : decode cX2_save 1 = .ok (.getfield 18, 3) := by decide +kernel
theorem dX2_save_4 : decode cX2_save 4 = .ok (.iconst 4, 1) := by decide +kernel
theorem dX2_save_5 : decode cX2_save 5 = .ok (.if_icmp .lt 7, 3) := by decide +kernel
theorem dX2_save_8 : decode cX2_save 8 = .ok (.aload_n 0, 1) := by decide +kernel
theorem dX2_save_9 : decode cX2_save 9 = .ok (.invokevirtual 22, 3) := by decide +kernel
theorem dX2_save_12 : decode cX2_save 12 = .ok (.aload_n 0, 1) := by decide +kernel
theorem dX2_save_13 : decode cX2_save 13 = .ok (.getfield 11, 3) := by decide +kernel
theorem dX2_save_16 : decode cX2_save 16 = .ok (.aload_n 0, 1) := by decide +kernel
theorem dX2_save_17 : decode cX2_save 17 = .ok (.getfield 18, 3) := by decide +kernel
theorem dX2_save_20 : decode cX2_save 20 = .ok (.aaload, 1) := by decide +kernel
theorem dX2_save_21 : decode cX2_save 21 = .ok (.aload_n 1, 1) := by decide +kernel
theorem dX2_save_22 : decode cX2_save 22 = .ok (.invokevirtual 25, 3) := by decide +kernel
theorem dX2_save_25 : decode cX2_save 25 = .ok (.aload_n 0, 1) := by decide +kernel
theorem dX2_save_26 : decode cX2_save 26 = .ok (.dup, 1) := by decide +kernel
theorem dX2_save_27 : decode cX2_save 27 = .ok (.getfield 18, 3) := by decide +kernel
theorem dX2_save_30 : decode cX2_save 30 = .ok (.iconst 1, 1) := by decide +kernel
theorem dX2_save_31 : decode cX2_save 31 = .ok (.iadd, 1) := by decide +kernel
theorem dX2_save_32 : decode cX2_save 32 = .ok (.putfield 18, 3) := by decide +kernel
theorem dX2_save_35 : decode cX2_save 35 = .ok (.return_, 1) := by decide +kernel
theorem dX2_dropOldest_0 : decode cX2_dropOldest 0 = .ok (.aload_n 0, 1) := by decide +kernel
theorem dX2_dropOldest_1 : decode cX2_dropOldest 1 = .ok (.getfield 11, 3) := by decide +kernel
theorem dX2_dropOldest_4 : decode cX2_dropOldest 4 = .ok (.iconst 0, 1) := by decide +kernel
theorem dX2_dropOldest_5 : decode cX2_dropOldest 5 = .ok (.aaload, 1) := by decide +kernel
theorem dX2_dropOldest_6 : decode cX2_dropOldest 6 = .ok (.astore_n 1, 1) := by decide +kernel
theorem dX2_dropOldest_7 : decode cX2_dropOldest 7 = .ok (.iconst 1, 1) := by decide +kernel
theorem dX2_dropOldest_8 : decode cX2_dropOldest 8 = .ok (.istore_n 2, 1) := by decide +kernel
theorem dX2_dropOldest_9 : decode cX2_dropOldest 9 = .ok (.iload_n 2, 1) := by decide +kernel
theorem dX2_dropOldest_10 : decode cX2_dropOldest 10 = .ok (.iconst 4, 1) := by decide +kernel
theorem dX2_dropOldest_11 : decode cX2_dropOldest 11 = .ok (.if_icmp .ge 23, 3) := by decide +kernel
theorem dX2_dropOldest_14 : decode cX2_dropOldest 14 = .ok (.aload_n 0, 1) := by decide +kernel
theorem dX2_dropOldest_15 : decode cX2_dropOldest 15 = .ok (.getfield 11, 3) := by decide +kernel
theorem dX2_dropOldest_18 : decode cX2_dropOldest 18 = .ok (.iload_n 2, 1) := by decide +kernel
theorem dX2_dropOldest_19 : decode cX2_dropOldest 19 = .ok (.iconst 1, 1) := by decide +kernel
theorem dX2_dropOldest_20 : decode cX2_dropOldest 20 = .ok (.isub, 1) := by decide +kernel
theorem dX2_dropOldest_21 : decode cX2_dropOldest 21 = .ok (.aload_n 0, 1) := by decide +kernel
theorem dX2_dropOldest_22 : decode cX2_dropOldest 22 = .ok (.getfield 11, 3) := by decide +kernel
theorem dX2_dropOldest_25 : decode cX2_dropOldest 25 = .ok (.iload_n 2, 1) := by decide +kernel
theorem dX2_dropOldest_26 : decode cX2_dropOldest 26 = .ok (.aaload, 1) := by decide +kernel
theorem dX2_dropOldest_27 : decode cX2_dropOldest 27 = .ok (.aastore, 1) := by decide +kernel
theorem dX2_dropOldest_28 : decode cX2_dropOldest 28 = .ok (.iinc 2 1, 3) := by decide +kernel
theorem dX2_dropOldest_31 : decode cX2_dropOldest 31 = .ok (.goto (-22), 3) := by decide +kernel
theorem dX2_dropOldest_34 : decode cX2_dropOldest 34 = .ok (.aload_n 0, 1) := by decide +kernel
theorem dX2_dropOldest_35 : decode cX2_dropOldest 35 = .ok (.getfield 11, 3) := by decide +kernel
theorem dX2_dropOldest_38 : decode cX2_dropOldest 38 = .ok (.iconst 3, 1) := by decide +kernel
theorem dX2_dropOldest_39 : decode cX2_dropOldest 39 = .ok (.aload_n 1, 1) := by decide +kernel
theorem dX2_dropOldest_40 : decode cX2_dropOldest 40 = .ok (.aastore, 1) := by decide +kernel
theorem dX2_dropOldest_41 : decode cX2_dropOldest 41 = .ok (.aload_n 0, 1) := by decide +kernel
theorem dX2_dropOldest_42 : decode cX2_dropOldest 42 = .ok (.iconst 3, 1) := by decide +kernel
theorem dX2_dropOldest_43 : decode cX2_dropOldest 43 = .ok (.putfield 18, 3) := by decide +kernel
theorem dX2_dropOldest_46 : decode cX2_dropOldest 46 = .ok (.return_, 1) := by decide +kernel
theorem dX2_restore_0 : decode cX2_restore 0 = .ok (.aload_n 0, 1) := by decide +kernel
theorem dX2_restore_1 : decode cX2_restore 1 = .ok (.dup, 1) := by decide +kernel
theorem dX2_restore_2 : decode cX2_restore 2 = .ok (.getfield 18, 3) := by decide +kernel
theorem dX2_restore_5 : decode cX2_restore 5 = .ok (.iconst 1, 1) := by decide +kernel
theorem dX2_restore_6 : decode cX2_restore 6 = .ok (.isub, 1) := by decide +kernel
theorem dX2_restore_7 : decode cX2_restore 7 = .ok (.putfield 18, 3) := by decide +kernel
theorem dX2_restore_10 : decode cX2_restore 10 = .ok (.aload_n 1, 1) := by decide +kernel
theorem dX2_restore_11 : decode cX2_restore 11 = .ok (.aload_n 0, 1) := by decide +kernel
theorem dX2_restore_12 : decode cX2_restore 12 = .ok (.getfield 11, 3) := by decide +kernel
theorem dX2_restore_15 : decode cX2_restore 15 = .ok (.aload_n 0, 1) := by decide +kernel
theorem dX2_restore_16 : decode cX2_restore 16 = .ok (.getfield 18, 3) := by decide +kernel
theorem dX2_restore_19 : decode cX2_restore 19 = .ok (.aaload, 1) := by decide +kernel
theorem dX2_restore_20 : decode cX2_restore 20 = .ok (.invokevirtual 25, 3) := by decide +kernel
theorem dX2_restore_23 : decode cX2_restore 23 = .ok (.return_, 1) := by decide +kernel
theorem dX3_init_0 : decode cX3_init 0 = .ok (.aload_n 0, 1) := by decide +kernel
theorem dX3_init_1 : decode cX3_init 1 = .ok (.invokespecial 3, 3) := by decide +kernel
theorem dX3_init_4 : decode cX3_init 4 = .ok (.return_, 1) := by decide +kernel
theorem dX3_begin_0 : decode cX3_begin 0 = .ok (.aload_n 0, 1) := by decide +kernel
theorem dX3_begin_1 : decode cX3_begin 1 = .ok (.iload_n 1, 1) := by decide +kernel
theorem dX3_begin_2 : decode cX3_begin 2 = .ok (.putfield 9, 3) := by decide +kernel
theorem dX3_begin_5 : decode cX3_begin 5 = .ok (.aload_n 0, 1) := by decide +kernel
theorem dX3_begin_6 : decode cX3_begin 6 = .ok (.iload_n 2, 1) := by decide +kernel
theorem dX3_begin_7 : decode cX3_begin 7 = .ok (.putfield 15, 3) := by decide +kernel
theorem dX3_begin_10 : decode cX3_begin 10 = .ok (.aload_n 0, 1) := by decide +kernel
theorem dX3_begin_11 : decode cX3_begin 11 = .ok (.iconst 0, 1) := by decide +kernel
theorem dX3_begin_12 : decode cX3_begin 12 = .ok (.putfield 18, 3) := by decide +kernel
theorem dX3_begin_15 : decode cX3_begin 15 = .ok (.aload_n 0, 1) := by decide +kernel
theorem dX3_begin_16 : decode cX3_begin 16 = .ok (.iconst 0, 1) := by decide +kernel
theorem dX3_begin_17 : decode cX3_begin 17 = .ok (.putfield 21, 3) := by decide +kernel
theorem dX3_begin_20 : decode cX3_begin 20 = .ok (.aload_n 0, 1) := by decide +kernel
theorem dX3_begin_21 : decode cX3_begin 21 = .ok (.iconst 0, 1) := by decide +kernel
theorem dX3_begin_22 : decode cX3_begin 22 = .ok (.putfield 24, 3) := by decide +kernel
theorem dX3_begin_25 : decode cX3_begin 25 = .ok (.aload_n 0, 1) := by decide +kernel
theorem dX3_begin_26 : decode cX3_begin 26 = .ok (.iconst 0, 1) := by decide +kernel
theorem dX3_begin_27 : decode cX3_begin 27 = .ok (.putfield 27, 3) := by decide +kernel
theorem dX3_begin_30 : decode cX3_begin 30 = .ok (.aload_n 0, 1) := by decide +kernel
theorem dX3_begin_31 : decode cX3_begin 31 = .ok (.iconst 0, 1) := by decide +kernel
theorem dX3_begin_32 : decode cX3_begin 32 = .ok (.putfield 30, 3) := by decide +kernel
theorem dX3_begin_35 : decode cX3_begin 35 = .ok (.aload_n 0, 1) := by decide +kernel
theorem dX3_begin_36 : decode cX3_begin 36 = .ok (.iconst (-1), 1) := by decide +kernel
theorem dX3_begin_37 : decode cX3_begin 37 = .ok (.putfield 33, 3) := by decide +kernel
theorem dX3_begin_40 : decode cX3_begin 40 = .ok (.return_, 1) := by decide +kernel
theorem dX3_copyFrom_0 : decode cX3_copyFrom 0 = .ok (.aload_n 0, 1) := by decide +kernel
theorem dX3_copyFrom_1 : decode cX3_copyFrom 1 = .ok (.aload_n 1, 1) := by decide +kernel
theorem dX3_copyFrom_2 : decode cX3_copyFrom 2 = .ok (.getfield 9, 3) := by decide +kernel
theorem dX3_copyFrom_5 : decode cX3_copyFrom 5 = .ok (.putfield 9, 3) := by decide +kernel
theorem dX3_copyFrom_8 : decode cX3_copyFrom 8 = .ok (.aload_n 0, 1) := by decide +kernel
theorem dX3_copyFrom_9 : decode cX3_copyFrom 9 = .ok (.aload_n 1, 1) := by decide +kernel
theorem dX3_copyFrom_10 : decode cX3_copyFrom 10 = .ok (.getfield 15, 3) := by decide +kernel
theorem dX3_copyFrom_13 : decode cX3_copyFrom 13 = .ok (.putfield 15, 3) := by decide +kernel
theorem dX3_copyFrom_16 : decode cX3_copyFrom 16 = .ok (.aload_n 0, 1) := by decide +kernel
theorem dX3_copyFrom_17 : decode cX3_copyFrom 17 = .ok (.aload_n 1, 1) := by decide +kernel
theorem dX3_copyFrom_18 : decode cX3_copyFrom 18 = .ok (.getfield 18, 3) := by decide +kernel
theorem dX3_copyFrom_21 : decode cX3_copyFrom 21 = .ok (.putfield 18, 3) := by decide +kernel
theorem dX3_copyFrom_24 : decode cX3_copyFrom 24 = .ok (.aload_n 0, 1) := by decide +kernel
theorem dX3_copyFrom_25 : decode cX3_copyFrom 25 = .ok (.aload_n 1, 1) := by decide +kernel
theorem dX3_copyFrom_26 : decode cX3_copyFrom 26 = .ok (.getfield 21, 3) := by decide +kernel
theorem dX3_copyFrom_29 : decode cX3_copyFrom 29 = .ok (.putfield 21, 3) := by decide +kernel
theorem dX3_copyFrom_32 : decode cX3_copyFrom 32 = .ok (.aload_n 0, 1) := by decide +kernel
theorem dX3_copyFrom_33 : decode cX3_copyFrom 33 = .ok (.aload_n 1, 1) := by decide +kernel
theorem dX3_copyFrom_34 : decode cX3_copyFrom 34 = .ok (.getfield 24, 3) := by decide +kernel
theorem dX3_copyFrom_37 : decode cX3_copyFrom 37 = .ok (.putfield 24, 3) := by decide +kernel
theorem dX3_copyFrom_40 : decode cX3_copyFrom 40 = .ok (.aload_n 0, 1) := by decide +kernel
theorem dX3_copyFrom_41 : decode cX3_copyFrom 41 = .ok (.aload_n 1, 1) := by decide +kernel
theorem dX3_copyFrom_42 : decode cX3_copyFrom 42 = .ok (.getfield 27, 3) := by decide +kernel
theorem dX3_copyFrom_45 : decode cX3_copyFrom 45 = .ok (.putfield 27, 3) := by decide +kernel
theorem dX3_copyFrom_48 : decode cX3_copyFrom 48 = .ok (.aload_n 0, 1) := by decide +kernel
theorem dX3_copyFrom_49 : decode cX3_copyFrom 49 = .ok (.aload_n 1, 1) := by decide +kernel
theorem dX3_copyFrom_50 : decode cX3_copyFrom 50 = .ok (.getfield 30, 3) := by decide +kernel
theorem dX3_copyFrom_53 : decode cX3_copyFrom 53 = .ok (.putfield 30, 3) := by decide +kernel
theorem dX3_copyFrom_56 : decode cX3_copyFrom 56 = .ok (.aload_n 0, 1) := by decide +kernel
theorem dX3_copyFrom_57 : decode cX3_copyFrom 57 = .ok (.aload_n 1, 1) := by decide +kernel
theorem dX3_copyFrom_58 : decode cX3_copyFrom 58 = .ok (.getfield 33, 3) := by decide +kernel
theorem dX3_copyFrom_61 : decode cX3_copyFrom 61 = .ok (.putfield 33, 3) := by decide +kernel
theorem dX3_copyFrom_64 : decode cX3_copyFrom 64 = .ok (.return_, 1) := by decide +kernel
theorem dX3_takeWeather_0 : decode cX3_takeWeather 0 = .ok (.aload_n 0, 1) := by decide +kernel
theorem dX3_takeWeather_1 : decode cX3_takeWeather 1 = .ok (.dup, 1) := by decide +kernel
theorem dX3_takeWeather_2 : decode cX3_takeWeather 2 = .ok (.getfield 18, 3) := by decide +kernel
theorem dX3_takeWeather_5 : decode cX3_takeWeather 5 = .ok (.iload_n 2, 1) := by decide +kernel
theorem dX3_takeWeather_6 : decode cX3_takeWeather 6 = .ok (.iadd, 1) := by decide +kernel
theorem dX3_takeWeather_7 : decode cX3_takeWeather 7 = .ok (.putfield 18, 3) := by decide +kernel
theorem dX3_takeWeather_10 : decode cX3_takeWeather 10 = .ok (.iload_n 1, 1) := by decide +kernel
theorem dX3_takeWeather_11 : decode cX3_takeWeather 11 = .ok (.ifCond .le 13, 3) := by decide +kernel
theorem dX3_takeWeather_14 : decode cX3_takeWeather 14 = .ok (.aload_n 0, 1) := by decide +kernel
theorem dX3_takeWeather_15 : decode cX3_takeWeather 15 = .ok (.iload_n 1, 1) := by decide +kernel
theorem dX3_takeWeather_16 : decode cX3_takeWeather 16 = .ok (.iconst 5, 1) := by decide +kernel
theorem dX3_takeWeather_17 : decode cX3_takeWeather 17 = .ok (.idiv, 1) := by decide +kernel
theorem dX3_takeWeather_18 : decode cX3_takeWeather 18 = .ok (.invokevirtual 36, 3) := by decide +kernel
theorem dX3_takeWeather_21 : decode cX3_takeWeather 21 = .ok (.goto 18, 3) := by decide +kernel
theorem dX3_takeWeather_24 : decode cX3_takeWeather 24 = .ok (.iload_n 1, 1) := by decide +kernel
theorem dX3_takeWeather_25 : decode cX3_takeWeather 25 = .ok (.ifCond .ge 14, 3) := by decide +kernel
theorem dX3_takeWeather_28 : decode cX3_takeWeather 28 = .ok (.aload_n 0, 1) := by decide +kernel
theorem dX3_takeWeather_29 : decode cX3_takeWeather 29 = .ok (.iload_n 1, 1) := by decide +kernel
theorem dX3_takeWeather_30 : decode cX3_takeWeather 30 = .ok (.ineg, 1) := by decide +kernel
theorem dX3_takeWeather_31 : decode cX3_takeWeather 31 = .ok (.bipush 10, 2) := by decide +kernel
theorem dX3_takeWeather_33 : decode cX3_takeWeather 33 = .ok (.idiv, 1) := by decide +kernel
theorem dX3_takeWeather_34 : decode cX3_takeWeather 34 = .ok (.iconst 1, 1) := by decide +kernel
theorem dX3_takeWeather_35 : decode cX3_takeWeather 35 = .ok (.iadd, 1) := by decide +kernel
theorem dX3_takeWeather_36 : decode cX3_takeWeather 36 = .ok (.invokevirtual 40, 3) := by decide +kernel
theorem dX3_takeWeather_39 : decode cX3_takeWeather 39 = .ok (.return_, 1) := by decide +kernel
theorem dX3_thaw_0 : decode cX3_thaw 0 = .ok (.aload_n 0, 1) := by decide +kernel
theorem dX3_thaw_1 : decode cX3_thaw 1 = .ok (.getfield 18, 3) := by decide +kernel
theorem dX3_thaw_4 : decode cX3_thaw 4 = .ok (.iload_n 1, 1) := by decide +kernel
theorem dX3_thaw_5 : decode cX3_thaw 5 = .ok (.invokestatic 43, 3) := by decide +kernel
theorem dX3_thaw_8 : decode cX3_thaw 8 = .ok (.istore_n 2, 1) := by decide +kernel
theorem dX3_thaw_9 : decode cX3_thaw 9 = .ok (.aload_n 0, 1) := by decide +kernel
theorem dX3_thaw_10 : decode cX3_thaw 10 = .ok (.dup, 1) := by decide +kernel
theorem dX3_thaw_11 : decode cX3_thaw 11 = .ok (.getfield 18, 3) := by decide +kernel
theorem dX3_thaw_14 : decode cX3_thaw 14 = .ok (.iload_n 2, 1) := by decide +kernel
theorem dX3_thaw_15 : decode cX3_thaw 15 = .ok (.isub, 1) := by decide +kernel
theorem dX3_thaw_16 : decode cX3_thaw 16 = .ok (.putfield 18, 3) := by decide +kernel
theorem dX3_thaw_19 : decode cX3_thaw 19 = .ok (.aload_n 0, 1) := by decide +kernel
theorem dX3_thaw_20 : decode cX3_thaw 20 = .ok (.aload_n 0, 1) := by decide +kernel
theorem dX3_thaw_21 : decode cX3_thaw 21 = .ok (.getfield 21, 3) := by decide +kernel
theorem dX3_thaw_24 : decode cX3_thaw 24 = .ok (.iconst 2, 1) := by decide +kernel
theorem dX3_thaw_25 : decode cX3_thaw 25 = .ok (.iload_n 2, 1) := by decide +kernel
theorem dX3_thaw_26 : decode cX3_thaw 26 = .ok (.imul, 1) := by decide +kernel
theorem dX3_thaw_27 : decode cX3_thaw 27 = .ok (.iadd, 1) := by decide +kernel
theorem dX3_thaw_28 : decode cX3_thaw 28 = .ok (.bipush 100, 2) := by decide +kernel
theorem dX3_thaw_30 : decode cX3_thaw 30 = .ok (.invokestatic 43, 3) := by decide +kernel
theorem dX3_thaw_33 : decode cX3_thaw 33 = .ok (.putfield 21, 3) := by decide +kernel
theorem dX3_thaw_36 : decode cX3_thaw 36 = .ok (.aload_n 0, 1) := by decide +kernel
theorem dX3_thaw_37 : decode cX3_thaw 37 = .ok (.aload_n 0, 1) := by decide +kernel
theorem dX3_thaw_38 : decode cX3_thaw 38 = .ok (.getfield 24, 3) := by decide +kernel
theorem dX3_thaw_41 : decode cX3_thaw 41 = .ok (.iload_n 1, 1) := by decide +kernel
theorem dX3_thaw_42 : decode cX3_thaw 42 = .ok (.isub, 1) := by decide +kernel
theorem dX3_thaw_43 : decode cX3_thaw 43 = .ok (.iconst 0, 1) := by decide +kernel
theorem dX3_thaw_44 : decode cX3_thaw 44 = .ok (.invokestatic 49, 3) := by decide +kernel
theorem dX3_thaw_47 : decode cX3_thaw 47 = .ok (.putfield 24, 3) := by decide +kernel
theorem dX3_thaw_50 : decode cX3_thaw 50 = .ok (.return_, 1) := by decide +kernel
theorem dX3_freeze_0 : decode cX3_freeze 0 = .ok (.aload_n 0, 1) := by decide +kernel
theorem dX3_freeze_1 : decode cX3_freeze 1 = .ok (.getfield 21, 3) := by decide +kernel
theorem dX3_freeze_4 : decode cX3_freeze 4 = .ok (.iload_n 1, 1) := by decide +kernel
theorem dX3_freeze_5 : decode cX3_freeze 5 = .ok (.invokestatic 43, 3) := by decide +kernel
theorem dX3_freeze_8 : decode cX3_freeze 8 = .ok (.istore_n 2, 1) := by decide +kernel
theorem dX3_freeze_9 : decode cX3_freeze 9 = .ok (.aload_n 0, 1) := by decide +kernel
theorem dX3_freeze_10 : decode cX3_freeze 10 = .ok (.dup, 1) := by decide +kernel
theorem dX3_freeze_11 : decode cX3_freeze 11 = .ok (.getfield 21, 3) := by decide +kernel
theorem dX3_freeze_14 : decode cX3_freeze 14 = .ok (.iload_n 2, 1) := by decide +kernel
theorem dX3_freeze_15 : decode cX3_freeze 15 = .ok (.isub, 1) := by decide +kernel
theorem dX3_freeze_16 : decode cX3_freeze 16 = .ok (.putfield 21, 3) := by decide +kernel
theorem dX3_freeze_19 : decode cX3_freeze 19 = .ok (.aload_n 0, 1) := by decide +kernel
theorem dX3_freeze_20 : decode cX3_freeze 20 = .ok (.aload_n 0, 1) := by decide +kernel
theorem dX3_freeze_21 : decode cX3_freeze 21 = .ok (.getfield 24, 3) := by decide +kernel
theorem dX3_freeze_24 : decode cX3_freeze 24 = .ok (.iload_n 2, 1) := by decide +kernel
theorem dX3_freeze_25 : decode cX3_freeze 25 = .ok (.iadd, 1) := by decide +kernel
theorem dX3_freeze_26 : decode cX3_freeze 26 = .ok (.bipush 100, 2) := by decide +kernel
theorem dX3_freeze_28 : decode cX3_freeze 28 = .ok (.invokestatic 43, 3) := by decide +kernel
theorem dX3_freeze_31 : decode cX3_freeze 31 = .ok (.putfield 24, 3) := by decide +kernel
theorem dX3_freeze_34 : decode cX3_freeze 34 = .ok (.return_, 1) := by decide +kernel
theorem dX3_becomeClear_0 : decode cX3_becomeClear 0 = .ok (.aload_n 0, 1) := by decide +kernel
theorem dX3_becomeClear_1 : decode cX3_becomeClear 1 = .ok (.iconst 0, 1) := by decide +kernel
theorem dX3_becomeClear_2 : decode cX3_becomeClear 2 = .ok (.putfield 18, 3) := by decide +kernel
theorem dX3_becomeClear_5 : decode cX3_becomeClear 5 = .ok (.iload_n 3, 1) := by decide +kernel
theorem dX3_becomeClear_6 : decode cX3_becomeClear 6 = .ok (.ifCond .le 20, 3) := by decide +kernel
theorem dX3_becomeClear_9 : decode cX3_becomeClear 9 = .ok (.aload_n 0, 1) := by decide +kernel
theorem dX3_becomeClear_10 : decode cX3_becomeClear 10 = .ok (.dup, 1) := by decide +kernel
theorem dX3_becomeClear_11 : decode cX3_becomeClear 11 = .ok (.getfield 24, 3) := by decide +kernel
theorem dX3_becomeClear_14 : decode cX3_becomeClear 14 = .ok (.aload_n 0, 1) := by decide +kernel
theorem dX3_becomeClear_15 : decode cX3_becomeClear 15 = .ok (.getfield 24, 3) := by decide +kernel
theorem dX3_becomeClear_18 : decode cX3_becomeClear 18 = .ok (.iload_n 2, 1) := by decide +kernel
theorem dX3_becomeClear_19 : decode cX3_becomeClear 19 = .ok (.imul, 1) := by decide +kernel
theorem dX3_becomeClear_20 : decode cX3_becomeClear 20 = .ok (.iload_n 3, 1) := by decide +kernel
theorem dX3_becomeClear_21 : decode cX3_becomeClear 21 = .ok (.idiv, 1) := by decide +kernel
theorem dX3_becomeClear_22 : decode cX3_becomeClear 22 = .ok (.isub, 1) := by decide +kernel
theorem dX3_becomeClear_23 : decode cX3_becomeClear 23 = .ok (.putfield 24, 3) := by decide +kernel
theorem dX3_becomeClear_26 : decode cX3_becomeClear 26 = .ok (.aload_n 0, 1) := by decide +kernel
theorem dX3_becomeClear_27 : decode cX3_becomeClear 27 = .ok (.dup, 1) := by decide +kernel
theorem dX3_becomeClear_28 : decode cX3_becomeClear 28 = .ok (.getfield 30, 3) := by decide +kernel
theorem dX3_becomeClear_31 : decode cX3_becomeClear 31 = .ok (.iconst 1, 1) := by decide +kernel
theorem dX3_becomeClear_32 : decode cX3_becomeClear 32 = .ok (.iadd, 1) := by decide +kernel
theorem dX3_becomeClear_33 : decode cX3_becomeClear 33 = .ok (.putfield 30, 3) := by decide +kernel
theorem dX3_becomeClear_36 : decode cX3_becomeClear 36 = .ok (.aload_n 0, 1) := by decide +kernel
theorem dX3_becomeClear_37 : decode cX3_becomeClear 37 = .ok (.iload_n 1, 1) := by decide +kernel
theorem dX3_becomeClear_38 : decode cX3_becomeClear 38 = .ok (.putfield 33, 3) := by decide +kernel
theorem dX3_becomeClear_41 : decode cX3_becomeClear 41 = .ok (.return_, 1) := by decide +kernel
theorem dX4_init_0 : decode cX4_init 0 = .ok (.aload_n 0, 1) := by decide +kernel
theorem dX4_init_1 : decode cX4_init 1 = .ok (.invokespecial 1, 3) := by decide +kernel
theorem dX4_init_4 : decode cX4_init 4 = .ok (.aload_n 0, 1) := by decide +kernel
theorem dX4_init_5 : decode cX4_init 5 = .ok (.iload_n 1, 1) := by decide +kernel
theorem dX4_init_6 : decode cX4_init 6 = .ok (.putfield 7, 3) := by decide +kernel
theorem dX4_init_9 : decode cX4_init 9 = .ok (.aload_n 0, 1) := by decide +kernel
theorem dX4_init_10 : decode cX4_init 10 = .ok (.iload_n 2, 1) := by decide +kernel
theorem dX4_init_11 : decode cX4_init 11 = .ok (.putfield 13, 3) := by decide +kernel
theorem dX4_init_14 : decode cX4_init 14 = .ok (.aload_n 0, 1) := by decide +kernel
theorem dX4_init_15 : decode cX4_init 15 = .ok (.iload_n 3, 1) := by decide +kernel
theorem dX4_init_16 : decode cX4_init 16 = .ok (.putfield 16, 3) := by decide +kernel
theorem dX4_init_19 : decode cX4_init 19 = .ok (.return_, 1) := by decide +kernel
theorem dX4_copyFrom_0 : decode cX4_copyFrom 0 = .ok (.aload_n 0, 1) := by decide +kernel
theorem dX4_copyFrom_1 : decode cX4_copyFrom 1 = .ok (.aload_n 1, 1) := by decide +kernel
theorem dX4_copyFrom_2 : decode cX4_copyFrom 2 = .ok (.getfield 7, 3) := by decide +kernel
theorem dX4_copyFrom_5 : decode cX4_copyFrom 5 = .ok (.putfield 7, 3) := by decide +kernel
theorem dX4_copyFrom_8 : decode cX4_copyFrom 8 = .ok (.aload_n 0, 1) := by decide +kernel
theorem dX4_copyFrom_9 : decode cX4_copyFrom 9 = .ok (.aload_n 1, 1) := by decide +kernel
theorem dX4_copyFrom_10 : decode cX4_copyFrom 10 = .ok (.getfield 13, 3) := by decide +kernel
theorem dX4_copyFrom_13 : decode cX4_copyFrom 13 = .ok (.putfield 13, 3) := by decide +kernel
theorem dX4_copyFrom_16 : decode cX4_copyFrom 16 = .ok (.aload_n 0, 1) := by decide +kernel
theorem dX4_copyFrom_17 : decode cX4_copyFrom 17 = .ok (.aload_n 1, 1) := by decide +kernel
theorem dX4_copyFrom_18 : decode cX4_copyFrom 18 = .ok (.getfield 16, 3) := by decide +kernel
theorem dX4_copyFrom_21 : decode cX4_copyFrom 21 = .ok (.putfield 16, 3) := by decide +kernel
theorem dX4_copyFrom_24 : decode cX4_copyFrom 24 = .ok (.aload_n 0, 1) := by decide +kernel
theorem dX4_copyFrom_25 : decode cX4_copyFrom 25 = .ok (.aload_n 1, 1) := by decide +kernel
theorem dX4_copyFrom_26 : decode cX4_copyFrom 26 = .ok (.getfield 19, 3) := by decide +kernel
theorem dX4_copyFrom_29 : decode cX4_copyFrom 29 = .ok (.putfield 19, 3) := by decide +kernel
theorem dX4_copyFrom_32 : decode cX4_copyFrom 32 = .ok (.return_, 1) := by decide +kernel
theorem dX4_number_0 : decode cX4_number 0 = .ok (.iload_n 1, 1) := by decide +kernel
theorem dX4_number_1 : decode cX4_number 1 = .ok (.tableswitch 42 0 2 #[27, 32, 37], 27) := by decide +kernel
theorem dX4_number_28 : decode cX4_number 28 = .ok (.aload_n 0, 1) := by decide +kernel
theorem dX4_number_29 : decode cX4_number 29 = .ok (.getfield 7, 3) := by decide +kernel
theorem dX4_number_32 : decode cX4_number 32 = .ok (.ireturn, 1) := by decide +kernel
theorem dX4_number_33 : decode cX4_number 33 = .ok (.aload_n 0, 1) := by decide +kernel
theorem dX4_number_34 : decode cX4_number 34 = .ok (.getfield 13, 3) := by decide +kernel
theorem dX4_number_37 : decode cX4_number 37 = .ok (.ireturn, 1) := by decide +kernel
theorem dX4_number_38 : decode cX4_number 38 = .ok (.aload_n 0, 1) := by decide +kernel
theorem dX4_number_39 : decode cX4_number 39 = .ok (.getfield 16, 3) := by decide +kernel
theorem dX4_number_42 : decode cX4_number 42 = .ok (.ireturn, 1) := by decide +kernel
theorem dX4_number_43 : decode cX4_number 43 = .ok (.aload_n 0, 1) := by decide +kernel
theorem dX4_number_44 : decode cX4_number 44 = .ok (.getfield 19, 3) := by decide +kernel
theorem dX4_number_47 : decode cX4_number 47 = .ok (.ireturn, 1) := by decide +kernel
theorem dX5_init_0 : decode cX5_init 0 = .ok (.aload_n 0, 1) := by decide +kernel
theorem dX5_init_1 : decode cX5_init 1 = .ok (.invokespecial 3, 3) := by decide +kernel
theorem dX5_init_4 : decode cX5_init 4 = .ok (.aload_n 0, 1) := by decide +kernel
theorem dX5_init_5 : decode cX5_init 5 = .ok (.sipush 150, 3) := by decide +kernel
theorem dX5_init_8 : decode cX5_init 8 = .ok (.newarray .int, 2) := by decide +kernel
theorem dX5_init_10 : decode cX5_init 10 = .ok (.putfield 9, 3) := by decide +kernel
theorem dX5_init_13 : decode cX5_init 13 = .ok (.aload_n 0, 1) := by decide +kernel
theorem dX5_init_14 : decode cX5_init 14 = .ok (.bipush 38, 2) := by decide +kernel
theorem dX5_init_16 : decode cX5_init 16 = .ok (.newarray .int, 2) := by decide +kernel
theorem dX5_init_18 : decode cX5_init 18 = .ok (.putfield 15, 3) := by decide +kernel
theorem dX5_init_21 : decode cX5_init 21 = .ok (.aload_n 0, 1) := by decide +kernel
theorem dX5_init_22 : decode cX5_init 22 = .ok (.bipush 38, 2) := by decide +kernel
theorem dX5_init_24 : decode cX5_init 24 = .ok (.newarray .int, 2) := by decide +kernel
theorem dX5_init_26 : decode cX5_init 26 = .ok (.putfield 18, 3) := by decide +kernel
theorem dX5_init_29 : decode cX5_init 29 = .ok (.aload_n 0, 1) := by decide +kernel
theorem dX5_init_30 : decode cX5_init 30 = .ok (.bipush 38, 2) := by decide +kernel
theorem dX5_init_32 : decode cX5_init 32 = .ok (.newarray .int, 2) := by decide +kernel
theorem dX5_init_34 : decode cX5_init 34 = .ok (.putfield 21, 3) := by decide +kernel
theorem dX5_init_37 : decode cX5_init 37 = .ok (.return_, 1) := by decide +kernel
theorem dX5_readItems_0 : decode cX5_readItems 0 = .ok (.aload_n 0, 1) := by decide +kernel
theorem dX5_readItems_1 : decode cX5_readItems 1 = .ok (.iconst 0, 1) := by decide +kernel
theorem dX5_readItems_2 : decode cX5_readItems 2 = .ok (.putfield 24, 3) := by decide +kernel
theorem dX5_readItems_5 : decode cX5_readItems 5 = .ok (.aload_n 0, 1) := by decide +kernel
theorem dX5_readItems_6 : decode cX5_readItems 6 = .ok (.iconst 0, 1) := by decide +kernel
theorem dX5_readItems_7 : decode cX5_readItems 7 = .ok (.putfield 28, 3) := by decide +kernel
theorem dX5_readItems_10 : decode cX5_readItems 10 = .ok (.aload_n 0, 1) := by decide +kernel
theorem dX5_readItems_11 : decode cX5_readItems 11 = .ok (.iconst (-1), 1) := by decide +kernel
theorem dX5_readItems_12 : decode cX5_readItems 12 = .ok (.putfield 31, 3) := by decide +kernel
theorem dX5_readItems_15 : decode cX5_readItems 15 = .ok (.aload_n 0, 1) := by decide +kernel
theorem dX5_readItems_16 : decode cX5_readItems 16 = .ok (.getfield 24, 3) := by decide +kernel
theorem dX5_readItems_19 : decode cX5_readItems 19 = .ok (.bipush 38, 2) := by decide +kernel
theorem dX5_readItems_21 : decode cX5_readItems 21 = .ok (.if_icmp .ge 39, 3) := by decide +kernel
theorem dX5_readItems_24 : decode cX5_readItems 24 = .ok (.aload_n 0, 1) := by decide +kernel
theorem dX5_readItems_25 : decode cX5_readItems 25 = .ok (.getfield 28, 3) := by decide +kernel
theorem dX5_readItems_28 : decode cX5_readItems 28 = .ok (.aload_n 0, 1) := by decide +kernel
theorem dX5_readItems_29 : decode cX5_readItems 29 = .ok (.getfield 34, 3) := by decide +kernel
theorem dX5_readItems_32 : decode cX5_readItems 32 = .ok (.if_icmp .ge 28, 3) := by decide +kernel
theorem dX5_readItems_35 : decode cX5_readItems 35 = .ok (.aload_n 0, 1) := by decide +kernel
theorem dX5_readItems_36 : decode cX5_readItems 36 = .ok (.getfield 31, 3) := by decide +kernel
theorem dX5_readItems_39 : decode cX5_readItems 39 = .ok (.iconst (-1), 1) := by decide +kernel
theorem dX5_readItems_40 : decode cX5_readItems 40 = .ok (.if_icmp .ne 20, 3) := by decide +kernel
theorem dX5_readItems_43 : decode cX5_readItems 43 = .ok (.aload_n 0, 1) := by decide +kernel
theorem dX5_readItems_44 : decode cX5_readItems 44 = .ok (.invokevirtual 37, 3) := by decide +kernel
theorem dX5_readItems_47 : decode cX5_readItems 47 = .ok (.aload_n 0, 1) := by decide +kernel
theorem dX5_readItems_48 : decode cX5_readItems 48 = .ok (.dup, 1) := by decide +kernel
theorem dX5_readItems_49 : decode cX5_readItems 49 = .ok (.getfield 24, 3) := by decide +kernel
theorem dX5_readItems_52 : decode cX5_readItems 52 = .ok (.iconst 1, 1) := by decide +kernel
theorem dX5_readItems_53 : decode cX5_readItems 53 = .ok (.iadd, 1) := by decide +kernel
theorem dX5_readItems_54 : decode cX5_readItems 54 = .ok (.putfield 24, 3) := by decide +kernel
theorem dX5_readItems_57 : decode cX5_readItems 57 = .ok (.goto (-42), 3) := by decide +kernel
theorem dX5_readItems_60 : decode cX5_readItems 60 = .ok (.aload_n 0, 1) := by decide +kernel
theorem dX5_readItems_61 : decode cX5_readItems 61 = .ok (.getfield 31, 3) := by decide +kernel
theorem dX5_readItems_64 : decode cX5_readItems 64 = .ok (.ireturn, 1) := by decide +kernel
theorem dX5_hoursOfItems_0 : decode cX5_hoursOfItems 0 = .ok (.iconst 0, 1) := by decide +kernel
theorem dX5_hoursOfItems_1 : decode cX5_hoursOfItems 1 = .ok (.istore_n 1, 1) := by decide +kernel
theorem dX5_hoursOfItems_2 : decode cX5_hoursOfItems 2 = .ok (.iconst 0, 1) := by decide +kernel
theorem dX5_hoursOfItems_3 : decode cX5_hoursOfItems 3 = .ok (.istore_n 2, 1) := by decide +kernel
theorem dX5_hoursOfItems_4 : decode cX5_hoursOfItems 4 = .ok (.iload_n 2, 1) := by decide +kernel
theorem dX5_hoursOfItems_5 : decode cX5_hoursOfItems 5 = .ok (.aload_n 0, 1) := by decide +kernel
theorem dX5_hoursOfItems_6 : decode cX5_hoursOfItems 6 = .ok (.getfield 24, 3) := by decide +kernel
theorem dX5_hoursOfItems_9 : decode cX5_hoursOfItems 9 = .ok (.if_icmp .ge 18, 3) := by decide +kernel
theorem dX5_hoursOfItems_12 : decode cX5_hoursOfItems 12 = .ok (.iload_n 1, 1) := by decide +kernel
theorem dX5_hoursOfItems_13 : decode cX5_hoursOfItems 13 = .ok (.aload_n 0, 1) := by decide +kernel
theorem dX5_hoursOfItems_14 : decode cX5_hoursOfItems 14 = .ok (.getfield 21, 3) := by decide +kernel
theorem dX5_hoursOfItems_17 : decode cX5_hoursOfItems 17 = .ok (.iload_n 2, 1) := by decide +kernel
theorem dX5_hoursOfItems_18 : decode cX5_hoursOfItems 18 = .ok (.iaload, 1) := by decide +kernel
theorem dX5_hoursOfItems_19 : decode cX5_hoursOfItems 19 = .ok (.iadd, 1) := by decide +kernel
theorem dX5_hoursOfItems_20 : decode cX5_hoursOfItems 20 = .ok (.istore_n 1, 1) := by decide +kernel
theorem dX5_hoursOfItems_21 : decode cX5_hoursOfItems 21 = .ok (.iinc 2 1, 3) := by decide +kernel
theorem dX5_hoursOfItems_24 : decode cX5_hoursOfItems 24 = .ok (.goto (-20), 3) := by decide +kernel
theorem dX5_hoursOfItems_27 : decode cX5_hoursOfItems 27 = .ok (.iload_n 1, 1) := by decide +kernel
theorem dX5_hoursOfItems_28 : decode cX5_hoursOfItems 28 = .ok (.ireturn, 1) := by decide +kernel
theorem dX5_readItem_0 : decode cX5_readItem 0 = .ok (.aload_n 0, 1) := by decide +kernel
theorem dX5_readItem_1 : decode cX5_readItem 1 = .ok (.getfield 15, 3) := by decide +kernel
theorem dX5_readItem_4 : decode cX5_readItem 4 = .ok (.aload_n 0, 1) := by decide +kernel
theorem dX5_readItem_5 : decode cX5_readItem 5 = .ok (.getfield 24, 3) := by decide +kernel
theorem dX5_readItem_8 : decode cX5_readItem 8 = .ok (.aload_n 0, 1) := by decide +kernel
theorem dX5_readItem_9 : decode cX5_readItem 9 = .ok (.invokevirtual 40, 3) := by decide +kernel
theorem dX5_readItem_12 : decode cX5_readItem 12 = .ok (.iastore, 1) := by decide +kernel
theorem dX5_readItem_13 : decode cX5_readItem 13 = .ok (.aload_n 0, 1) := by decide +kernel
theorem dX5_readItem_14 : decode cX5_readItem 14 = .ok (.bipush 44, 2) := by decide +kernel
theorem dX5_readItem_16 : decode cX5_readItem 16 = .ok (.invokevirtual 44, 3) := by decide +kernel
theorem dX5_readItem_19 : decode cX5_readItem 19 = .ok (.aload_n 0, 1) := by decide +kernel
theorem dX5_readItem_20 : decode cX5_readItem 20 = .ok (.getfield 18, 3) := by decide +kernel
theorem dX5_readItem_23 : decode cX5_readItem 23 = .ok (.aload_n 0, 1) := by decide +kernel
theorem dX5_readItem_24 : decode cX5_readItem 24 = .ok (.getfield 24, 3) := by decide +kernel
theorem dX5_readItem_27 : decode cX5_readItem 27 = .ok (.aload_n 0, 1) := by decide +kernel
theorem dX5_readItem_28 : decode cX5_readItem 28 = .ok (.iconst 3, 1) := by decide +kernel
theorem dX5_readItem_29 : decode cX5_readItem 29 = .ok (.iconst 0, 1) := by decide +kernel
theorem dX5_readItem_30 : decode cX5_readItem 30 = .ok (.bipush 100, 2) := by decide +kernel
theorem dX5_readItem_32 : decode cX5_readItem 32 = .ok (.invokevirtual 48, 3) := by decide +kernel
theorem dX5_readItem_35 : decode cX5_readItem 35 = .ok (.iastore, 1) := by decide +kernel
theorem dX5_readItem_36 : decode cX5_readItem 36 = .ok (.aload_n 0, 1) := by decide +kernel
theorem dX5_readItem_37 : decode cX5_readItem 37 = .ok (.getfield 21, 3) := by decide +kernel
theorem dX5_readItem_40 : decode cX5_readItem 40 = .ok (.aload_n 0, 1) := by decide +kernel
theorem dX5_readItem_41 : decode cX5_readItem 41 = .ok (.getfield 24, 3) := by decide +kernel
theorem dX5_readItem_44 : decode cX5_readItem 44 = .ok (.iconst 1, 1) := by decide +kernel
theorem dX5_readItem_45 : decode cX5_readItem 45 = .ok (.iastore, 1) := by decide +kernel
theorem dX5_readItem_46 : decode cX5_readItem 46 = .ok (.aload_n 0, 1) := by decide +kernel
theorem dX5_readItem_47 : decode cX5_readItem 47 = .ok (.invokevirtual 52, 3) := by decide +kernel
theorem dX5_readItem_50 : decode cX5_readItem 50 = .ok (.bipush 120, 2) := by decide +kernel
theorem dX5_readItem_52 : decode cX5_readItem 52 = .ok (.if_icmp .ne 30, 3) := by decide +kernel
theorem dX5_readItem_55 : decode cX5_readItem 55 = .ok (.aload_n 0, 1) := by decide +kernel
theorem dX5_readItem_56 : decode cX5_readItem 56 = .ok (.dup, 1) := by decide +kernel
theorem dX5_readItem_57 : decode cX5_readItem 57 = .ok (.getfield 28, 3) := by decide +kernel
theorem dX5_readItem_60 : decode cX5_readItem 60 = .ok (.iconst 1, 1) := by decide +kernel
theorem dX5_readItem_61 : decode cX5_readItem 61 = .ok (.iadd, 1) := by decide +kernel
theorem dX5_readItem_62 : decode cX5_readItem 62 = .ok (.putfield 28, 3) := by decide +kernel
theorem dX5_readItem_65 : decode cX5_readItem 65 = .ok (.aload_n 0, 1) := by decide +kernel
theorem dX5_readItem_66 : decode cX5_readItem 66 = .ok (.getfield 21, 3) := by decide +kernel
theorem dX5_readItem_69 : decode cX5_readItem 69 = .ok (.aload_n 0, 1) := by decide +kernel
theorem dX5_readItem_70 : decode cX5_readItem 70 = .ok (.getfield 24, 3) := by decide +kernel
theorem dX5_readItem_73 : decode cX5_readItem 73 = .ok (.aload_n 0, 1) := by decide +kernel
theorem dX5_readItem_74 : decode cX5_readItem 74 = .ok (.iconst 2, 1) := by decide +kernel
theorem dX5_readItem_75 : decode cX5_readItem 75 = .ok (.iconst 1, 1) := by decide +kernel
theorem dX5_readItem_76 : decode cX5_readItem 76 = .ok (.bipush 99, 2) := by decide +kernel
theorem dX5_readItem_78 : decode cX5_readItem 78 = .ok (.invokevirtual 48, 3) := by decide +kernel
theorem dX5_readItem_81 : decode cX5_readItem 81 = .ok (.iastore, 1) := by decide +kernel
theorem dX5_readItem_82 : decode cX5_readItem 82 = .ok (.aload_n 0, 1) := by decide +kernel
theorem dX5_readItem_83 : decode cX5_readItem 83 = .ok (.bipush 59, 2) := by decide +kernel
theorem dX5_readItem_85 : decode cX5_readItem 85 = .ok (.invokevirtual 44, 3) := by decide +kernel
theorem dX5_readItem_88 : decode cX5_readItem 88 = .ok (.return_, 1) := by decide +kernel
theorem dX5_readTemperature_0 : decode cX5_readTemperature 0 = .ok (.aload_n 0, 1) := by decide +kernel
theorem dX5_readTemperature_1 : decode cX5_readTemperature 1 = .ok (.invokevirtual 52, 3) := by decide +kernel
theorem dX5_readTemperature_4 : decode cX5_readTemperature 4 = .ok (.bipush 45, 2) := by decide +kernel
theorem dX5_readTemperature_6 : decode cX5_readTemperature 6 = .ok (.if_icmp .ne 24, 3) := by decide +kernel
theorem dX5_readTemperature_9 : decode cX5_readTemperature 9 = .ok (.aload_n 0, 1) := by decide +kernel
theorem dX5_readTemperature_10 : decode cX5_readTemperature 10 = .ok (.dup, 1) := by decide +kernel
theorem dX5_readTemperature_11 : decode cX5_readTemperature 11 = .ok (.getfield 28, 3) := by decide +kernel
theorem dX5_readTemperature_14 : decode cX5_readTemperature 14 = .ok (.iconst 1, 1) := by decide +kernel
theorem dX5_readTemperature_15 : decode cX5_readTemperature 15 = .ok (.iadd, 1) := by decide +kernel
theorem dX5_readTemperature_16 : decode cX5_readTemperature 16 = .ok (.putfield 28, 3) := by decide +kernel
theorem dX5_readTemperature_19 : decode cX5_readTemperature 19 = .ok (.aload_n 0, 1) := by decide +kernel
theorem dX5_readTemperature_20 : decode cX5_readTemperature 20 = .ok (.iconst 3, 1) := by decide +kernel
theorem dX5_readTemperature_21 : decode cX5_readTemperature 21 = .ok (.iconst 0, 1) := by decide +kernel
theorem dX5_readTemperature_22 : decode cX5_readTemperature 22 = .ok (.sipush 300, 3) := by decide +kernel
theorem dX5_readTemperature_25 : decode cX5_readTemperature 25 = .ok (.invokevirtual 48, 3) := by decide +kernel
theorem dX5_readTemperature_28 : decode cX5_readTemperature 28 = .ok (.ineg, 1) := by decide +kernel
theorem dX5_readTemperature_29 : decode cX5_readTemperature 29 = .ok (.ireturn, 1) := by decide +kernel
theorem dX5_readTemperature_30 : decode cX5_readTemperature 30 = .ok (.aload_n 0, 1) := by decide +kernel
theorem dX5_readTemperature_31 : decode cX5_readTemperature 31 = .ok (.iconst 3, 1) := by decide +kernel
theorem dX5_readTemperature_32 : decode cX5_readTemperature 32 = .ok (.iconst 0, 1) := by decide +kernel
theorem dX5_readTemperature_33 : decode cX5_readTemperature 33 = .ok (.sipush 300, 3) := by decide +kernel
theorem dX5_readTemperature_36 : decode cX5_readTemperature 36 = .ok (.invokevirtual 48, 3) := by decide +kernel
theorem dX5_readTemperature_39 : decode cX5_readTemperature 39 = .ok (.ireturn, 1) := by decide +kernel
theorem dX5_readNumber_0 : decode cX5_readNumber 0 = .ok (.aload_n 0, 1) := by decide +kernel
theorem dX5_readNumber_1 : decode cX5_readNumber 1 = .ok (.getfield 28, 3) := by decide +kernel
theorem dX5_readNumber_4 : decode cX5_readNumber 4 = .ok (.istore 4, 2) := by decide +kernel
theorem dX5_readNumber_6 : decode cX5_readNumber 6 = .ok (.iconst 0, 1) := by decide +kernel
theorem dX5_readNumber_7 : decode cX5_readNumber 7 = .ok (.istore 5, 2) := by decide +kernel
theorem dX5_readNumber_9 : decode cX5_readNumber 9 = .ok (.iconst 0, 1) := by decide +kernel
theorem dX5_readNumber_10 : decode cX5_readNumber 10 = .ok (.istore 6, 2) := by decide +kernel
theorem dX5_readNumber_12 : decode cX5_readNumber 12 = .ok (.iload 6, 2) := by decide +kernel
theorem dX5_readNumber_14 : decode cX5_readNumber 14 = .ok (.iload_n 1, 1) := by decide +kernel
theorem dX5_readNumber_15 : decode cX5_readNumber 15 = .ok (.if_icmp .ge 41, 3) := by decide +kernel
theorem dX5_readNumber_18 : decode cX5_readNumber 18 = .ok (.aload_n 0, 1) := by decide +kernel
theorem dX5_readNumber_19 : decode cX5_readNumber 19 = .ok (.invokevirtual 55, 3) := by decide +kernel
theorem dX5_readNumber_22 : decode cX5_readNumber 22 = .ok (.ifCond .eq 34, 3) := by decide +kernel
theorem dX5_readNumber_25 : decode cX5_readNumber 25 = .ok (.bipush 10, 2) := by decide +kernel
theorem dX5_readNumber_27 : decode cX5_readNumber 27 = .ok (.iload 5, 2) := by decide +kernel
theorem dX5_readNumber_29 : decode cX5_readNumber 29 = .ok (.imul, 1) := by decide +kernel
theorem dX5_readNumber_30 : decode cX5_readNumber 30 = .ok (.aload_n 0, 1) := by decide +kernel
theorem dX5_readNumber_31 : decode cX5_readNumber 31 = .ok (.invokevirtual 52, 3) := by decide +kernel
theorem dX5_readNumber_34 : decode cX5_readNumber 34 = .ok (.iadd, 1) := by decide +kernel
theorem dX5_readNumber_35 : decode cX5_readNumber 35 = .ok (.bipush 48, 2) := by decide +kernel
theorem dX5_readNumber_37 : decode cX5_readNumber 37 = .ok (.isub, 1) := by decide +kernel
theorem dX5_readNumber_38 : decode cX5_readNumber 38 = .ok (.istore 5, 2) := by decide +kernel
theorem dX5_readNumber_40 : decode cX5_readNumber 40 = .ok (.aload_n 0, 1) := by decide +kernel
theorem dX5_readNumber_41 : decode cX5_readNumber 41 = .ok (.dup, 1) := by decide +kernel
theorem dX5_readNumber_42 : decode cX5_readNumber 42 = .ok (.getfield 28, 3) := by decide +kernel
theorem dX5_readNumber_45 : decode cX5_readNumber 45 = .ok (.iconst 1, 1) := by decide +kernel
theorem dX5_readNumber_46 : decode cX5_readNumber 46 = .ok (.iadd, 1) := by decide +kernel
theorem dX5_readNumber_47 : decode cX5_readNumber 47 = .ok (.putfield 28, 3) := by decide +kernel
theorem dX5_readNumber_50 : decode cX5_readNumber 50 = .ok (.iinc 6 1, 3) := by decide +kernel
theorem dX5_readNumber_53 : decode cX5_readNumber 53 = .ok (.goto (-41), 3) := by decide +kernel
theorem dX5_readNumber_56 : decode cX5_readNumber 56 = .ok (.aload_n 0, 1) := by decide +kernel
theorem dX5_readNumber_57 : decode cX5_readNumber 57 = .ok (.getfield 28, 3) := by decide +kernel
theorem dX5_readNumber_60 : decode cX5_readNumber 60 = .ok (.iload 4, 2) := by decide +kernel
theorem dX5_readNumber_62 : decode cX5_readNumber 62 = .ok (.if_icmp .eq 10, 3) := by decide +kernel
theorem dX5_readNumber_65 : decode cX5_readNumber 65 = .ok (.aload_n 0, 1) := by decide +kernel
theorem dX5_readNumber_66 : decode cX5_readNumber 66 = .ok (.invokevirtual 55, 3) := by decide +kernel
theorem dX5_readNumber_69 : decode cX5_readNumber 69 = .ok (.ifCond .eq 14, 3) := by decide +kernel
theorem dX5_readNumber_72 : decode cX5_readNumber 72 = .ok (.aload_n 0, 1) := by decide +kernel
theorem dX5_readNumber_73 : decode cX5_readNumber 73 = .ok (.aload_n 0, 1) := by decide +kernel
theorem dX5_readNumber_74 : decode cX5_readNumber 74 = .ok (.getfield 28, 3) := by decide +kernel
theorem dX5_readNumber_77 : decode cX5_readNumber 77 = .ok (.invokevirtual 59, 3) := by decide +kernel
theorem dX5_readNumber_80 : decode cX5_readNumber 80 = .ok (.goto 21, 3) := by decide +kernel
theorem dX5_readNumber_83 : decode cX5_readNumber 83 = .ok (.iload 5, 2) := by decide +kernel
theorem dX5_readNumber_85 : decode cX5_readNumber 85 = .ok (.iload_n 2, 1) := by decide +kernel
theorem dX5_readNumber_86 : decode cX5_readNumber 86 = .ok (.if_icmp .lt 9, 3) := by decide +kernel
theorem dX5_readNumber_89 : decode cX5_readNumber 89 = .ok (.iload 5, 2) := by decide +kernel
theorem dX5_readNumber_91 : decode cX5_readNumber 91 = .ok (.iload_n 3, 1) := by decide +kernel
theorem dX5_readNumber_92 : decode cX5_readNumber 92 = .ok (.if_icmp .le 9, 3) := by decide +kernel
theorem dX5_readNumber_95 : decode cX5_readNumber 95 = .ok (.aload_n 0, 1) := by decide +kernel
theorem dX5_readNumber_96 : decode cX5_readNumber 96 = .ok (.iload 4, 2) := by decide +kernel
theorem dX5_readNumber_98 : decode cX5_readNumber 98 = .ok (.invokevirtual 59, 3) := by decide +kernel
theorem dX5_readNumber_101 : decode cX5_readNumber 101 = .ok (.iload 5, 2) := by decide +kernel
theorem dX5_readNumber_103 : decode cX5_readNumber 103 = .ok (.ireturn, 1) := by decide +kernel
theorem dX5_expect_0 : decode cX5_expect 0 = .ok (.aload_n 0, 1) := by decide +kernel
theorem dX5_expect_1 : decode cX5_expect 1 = .ok (.invokevirtual 52, 3) := by decide +kernel
theorem dX5_expect_4 : decode cX5_expect 4 = .ok (.iload_n 1, 1) := by decide +kernel
theorem dX5_expect_5 : decode cX5_expect 5 = .ok (.if_icmp .ne 16, 3) := by decide +kernel
theorem dX5_expect_8 : decode cX5_expect 8 = .ok (.aload_n 0, 1) := by decide +kernel
theorem dX5_expect_9 : decode cX5_expect 9 = .ok (.dup, 1) := by decide +kernel
theorem dX5_expect_10 : decode cX5_expect 10 = .ok (.getfield 28, 3) := by decide +kernel
theorem dX5_expect_13 : decode cX5_expect 13 = .ok (.iconst 1, 1) := by decide +kernel
theorem dX5_expect_14 : decode cX5_expect 14 = .ok (.iadd, 1) := by decide +kernel
theorem dX5_expect_15 : decode cX5_expect 15 = .ok (.putfield 28, 3) := by decide +kernel
theorem dX5_expect_18 : decode cX5_expect 18 = .ok (.goto 11, 3) := by decide +kernel
theorem dX5_expect_21 : decode cX5_expect 21 = .ok (.aload_n 0, 1) := by decide +kernel
theorem dX5_expect_22 : decode cX5_expect 22 = .ok (.aload_n 0, 1) := by decide +kernel
theorem dX5_expect_23 : decode cX5_expect 23 = .ok (.getfield 28, 3) := by decide +kernel
theorem dX5_expect_26 : decode cX5_expect 26 = .ok (.invokevirtual 59, 3) := by decide +kernel
theorem dX5_expect_29 : decode cX5_expect 29 = .ok (.return_, 1) := by decide +kernel
theorem dX5_fail_0 : decode cX5_fail 0 = .ok (.aload_n 0, 1) := by decide +kernel
theorem dX5_fail_1 : decode cX5_fail 1 = .ok (.getfield 31, 3) := by decide +kernel
theorem dX5_fail_4 : decode cX5_fail 4 = .ok (.iconst (-1), 1) := by decide +kernel
theorem dX5_fail_5 : decode cX5_fail 5 = .ok (.if_icmp .ne 8, 3) := by decide +kernel
theorem dX5_fail_8 : decode cX5_fail 8 = .ok (.aload_n 0, 1) := by decide +kernel
theorem dX5_fail_9 : decode cX5_fail 9 = .ok (.iload_n 1, 1) := by decide +kernel
theorem dX5_fail_10 : decode cX5_fail 10 = .ok (.putfield 31, 3) := by decide +kernel
theorem dX5_fail_13 : decode cX5_fail 13 = .ok (.return_, 1) := by decide +kernel
theorem dX5_isDigitHere_0 : decode cX5_isDigitHere 0 = .ok (.aload_n 0, 1) := by decide +kernel
theorem dX5_isDigitHere_1 : decode cX5_isDigitHere 1 = .ok (.invokevirtual 52, 3) := by decide +kernel
theorem dX5_isDigitHere_4 : decode cX5_isDigitHere 4 = .ok (.bipush 48, 2) := by decide +kernel
theorem dX5_isDigitHere_6 : decode cX5_isDigitHere 6 = .ok (.if_icmp .lt 16, 3) := by decide +kernel
theorem dX5_isDigitHere_9 : decode cX5_isDigitHere 9 = .ok (.aload_n 0, 1) := by decide +kernel
theorem dX5_isDigitHere_10 : decode cX5_isDigitHere 10 = .ok (.invokevirtual 52, 3) := by decide +kernel
theorem dX5_isDigitHere_13 : decode cX5_isDigitHere 13 = .ok (.bipush 57, 2) := by decide +kernel
theorem dX5_isDigitHere_15 : decode cX5_isDigitHere 15 = .ok (.if_icmp .gt 7, 3) := by decide +kernel
theorem dX5_isDigitHere_18 : decode cX5_isDigitHere 18 = .ok (.iconst 1, 1) := by decide +kernel
theorem dX5_isDigitHere_19 : decode cX5_isDigitHere 19 = .ok (.goto 4, 3) := by decide +kernel
theorem dX5_isDigitHere_22 : decode cX5_isDigitHere 22 = .ok (.iconst 0, 1) := by decide +kernel
theorem dX5_isDigitHere_23 : decode cX5_isDigitHere 23 = .ok (.ireturn, 1) := by decide +kernel
theorem dX5_here_0 : decode cX5_here 0 = .ok (.aload_n 0, 1) := by decide +kernel
theorem dX5_here_1 : decode cX5_here 1 = .ok (.getfield 28, 3) := by decide +kernel
theorem dX5_here_4 : decode cX5_here 4 = .ok (.aload_n 0, 1) := by decide +kernel
theorem dX5_here_5 : decode cX5_here 5 = .ok (.getfield 34, 3) := by decide +kernel
theorem dX5_here_8 : decode cX5_here 8 = .ok (.if_icmp .ge 15, 3) := by decide +kernel
theorem dX5_here_11 : decode cX5_here 11 = .ok (.aload_n 0, 1) := by decide +kernel
theorem dX5_here_12 : decode cX5_here 12 = .ok (.getfield 9, 3) := by decide +kernel
theorem dX5_here_15 : decode cX5_here 15 = .ok (.aload_n 0, 1) := by decide +kernel
theorem dX5_here_16 : decode cX5_here 16 = .ok (.getfield 28, 3) := by decide +kernel
theorem dX5_here_19 : decode cX5_here 19 = .ok (.iaload, 1) := by decide +kernel
theorem dX5_here_20 : decode cX5_here 20 = .ok (.goto 4, 3) := by decide +kernel
theorem dX5_here_23 : decode cX5_here 23 = .ok (.iconst (-1), 1) := by decide +kernel
theorem dX5_here_24 : decode cX5_here 24 = .ok (.ireturn, 1) := by decide +kernel
theorem dJ9_max_7cf53_0 : decode cJ9_max_7cf53 0 = .ok (.iload_n 0, 1) := by decide +kernel
theorem dJ9_max_7cf53_1 : decode cJ9_max_7cf53 1 = .ok (.iload_n 1, 1) := by decide +kernel
theorem dJ9_max_7cf53_2 : decode cJ9_max_7cf53 2 = .ok (.if_icmp .lt 7, 3) := by decide +kernel
theorem dJ9_max_7cf53_5 : decode cJ9_max_7cf53 5 = .ok (.iload_n 0, 1) := by decide +kernel
theorem dJ9_max_7cf53_6 : decode cJ9_max_7cf53 6 = .ok (.goto 4, 3) := by decide +kernel
theorem dJ9_max_7cf53_9 : decode cJ9_max_7cf53 9 = .ok (.iload_n 1, 1) := by decide +kernel
theorem dJ9_max_7cf53_10 : decode cJ9_max_7cf53 10 = .ok (.ireturn, 1) := by decide +kernel
theorem dJ9_min_7cf53_0 : decode cJ9_min_7cf53 0 = .ok (.iload_n 0, 1) := by decide +kernel
theorem dJ9_min_7cf53_1 : decode cJ9_min_7cf53 1 = .ok (.iload_n 1, 1) := by decide +kernel
theorem dJ9_min_7cf53_2 : decode cJ9_min_7cf53 2 = .ok (.if_icmp .gt 7, 3) := by decide +kernel
theorem dJ9_min_7cf53_5 : decode cJ9_min_7cf53 5 = .ok (.iload_n 0, 1) := by decide +kernel
theorem dJ9_min_7cf53_6 : decode cJ9_min_7cf53 6 = .ok (.goto 4, 3) := by decide +kernel
theorem dJ9_min_7cf53_9 : decode cJ9_min_7cf53 9 = .ok (.iload_n 1, 1) := by decide +kernel
theorem dJ9_min_7cf53_10 : decode cJ9_min_7cf53 10 = .ok (.ireturn, 1) := by decide +kernel
theorem dX6_init_0 : decode cX6_init 0 = .ok (.aload_n 0, 1) := by decide +kernel
theorem dX6_init_1 : decode cX6_init 1 = .ok (.invokespecial 1, 3) := by decide +kernel
theorem dX6_init_4 : decode cX6_init 4 = .ok (.aload_n 0, 1) := by decide +kernel
theorem dX6_init_5 : decode cX6_init 5 = .ok (.new 7, 3) := by decide +kernel
theorem dX6_init_8 : decode cX6_init 8 = .ok (.dup, 1) := by decide +kernel
theorem dX6_init_9 : decode cX6_init 9 = .ok (.invokespecial 9, 3) := by decide +kernel
theorem dX6_init_12 : decode cX6_init 12 = .ok (.putfield 10, 3) := by decide +kernel
theorem dX6_init_15 : decode cX6_init 15 = .ok (.aload_n 0, 1) := by decide +kernel
theorem dX6_init_16 : decode cX6_init 16 = .ok (.new 7, 3) := by decide +kernel
theorem dX6_init_19 : decode cX6_init 19 = .ok (.dup, 1) := by decide +kernel
theorem dX6_init_20 : decode cX6_init 20 = .ok (.invokespecial 9, 3) := by decide +kernel
theorem dX6_init_23 : decode cX6_init 23 = .ok (.putfield 16, 3) := by decide +kernel
theorem dX6_init_26 : decode cX6_init 26 = .ok (.aload_n 0, 1) := by decide +kernel
theorem dX6_init_27 : decode cX6_init 27 = .ok (.new 19, 3) := by decide +kernel
theorem dX6_init_30 : decode cX6_init 30 = .ok (.dup, 1) := by decide +kernel
theorem dX6_init_31 : decode cX6_init 31 = .ok (.invokespecial 21, 3) := by decide +kernel
theorem dX6_init_34 : decode cX6_init 34 = .ok (.putfield 22, 3) := by decide +kernel
theorem dX6_init_37 : decode cX6_init 37 = .ok (.aload_n 0, 1) := by decide +kernel
theorem dX6_init_38 : decode cX6_init 38 = .ok (.new 26, 3) := by decide +kernel
theorem dX6_init_41 : decode cX6_init 41 = .ok (.dup, 1) := by decide +kernel
theorem dX6_init_42 : decode cX6_init 42 = .ok (.invokespecial 28, 3) := by decide +kernel
theorem dX6_init_45 : decode cX6_init 45 = .ok (.putfield 29, 3) := by decide +kernel
theorem dX6_init_48 : decode cX6_init 48 = .ok (.return_, 1) := by decide +kernel
theorem dX6_addStreet_0 : decode cX6_addStreet 0 = .ok (.iload_n 1, 1) := by decide +kernel
theorem dX6_addStreet_1 : decode cX6_addStreet 1 = .ok (.bipush 10, 2) := by decide +kernel
theorem dX6_addStreet_3 : decode cX6_addStreet 3 = .ok (.sipush 2000, 3) := by decide +kernel
theorem dX6_addStreet_6 : decode cX6_addStreet 6 = .ok (.invokestatic 33, 3) := by decide +kernel
theorem dX6_addStreet_9 : decode cX6_addStreet 9 = .ok (.iload_n 2, 1) := by decide +kernel
theorem dX6_addStreet_10 : decode cX6_addStreet 10 = .ok (.iconst 0, 1) := by decide +kernel
theorem dX6_addStreet_11 : decode cX6_addStreet 11 = .ok (.iconst 2, 1) := by decide +kernel
theorem dX6_addStreet_12 : decode cX6_addStreet 12 = .ok (.invokestatic 33, 3) := by decide +kernel
theorem dX6_addStreet_15 : decode cX6_addStreet 15 = .ok (.aload_n 0, 1) := by decide +kernel
theorem dX6_addStreet_16 : decode cX6_addStreet 16 = .ok (.getfield 10, 3) := by decide +kernel
theorem dX6_addStreet_19 : decode cX6_addStreet 19 = .ok (.getfield 37, 3) := by decide +kernel
theorem dX6_addStreet_22 : decode cX6_addStreet 22 = .ok (.bipush 20, 2) := by decide +kernel
theorem dX6_addStreet_24 : decode cX6_addStreet 24 = .ok (.if_icmp .lt 13, 3) := by decide +kernel
theorem dX6_addStreet_27 : decode cX6_addStreet 27 = .ok (.new 41, 3) := by decide +kernel
theorem dX6_addStreet_30 : decode cX6_addStreet 30 = .ok (.dup, 1) := by decide +kernel
theorem dX6_addStreet_31 : decode cX6_addStreet 31 = .ok (.ldc 43, 2) := by decide +kernel
theorem dX6_addStreet_33 : decode cX6_addStreet 33 = .ok (.invokespecial 45, 3) := by decide +kernel
theorem dX6_addStreet_36 : decode cX6_addStreet 36 = .ok (.athrow, 1) := by decide +kernel
theorem dX6_addStreet_37 : decode cX6_addStreet 37 = .ok (.aload_n 0, 1) := by decide +kernel
theorem dX6_addStreet_38 : decode cX6_addStreet 38 = .ok (.getfield 22, 3) := by decide +kernel
theorem dX6_addStreet_41 : decode cX6_addStreet 41 = .ok (.aload_n 0, 1) := by decide +kernel
theorem dX6_addStreet_42 : decode cX6_addStreet 42 = .ok (.getfield 10, 3) := by decide +kernel
theorem dX6_addStreet_45 : decode cX6_addStreet 45 = .ok (.invokevirtual 48, 3) := by decide +kernel
theorem dX6_addStreet_48 : decode cX6_addStreet 48 = .ok (.aload_n 0, 1) := by decide +kernel
theorem dX6_addStreet_49 : decode cX6_addStreet 49 = .ok (.getfield 10, 3) := by decide +kernel
theorem dX6_addStreet_52 : decode cX6_addStreet 52 = .ok (.getfield 52, 3) := by decide +kernel
theorem dX6_addStreet_55 : decode cX6_addStreet 55 = .ok (.aload_n 0, 1) := by decide +kernel
theorem dX6_addStreet_56 : decode cX6_addStreet 56 = .ok (.getfield 10, 3) := by decide +kernel
theorem dX6_addStreet_59 : decode cX6_addStreet 59 = .ok (.getfield 37, 3) := by decide +kernel
theorem dX6_addStreet_62 : decode cX6_addStreet 62 = .ok (.aaload, 1) := by decide +kernel
theorem dX6_addStreet_63 : decode cX6_addStreet 63 = .ok (.iload_n 1, 1) := by decide +kernel
theorem dX6_addStreet_64 : decode cX6_addStreet 64 = .ok (.iload_n 2, 1) := by decide +kernel
theorem dX6_addStreet_65 : decode cX6_addStreet 65 = .ok (.invokevirtual 56, 3) := by decide +kernel
theorem dX6_addStreet_68 : decode cX6_addStreet 68 = .ok (.aload_n 0, 1) := by decide +kernel
theorem dX6_addStreet_69 : decode cX6_addStreet 69 = .ok (.getfield 10, 3) := by decide +kernel
theorem dX6_addStreet_72 : decode cX6_addStreet 72 = .ok (.dup, 1) := by decide +kernel
theorem dX6_addStreet_73 : decode cX6_addStreet 73 = .ok (.getfield 37, 3) := by decide +kernel
theorem dX6_addStreet_76 : decode cX6_addStreet 76 = .ok (.iconst 1, 1) := by decide +kernel
theorem dX6_addStreet_77 : decode cX6_addStreet 77 = .ok (.iadd, 1) := by decide +kernel
theorem dX6_addStreet_78 : decode cX6_addStreet 78 = .ok (.putfield 37, 3) := by decide +kernel
theorem dX6_addStreet_81 : decode cX6_addStreet 81 = .ok (.aload_n 0, 1) := by decide +kernel
theorem dX6_addStreet_82 : decode cX6_addStreet 82 = .ok (.getfield 10, 3) := by decide +kernel
theorem dX6_addStreet_85 : decode cX6_addStreet 85 = .ok (.getfield 37, 3) := by decide +kernel
theorem dX6_addStreet_88 : decode cX6_addStreet 88 = .ok (.iconst 1, 1) := by decide +kernel
theorem dX6_addStreet_89 : decode cX6_addStreet 89 = .ok (.isub, 1) := by decide +kernel
theorem dX6_addStreet_90 : decode cX6_addStreet 90 = .ok (.ireturn, 1) := by decide +kernel
theorem dX6_addPlow_0 : decode cX6_addPlow 0 = .ok (.iload_n 1, 1) := by decide +kernel
theorem dX6_addPlow_1 : decode cX6_addPlow 1 = .ok (.bipush 100, 2) := by decide +kernel
theorem dX6_addPlow_3 : decode cX6_addPlow 3 = .ok (.sipush 5000, 3) := by decide +kernel
theorem dX6_addPlow_6 : decode cX6_addPlow 6 = .ok (.invokestatic 33, 3) := by decide +kernel
theorem dX6_addPlow_9 : decode cX6_addPlow 9 = .ok (.iload_n 2, 1) := by decide +kernel
theorem dX6_addPlow_10 : decode cX6_addPlow 10 = .ok (.iconst 0, 1) := by decide +kernel
theorem dX6_addPlow_11 : decode cX6_addPlow 11 = .ok (.sipush 5000, 3) := by decide +kernel
theorem dX6_addPlow_14 : decode cX6_addPlow 14 = .ok (.invokestatic 33, 3) := by decide +kernel
theorem dX6_addPlow_17 : decode cX6_addPlow 17 = .ok (.aload_n 0, 1) := by decide +kernel
theorem dX6_addPlow_18 : decode cX6_addPlow 18 = .ok (.getfield 10, 3) := by decide +kernel
theorem dX6_addPlow_21 : decode cX6_addPlow 21 = .ok (.getfield 62, 3) := by decide +kernel
theorem dX6_addPlow_24 : decode cX6_addPlow 24 = .ok (.iconst 3, 1) := by decide +kernel
theorem dX6_addPlow_25 : decode cX6_addPlow 25 = .ok (.if_icmp .lt 13, 3) := by decide +kernel
theorem dX6_addPlow_28 : decode cX6_addPlow 28 = .ok (.new 41, 3) := by decide +kernel
theorem dX6_addPlow_31 : decode cX6_addPlow 31 = .ok (.dup, 1) := by decide +kernel
theorem dX6_addPlow_32 : decode cX6_addPlow 32 = .ok (.ldc 65, 2) := by decide +kernel
theorem dX6_addPlow_34 : decode cX6_addPlow 34 = .ok (.invokespecial 45, 3) := by decide +kernel
theorem dX6_addPlow_37 : decode cX6_addPlow 37 = .ok (.athrow, 1) := by decide +kernel
theorem dX6_addPlow_38 : decode cX6_addPlow 38 = .ok (.aload_n 0, 1) := by decide +kernel
theorem dX6_addPlow_39 : decode cX6_addPlow 39 = .ok (.getfield 22, 3) := by decide +kernel
theorem dX6_addPlow_42 : decode cX6_addPlow 42 = .ok (.aload_n 0, 1) := by decide +kernel
theorem dX6_addPlow_43 : decode cX6_addPlow 43 = .ok (.getfield 10, 3) := by decide +kernel
theorem dX6_addPlow_46 : decode cX6_addPlow 46 = .ok (.invokevirtual 48, 3) := by decide +kernel
theorem dX6_addPlow_49 : decode cX6_addPlow 49 = .ok (.aload_n 0, 1) := by decide +kernel
theorem dX6_addPlow_50 : decode cX6_addPlow 50 = .ok (.getfield 10, 3) := by decide +kernel
theorem dX6_addPlow_53 : decode cX6_addPlow 53 = .ok (.getfield 67, 3) := by decide +kernel
theorem dX6_addPlow_56 : decode cX6_addPlow 56 = .ok (.aload_n 0, 1) := by decide +kernel
theorem dX6_addPlow_57 : decode cX6_addPlow 57 = .ok (.getfield 10, 3) := by decide +kernel
theorem dX6_addPlow_60 : decode cX6_addPlow 60 = .ok (.getfield 62, 3) := by decide +kernel
theorem dX6_addPlow_63 : decode cX6_addPlow 63 = .ok (.aaload, 1) := by decide +kernel
theorem dX6_addPlow_64 : decode cX6_addPlow 64 = .ok (.iload_n 1, 1) := by decide +kernel
theorem dX6_addPlow_65 : decode cX6_addPlow 65 = .ok (.iload_n 2, 1) := by decide +kernel
theorem dX6_addPlow_66 : decode cX6_addPlow 66 = .ok (.invokevirtual 71, 3) := by decide +kernel
theorem dX6_addPlow_69 : decode cX6_addPlow 69 = .ok (.aload_n 0, 1) := by decide +kernel
theorem dX6_addPlow_70 : decode cX6_addPlow 70 = .ok (.getfield 10, 3) := by decide +kernel
theorem dX6_addPlow_73 : decode cX6_addPlow 73 = .ok (.dup, 1) := by decide +kernel
theorem dX6_addPlow_74 : decode cX6_addPlow 74 = .ok (.getfield 62, 3) := by decide +kernel
theorem dX6_addPlow_77 : decode cX6_addPlow 77 = .ok (.iconst 1, 1) := by decide +kernel
theorem dX6_addPlow_78 : decode cX6_addPlow 78 = .ok (.iadd, 1) := by decide +kernel
theorem dX6_addPlow_79 : decode cX6_addPlow 79 = .ok (.putfield 62, 3) := by decide +kernel
theorem dX6_addPlow_82 : decode cX6_addPlow 82 = .ok (.aload_n 0, 1) := by decide +kernel
theorem dX6_addPlow_83 : decode cX6_addPlow 83 = .ok (.getfield 10, 3) := by decide +kernel
theorem dX6_addPlow_86 : decode cX6_addPlow 86 = .ok (.getfield 62, 3) := by decide +kernel
theorem dX6_addPlow_89 : decode cX6_addPlow 89 = .ok (.iconst 1, 1) := by decide +kernel
theorem dX6_addPlow_90 : decode cX6_addPlow 90 = .ok (.isub, 1) := by decide +kernel
theorem dX6_addPlow_91 : decode cX6_addPlow 91 = .ok (.ireturn, 1) := by decide +kernel
theorem dX6_addStop_0 : decode cX6_addStop 0 = .ok (.aload_n 0, 1) := by decide +kernel
theorem dX6_addStop_1 : decode cX6_addStop 1 = .ok (.iload_n 1, 1) := by decide +kernel
theorem dX6_addStop_2 : decode cX6_addStop 2 = .ok (.invokevirtual 74, 3) := by decide +kernel
theorem dX6_addStop_5 : decode cX6_addStop 5 = .ok (.aload_n 0, 1) := by decide +kernel
theorem dX6_addStop_6 : decode cX6_addStop 6 = .ok (.iload_n 2, 1) := by decide +kernel
theorem dX6_addStop_7 : decode cX6_addStop 7 = .ok (.invokevirtual 78, 3) := by decide +kernel
theorem dX6_addStop_10 : decode cX6_addStop 10 = .ok (.aload_n 0, 1) := by decide +kernel
theorem dX6_addStop_11 : decode cX6_addStop 11 = .ok (.getfield 10, 3) := by decide +kernel
theorem dX6_addStop_14 : decode cX6_addStop 14 = .ok (.getfield 67, 3) := by decide +kernel
theorem dX6_addStop_17 : decode cX6_addStop 17 = .ok (.iload_n 1, 1) := by decide +kernel
theorem dX6_addStop_18 : decode cX6_addStop 18 = .ok (.aaload, 1) := by decide +kernel
theorem dX6_addStop_19 : decode cX6_addStop 19 = .ok (.astore_n 3, 1) := by decide +kernel
theorem dX6_addStop_20 : decode cX6_addStop 20 = .ok (.aload_n 3, 1) := by decide +kernel
theorem dX6_addStop_21 : decode cX6_addStop 21 = .ok (.getfield 81, 3) := by decide +kernel
theorem dX6_addStop_24 : decode cX6_addStop 24 = .ok (.bipush 12, 2) := by decide +kernel
theorem dX6_addStop_26 : decode cX6_addStop 26 = .ok (.if_icmp .lt 13, 3) := by decide +kernel
theorem dX6_addStop_29 : decode cX6_addStop 29 = .ok (.new 41, 3) := by decide +kernel
theorem dX6_addStop_32 : decode cX6_addStop 32 = .ok (.dup, 1) := by decide +kernel
theorem dX6_addStop_33 : decode cX6_addStop 33 = .ok (.ldc 84, 2) := by decide +kernel
theorem dX6_addStop_35 : decode cX6_addStop 35 = .ok (.invokespecial 45, 3) := by decide +kernel
theorem dX6_addStop_38 : decode cX6_addStop 38 = .ok (.athrow, 1) := by decide +kernel
theorem dX6_addStop_39 : decode cX6_addStop 39 = .ok (.aload_n 0, 1) := by decide +kernel
theorem dX6_addStop_40 : decode cX6_addStop 40 = .ok (.getfield 22, 3) := by decide +kernel
theorem dX6_addStop_43 : decode cX6_addStop 43 = .ok (.aload_n 0, 1) := by decide +kernel
theorem dX6_addStop_44 : decode cX6_addStop 44 = .ok (.getfield 10, 3) := by decide +kernel
theorem dX6_addStop_47 : decode cX6_addStop 47 = .ok (.invokevirtual 48, 3) := by decide +kernel
theorem dX6_addStop_50 : decode cX6_addStop 50 = .ok (.aload_n 3, 1) := by decide +kernel
theorem dX6_addStop_51 : decode cX6_addStop 51 = .ok (.getfield 86, 3) := by decide +kernel
theorem dX6_addStop_54 : decode cX6_addStop 54 = .ok (.aload_n 3, 1) := by decide +kernel
theorem dX6_addStop_55 : decode cX6_addStop 55 = .ok (.getfield 81, 3) := by decide +kernel
theorem dX6_addStop_58 : decode cX6_addStop 58 = .ok (.iload_n 2, 1) := by decide +kernel
theorem dX6_addStop_59 : decode cX6_addStop 59 = .ok (.iastore, 1) := by decide +kernel
theorem dX6_addStop_60 : decode cX6_addStop 60 = .ok (.aload_n 3, 1) := by decide +kernel
theorem dX6_addStop_61 : decode cX6_addStop 61 = .ok (.dup, 1) := by decide +kernel
theorem dX6_addStop_62 : decode cX6_addStop 62 = .ok (.getfield 81, 3) := by decide +kernel
theorem dX6_addStop_65 : decode cX6_addStop 65 = .ok (.iconst 1, 1) := by decide +kernel
theorem dX6_addStop_66 : decode cX6_addStop 66 = .ok (.iadd, 1) := by decide +kernel
theorem dX6_addStop_67 : decode cX6_addStop 67 = .ok (.putfield 81, 3) := by decide +kernel
theorem dX6_addStop_70 : decode cX6_addStop 70 = .ok (.aload_n 3, 1) := by decide +kernel
theorem dX6_addStop_71 : decode cX6_addStop 71 = .ok (.getfield 81, 3) := by decide +kernel
theorem dX6_addStop_74 : decode cX6_addStop 74 = .ok (.ireturn, 1) := by decide +kernel
theorem dX6_clearRoute_0 : decode cX6_clearRoute 0 = .ok (.aload_n 0, 1) := by decide +kernel
theorem dX6_clearRoute_1 : decode cX6_clearRoute 1 = .ok (.iload_n 1, 1) := by decide +kernel
theorem dX6_clearRoute_2 : decode cX6_clearRoute 2 = .ok (.invokevirtual 74, 3) := by decide +kernel
theorem dX6_clearRoute_5 : decode cX6_clearRoute 5 = .ok (.aload_n 0, 1) := by decide +kernel
theorem dX6_clearRoute_6 : decode cX6_clearRoute 6 = .ok (.getfield 22, 3) := by decide +kernel
theorem dX6_clearRoute_9 : decode cX6_clearRoute 9 = .ok (.aload_n 0, 1) := by decide +kernel
theorem dX6_clearRoute_10 : decode cX6_clearRoute 10 = .ok (.getfield 10, 3) := by decide +kernel
theorem dX6_clearRoute_13 : decode cX6_clearRoute 13 = .ok (.invokevirtual 48, 3) := by decide +kernel
theorem dX6_clearRoute_16 : decode cX6_clearRoute 16 = .ok (.aload_n 0, 1) := by decide +kernel
theorem dX6_clearRoute_17 : decode cX6_clearRoute 17 = .ok (.getfield 10, 3) := by decide +kernel
theorem dX6_clearRoute_20 : decode cX6_clearRoute 20 = .ok (.getfield 67, 3) := by decide +kernel
theorem dX6_clearRoute_23 : decode cX6_clearRoute 23 = .ok (.iload_n 1, 1) := by decide +kernel
theorem dX6_clearRoute_24 : decode cX6_clearRoute 24 = .ok (.aaload, 1) := by decide +kernel
theorem dX6_clearRoute_25 : decode cX6_clearRoute 25 = .ok (.invokevirtual 90, 3) := by decide +kernel
theorem dX6_clearRoute_28 : decode cX6_clearRoute 28 = .ok (.ireturn, 1) := by decide +kernel
theorem dX6_exchange_0 : decode cX6_exchange 0 = .ok (.aload_n 0, 1) := by decide +kernel
theorem dX6_exchange_1 : decode cX6_exchange 1 = .ok (.iload_n 1, 1) := by decide +kernel
theorem dX6_exchange_2 : decode cX6_exchange 2 = .ok (.invokevirtual 74, 3) := by decide +kernel
theorem dX6_exchange_5 : decode cX6_exchange 5 = .ok (.aload_n 0, 1) := by decide +kernel
theorem dX6_exchange_6 : decode cX6_exchange 6 = .ok (.getfield 10, 3) := by decide +kernel
theorem dX6_exchange_9 : decode cX6_exchange 9 = .ok (.getfield 67, 3) := by decide +kernel
theorem dX6_exchange_12 : decode cX6_exchange 12 = .ok (.iload_n 1, 1) := by decide +kernel
theorem dX6_exchange_13 : decode cX6_exchange 13 = .ok (.aaload, 1) := by decide +kernel
theorem dX6_exchange_14 : decode cX6_exchange 14 = .ok (.astore_n 3, 1) := by decide +kernel
theorem dX6_exchange_15 : decode cX6_exchange 15 = .ok (.iload_n 2, 1) := by decide +kernel
theorem dX6_exchange_16 : decode cX6_exchange 16 = .ok (.aload_n 3, 1) := by decide +kernel
theorem dX6_exchange_17 : decode cX6_exchange 17 = .ok (.getfield 81, 3) := by decide +kernel
theorem dX6_exchange_20 : decode cX6_exchange 20 = .ok (.iconst 1, 1) := by decide +kernel
theorem dX6_exchange_21 : decode cX6_exchange 21 = .ok (.isub, 1) := by decide +kernel
theorem dX6_exchange_22 : decode cX6_exchange 22 = .ok (.invokestatic 94, 3) := by decide +kernel
theorem dX6_exchange_25 : decode cX6_exchange 25 = .ok (.aload_n 3, 1) := by decide +kernel
theorem dX6_exchange_26 : decode cX6_exchange 26 = .ok (.iload_n 2, 1) := by decide +kernel
theorem dX6_exchange_27 : decode cX6_exchange 27 = .ok (.invokevirtual 97, 3) := by decide +kernel
theorem dX6_exchange_30 : decode cX6_exchange 30 = .ok (.ifCond .eq 13, 3) := by decide +kernel
theorem dX6_exchange_33 : decode cX6_exchange 33 = .ok (.new 41, 3) := by decide +kernel
theorem dX6_exchange_36 : decode cX6_exchange 36 = .ok (.dup, 1) := by decide +kernel
theorem dX6_exchange_37 : decode cX6_exchange 37 = .ok (.ldc 101, 2) := by decide +kernel
theorem dX6_exchange_39 : decode cX6_exchange 39 = .ok (.invokespecial 45, 3) := by decide +kernel
theorem dX6_exchange_42 : decode cX6_exchange 42 = .ok (.athrow, 1) := by decide +kernel
theorem dX6_exchange_43 : decode cX6_exchange 43 = .ok (.aload_n 0, 1) := by decide +kernel
theorem dX6_exchange_44 : decode cX6_exchange 44 = .ok (.getfield 22, 3) := by decide +kernel
theorem dX6_exchange_47 : decode cX6_exchange 47 = .ok (.aload_n 0, 1) := by decide +kernel
theorem dX6_exchange_48 : decode cX6_exchange 48 = .ok (.getfield 10, 3) := by decide +kernel
theorem dX6_exchange_51 : decode cX6_exchange 51 = .ok (.invokevirtual 48, 3) := by decide +kernel
theorem dX6_exchange_54 : decode cX6_exchange 54 = .ok (.aload_n 3, 1) := by decide +kernel
theorem dX6_exchange_55 : decode cX6_exchange 55 = .ok (.iload_n 2, 1) := by decide +kernel
theorem dX6_exchange_56 : decode cX6_exchange 56 = .ok (.invokevirtual 103, 3) := by decide +kernel
theorem dX6_exchange_59 : decode cX6_exchange 59 = .ok (.aload_n 3, 1) := by decide +kernel
theorem dX6_exchange_60 : decode cX6_exchange 60 = .ok (.getfield 86, 3) := by decide +kernel
theorem dX6_exchange_63 : decode cX6_exchange 63 = .ok (.iload_n 2, 1) := by decide +kernel
theorem dX6_exchange_64 : decode cX6_exchange 64 = .ok (.iaload, 1) := by decide +kernel
theorem dX6_exchange_65 : decode cX6_exchange 65 = .ok (.ireturn, 1) := by decide +kernel
theorem dX6_setTerms_0 : decode cX6_setTerms 0 = .ok (.iload_n 1, 1) := by decide +kernel
theorem dX6_setTerms_1 : decode cX6_setTerms 1 = .ok (.iconst 3, 1) := by decide +kernel
theorem dX6_setTerms_2 : decode cX6_setTerms 2 = .ok (.invokestatic 94, 3) := by decide +kernel
theorem dX6_setTerms_5 : decode cX6_setTerms 5 = .ok (.iload_n 2, 1) := by decide +kernel
theorem dX6_setTerms_6 : decode cX6_setTerms 6 = .ok (.iconst 1, 1) := by decide +kernel
theorem dX6_setTerms_7 : decode cX6_setTerms 7 = .ok (.sipush 200, 3) := by decide +kernel
theorem dX6_setTerms_10 : decode cX6_setTerms 10 = .ok (.invokestatic 33, 3) := by decide +kernel
theorem dX6_setTerms_13 : decode cX6_setTerms 13 = .ok (.iload_n 3, 1) := by decide +kernel
theorem dX6_setTerms_14 : decode cX6_setTerms 14 = .ok (.iconst 1, 1) := by decide +kernel
theorem dX6_setTerms_15 : decode cX6_setTerms 15 = .ok (.bipush 48, 2) := by decide +kernel
theorem dX6_setTerms_17 : decode cX6_setTerms 17 = .ok (.invokestatic 33, 3) := by decide +kernel
theorem dX6_setTerms_20 : decode cX6_setTerms 20 = .ok (.iload 4, 2) := by decide +kernel
theorem dX6_setTerms_22 : decode cX6_setTerms 22 = .ok (.iconst 0, 1) := by decide +kernel
theorem dX6_setTerms_23 : decode cX6_setTerms 23 = .ok (.sipush 1000, 3) := by decide +kernel
theorem dX6_setTerms_26 : decode cX6_setTerms 26 = .ok (.invokestatic 33, 3) := by decide +kernel
theorem dX6_setTerms_29 : decode cX6_setTerms 29 = .ok (.aload_n 0, 1) := by decide +kernel
theorem dX6_setTerms_30 : decode cX6_setTerms 30 = .ok (.getfield 22, 3) := by decide +kernel
theorem dX6_setTerms_33 : decode cX6_setTerms 33 = .ok (.aload_n 0, 1) := by decide +kernel
theorem dX6_setTerms_34 : decode cX6_setTerms 34 = .ok (.getfield 10, 3) := by decide +kernel
theorem dX6_setTerms_37 : decode cX6_setTerms 37 = .ok (.invokevirtual 48, 3) := by decide +kernel
theorem dX6_setTerms_40 : decode cX6_setTerms 40 = .ok (.aload_n 0, 1) := by decide +kernel
theorem dX6_setTerms_41 : decode cX6_setTerms 41 = .ok (.getfield 10, 3) := by decide +kernel
theorem dX6_setTerms_44 : decode cX6_setTerms 44 = .ok (.getfield 106, 3) := by decide +kernel
theorem dX6_setTerms_47 : decode cX6_setTerms 47 = .ok (.iload_n 1, 1) := by decide +kernel
theorem dX6_setTerms_48 : decode cX6_setTerms 48 = .ok (.aaload, 1) := by decide +kernel
theorem dX6_setTerms_49 : decode cX6_setTerms 49 = .ok (.astore 5, 2) := by decide +kernel
theorem dX6_setTerms_51 : decode cX6_setTerms 51 = .ok (.aload 5, 2) := by decide +kernel
theorem dX6_setTerms_53 : decode cX6_setTerms 53 = .ok (.getfield 110, 3) := by decide +kernel
theorem dX6_setTerms_56 : decode cX6_setTerms 56 = .ok (.istore 6, 2) := by decide +kernel
theorem dX6_setTerms_58 : decode cX6_setTerms 58 = .ok (.aload 5, 2) := by decide +kernel
theorem dX6_setTerms_60 : decode cX6_setTerms 60 = .ok (.iload_n 2, 1) := by decide +kernel
theorem dX6_setTerms_61 : decode cX6_setTerms 61 = .ok (.putfield 110, 3) := by decide +kernel
theorem dX6_setTerms_64 : decode cX6_setTerms 64 = .ok (.aload 5, 2) := by decide +kernel
theorem dX6_setTerms_66 : decode cX6_setTerms 66 = .ok (.iload_n 3, 1) := by decide +kernel
theorem dX6_setTerms_67 : decode cX6_setTerms 67 = .ok (.putfield 115, 3) := by decide +kernel
theorem dX6_setTerms_70 : decode cX6_setTerms 70 = .ok (.aload 5, 2) := by decide +kernel
theorem dX6_setTerms_72 : decode cX6_setTerms 72 = .ok (.iload 4, 2) := by decide +kernel
theorem dX6_setTerms_74 : decode cX6_setTerms 74 = .ok (.putfield 118, 3) := by decide +kernel
theorem dX6_setTerms_77 : decode cX6_setTerms 77 = .ok (.iload 6, 2) := by decide +kernel
theorem dX6_setTerms_79 : decode cX6_setTerms 79 = .ok (.ireturn, 1) := by decide +kernel
theorem dX6_setSpread_0 : decode cX6_setSpread 0 = .ok (.iload_n 1, 1) := by decide +kernel
theorem dX6_setSpread_1 : decode cX6_setSpread 1 = .ok (.iconst 0, 1) := by decide +kernel
theorem dX6_setSpread_2 : decode cX6_setSpread 2 = .ok (.bipush 50, 2) := by decide +kernel
theorem dX6_setSpread_4 : decode cX6_setSpread 4 = .ok (.invokestatic 33, 3) := by decide +kernel
theorem dX6_setSpread_7 : decode cX6_setSpread 7 = .ok (.aload_n 0, 1) := by decide +kernel
theorem dX6_setSpread_8 : decode cX6_setSpread 8 = .ok (.getfield 22, 3) := by decide +kernel
theorem dX6_setSpread_11 : decode cX6_setSpread 11 = .ok (.aload_n 0, 1) := by decide +kernel
theorem dX6_setSpread_12 : decode cX6_setSpread 12 = .ok (.getfield 10, 3) := by decide +kernel
theorem dX6_setSpread_15 : decode cX6_setSpread 15 = .ok (.invokevirtual 48, 3) := by decide +kernel
theorem dX6_setSpread_18 : decode cX6_setSpread 18 = .ok (.aload_n 0, 1) := by decide +kernel
theorem dX6_setSpread_19 : decode cX6_setSpread 19 = .ok (.getfield 10, 3) := by decide +kernel
theorem dX6_setSpread_22 : decode cX6_setSpread 22 = .ok (.getfield 121, 3) := by decide +kernel
theorem dX6_setSpread_25 : decode cX6_setSpread 25 = .ok (.istore_n 2, 1) := by decide +kernel
theorem dX6_setSpread_26 : decode cX6_setSpread 26 = .ok (.aload_n 0, 1) := by decide +kernel
theorem dX6_setSpread_27 : decode cX6_setSpread 27 = .ok (.getfield 10, 3) := by decide +kernel
theorem dX6_setSpread_30 : decode cX6_setSpread 30 = .ok (.iload_n 1, 1) := by decide +kernel
theorem dX6_setSpread_31 : decode cX6_setSpread 31 = .ok (.putfield 121, 3) := by decide +kernel
theorem dX6_setSpread_34 : decode cX6_setSpread 34 = .ok (.iload_n 2, 1) := by decide +kernel
theorem dX6_setSpread_35 : decode cX6_setSpread 35 = .ok (.ireturn, 1) := by decide +kernel
theorem dX6_deliver_0 : decode cX6_deliver 0 = .ok (.iload_n 1, 1) := by decide +kernel
theorem dX6_deliver_1 : decode cX6_deliver 1 = .ok (.iconst 0, 1) := by decide +kernel
theorem dX6_deliver_2 : decode cX6_deliver 2 = .ok (.ldc 124, 2) := by decide +kernel
theorem dX6_deliver_4 : decode cX6_deliver 4 = .ok (.invokestatic 33, 3) := by decide +kernel
theorem dX6_deliver_7 : decode cX6_deliver 7 = .ok (.aload_n 0, 1) := by decide +kernel
theorem dX6_deliver_8 : decode cX6_deliver 8 = .ok (.getfield 10, 3) := by decide +kernel
theorem dX6_deliver_11 : decode cX6_deliver 11 = .ok (.getfield 125, 3) := by decide +kernel
theorem dX6_deliver_14 : decode cX6_deliver 14 = .ok (.iload_n 1, 1) := by decide +kernel
theorem dX6_deliver_15 : decode cX6_deliver 15 = .ok (.iadd, 1) := by decide +kernel
theorem dX6_deliver_16 : decode cX6_deliver 16 = .ok (.ldc 124, 2) := by decide +kernel
theorem dX6_deliver_18 : decode cX6_deliver 18 = .ok (.if_icmp .le 13, 3) := by decide +kernel
theorem dX6_deliver_21 : decode cX6_deliver 21 = .ok (.new 41, 3) := by decide +kernel
theorem dX6_deliver_24 : decode cX6_deliver 24 = .ok (.dup, 1) := by decide +kernel
theorem dX6_deliver_25 : decode cX6_deliver 25 = .ok (.ldc 128, 2) := by decide +kernel
theorem dX6_deliver_27 : decode cX6_deliver 27 = .ok (.invokespecial 45, 3) := by decide +kernel
theorem dX6_deliver_30 : decode cX6_deliver 30 = .ok (.athrow, 1) := by decide +kernel
theorem dX6_deliver_31 : decode cX6_deliver 31 = .ok (.aload_n 0, 1) := by decide +kernel
theorem dX6_deliver_32 : decode cX6_deliver 32 = .ok (.getfield 22, 3) := by decide +kernel
theorem dX6_deliver_35 : decode cX6_deliver 35 = .ok (.aload_n 0, 1) := by decide +kernel
theorem dX6_deliver_36 : decode cX6_deliver 36 = .ok (.getfield 10, 3) := by decide +kernel
theorem dX6_deliver_39 : decode cX6_deliver 39 = .ok (.invokevirtual 48, 3) := by decide +kernel
theorem dX6_deliver_42 : decode cX6_deliver 42 = .ok (.aload_n 0, 1) := by decide +kernel
theorem dX6_deliver_43 : decode cX6_deliver 43 = .ok (.getfield 10, 3) := by decide +kernel
theorem dX6_deliver_46 : decode cX6_deliver 46 = .ok (.dup, 1) := by decide +kernel
theorem dX6_deliver_47 : decode cX6_deliver 47 = .ok (.getfield 125, 3) := by decide +kernel
theorem dX6_deliver_50 : decode cX6_deliver 50 = .ok (.iload_n 1, 1) := by decide +kernel
theorem dX6_deliver_51 : decode cX6_deliver 51 = .ok (.iadd, 1) := by decide +kernel
theorem dX6_deliver_52 : decode cX6_deliver 52 = .ok (.putfield 125, 3) := by decide +kernel
theorem dX6_deliver_55 : decode cX6_deliver 55 = .ok (.aload_n 0, 1) := by decide +kernel
theorem dX6_deliver_56 : decode cX6_deliver 56 = .ok (.getfield 10, 3) := by decide +kernel
theorem dX6_deliver_59 : decode cX6_deliver 59 = .ok (.dup, 1) := by decide +kernel
theorem dX6_deliver_60 : decode cX6_deliver 60 = .ok (.getfield 130, 3) := by decide +kernel
theorem dX6_deliver_63 : decode cX6_deliver 63 = .ok (.iload_n 1, 1) := by decide +kernel
theorem dX6_deliver_64 : decode cX6_deliver 64 = .ok (.iadd, 1) := by decide +kernel
theorem dX6_deliver_65 : decode cX6_deliver 65 = .ok (.putfield 130, 3) := by decide +kernel
theorem dX6_deliver_68 : decode cX6_deliver 68 = .ok (.aload_n 0, 1) := by decide +kernel
theorem dX6_deliver_69 : decode cX6_deliver 69 = .ok (.getfield 10, 3) := by decide +kernel
theorem dX6_deliver_72 : decode cX6_deliver 72 = .ok (.getfield 125, 3) := by decide +kernel
theorem dX6_deliver_75 : decode cX6_deliver 75 = .ok (.ireturn, 1) := by decide +kernel
theorem dX6_run_0 : decode cX6_run 0 = .ok (.iload_n 1, 1) := by decide +kernel
theorem dX6_run_1 : decode cX6_run 1 = .ok (.iload_n 2, 1) := by decide +kernel
theorem dX6_run_2 : decode cX6_run 2 = .ok (.invokestatic 133, 3) := by decide +kernel
theorem dX6_run_5 : decode cX6_run 5 = .ok (.iload_n 3, 1) := by decide +kernel
theorem dX6_run_6 : decode cX6_run 6 = .ok (.iconst 0, 1) := by decide +kernel
theorem dX6_run_7 : decode cX6_run 7 = .ok (.bipush 100, 2) := by decide +kernel
theorem dX6_run_9 : decode cX6_run 9 = .ok (.invokestatic 33, 3) := by decide +kernel
theorem dX6_run_12 : decode cX6_run 12 = .ok (.aload_n 0, 1) := by decide +kernel
theorem dX6_run_13 : decode cX6_run 13 = .ok (.iload_n 3, 1) := by decide +kernel
theorem dX6_run_14 : decode cX6_run 14 = .ok (.invokevirtual 136, 3) := by decide +kernel
theorem dX6_run_17 : decode cX6_run 17 = .ok (.aload_n 0, 1) := by decide +kernel
theorem dX6_run_18 : decode cX6_run 18 = .ok (.getfield 22, 3) := by decide +kernel
theorem dX6_run_21 : decode cX6_run 21 = .ok (.aload_n 0, 1) := by decide +kernel
theorem dX6_run_22 : decode cX6_run 22 = .ok (.getfield 10, 3) := by decide +kernel
theorem dX6_run_25 : decode cX6_run 25 = .ok (.invokevirtual 48, 3) := by decide +kernel
theorem dX6_run_28 : decode cX6_run 28 = .ok (.aload_n 0, 1) := by decide +kernel
theorem dX6_run_29 : decode cX6_run 29 = .ok (.getfield 10, 3) := by decide +kernel
theorem dX6_run_32 : decode cX6_run 32 = .ok (.iload_n 1, 1) := by decide +kernel
theorem dX6_run_33 : decode cX6_run 33 = .ok (.iload_n 2, 1) := by decide +kernel
theorem dX6_run_34 : decode cX6_run 34 = .ok (.iload_n 3, 1) := by decide +kernel
theorem dX6_run_35 : decode cX6_run 35 = .ok (.invokevirtual 139, 3) := by decide +kernel
theorem dX6_run_38 : decode cX6_run 38 = .ok (.ireturn, 1) := by decide +kernel
theorem dX6_value_0 : decode cX6_value 0 = .ok (.iload_n 1, 1) := by decide +kernel
theorem dX6_value_1 : decode cX6_value 1 = .ok (.iconst 0, 1) := by decide +kernel
theorem dX6_value_2 : decode cX6_value 2 = .ok (.bipush 9, 2) := by decide +kernel
theorem dX6_value_4 : decode cX6_value 4 = .ok (.invokestatic 33, 3) := by decide +kernel
theorem dX6_value_7 : decode cX6_value 7 = .ok (.aload_n 0, 1) := by decide +kernel
theorem dX6_value_8 : decode cX6_value 8 = .ok (.getfield 10, 3) := by decide +kernel
theorem dX6_value_11 : decode cX6_value 11 = .ok (.iload_n 1, 1) := by decide +kernel
theorem dX6_value_12 : decode cX6_value 12 = .ok (.invokevirtual 143, 3) := by decide +kernel
theorem dX6_value_15 : decode cX6_value 15 = .ok (.ireturn, 1) := by decide +kernel
theorem dX6_street_0 : decode cX6_street 0 = .ok (.aload_n 0, 1) := by decide +kernel
theorem dX6_street_1 : decode cX6_street 1 = .ok (.iload_n 1, 1) := by decide +kernel
theorem dX6_street_2 : decode cX6_street 2 = .ok (.invokevirtual 78, 3) := by decide +kernel
theorem dX6_street_5 : decode cX6_street 5 = .ok (.iload_n 2, 1) := by decide +kernel
theorem dX6_street_6 : decode cX6_street 6 = .ok (.iconst 0, 1) := by decide +kernel
theorem dX6_street_7 : decode cX6_street 7 = .ok (.bipush 8, 2) := by decide +kernel
theorem dX6_street_9 : decode cX6_street 9 = .ok (.invokestatic 33, 3) := by decide +kernel
theorem dX6_street_12 : decode cX6_street 12 = .ok (.aload_n 0, 1) := by decide +kernel
theorem dX6_street_13 : decode cX6_street 13 = .ok (.getfield 10, 3) := by decide +kernel
theorem dX6_street_16 : decode cX6_street 16 = .ok (.aload_n 0, 1) := by decide +kernel
theorem dX6_street_17 : decode cX6_street 17 = .ok (.getfield 10, 3) := by decide +kernel
theorem dX6_street_20 : decode cX6_street 20 = .ok (.getfield 52, 3) := by decide +kernel
theorem dX6_street_23 : decode cX6_street 23 = .ok (.iload_n 1, 1) := by decide +kernel
theorem dX6_street_24 : decode cX6_street 24 = .ok (.aaload, 1) := by decide +kernel
theorem dX6_street_25 : decode cX6_street 25 = .ok (.iload_n 2, 1) := by decide +kernel
theorem dX6_street_26 : decode cX6_street 26 = .ok (.invokevirtual 147, 3) := by decide +kernel
theorem dX6_street_29 : decode cX6_street 29 = .ok (.ireturn, 1) := by decide +kernel
theorem dX6_plow_0 : decode cX6_plow 0 = .ok (.aload_n 0, 1) := by decide +kernel
theorem dX6_plow_1 : decode cX6_plow 1 = .ok (.iload_n 1, 1) := by decide +kernel
theorem dX6_plow_2 : decode cX6_plow 2 = .ok (.invokevirtual 74, 3) := by decide +kernel
theorem dX6_plow_5 : decode cX6_plow 5 = .ok (.iload_n 2, 1) := by decide +kernel
theorem dX6_plow_6 : decode cX6_plow 6 = .ok (.iconst 0, 1) := by decide +kernel
theorem dX6_plow_7 : decode cX6_plow 7 = .ok (.bipush 7, 2) := by decide +kernel
theorem dX6_plow_9 : decode cX6_plow 9 = .ok (.invokestatic 33, 3) := by decide +kernel
theorem dX6_plow_12 : decode cX6_plow 12 = .ok (.aload_n 0, 1) := by decide +kernel
theorem dX6_plow_13 : decode cX6_plow 13 = .ok (.getfield 10, 3) := by decide +kernel
theorem dX6_plow_16 : decode cX6_plow 16 = .ok (.getfield 67, 3) := by decide +kernel
theorem dX6_plow_19 : decode cX6_plow 19 = .ok (.iload_n 1, 1) := by decide +kernel
theorem dX6_plow_20 : decode cX6_plow 20 = .ok (.aaload, 1) := by decide +kernel
theorem dX6_plow_21 : decode cX6_plow 21 = .ok (.iload_n 2, 1) := by decide +kernel
theorem dX6_plow_22 : decode cX6_plow 22 = .ok (.invokevirtual 151, 3) := by decide +kernel
theorem dX6_plow_25 : decode cX6_plow 25 = .ok (.ireturn, 1) := by decide +kernel
theorem dX6_stop_0 : decode cX6_stop 0 = .ok (.aload_n 0, 1) := by decide +kernel
theorem dX6_stop_1 : decode cX6_stop 1 = .ok (.iload_n 1, 1) := by decide +kernel
theorem dX6_stop_2 : decode cX6_stop 2 = .ok (.invokevirtual 74, 3) := by decide +kernel
theorem dX6_stop_5 : decode cX6_stop 5 = .ok (.aload_n 0, 1) := by decide +kernel
theorem dX6_stop_6 : decode cX6_stop 6 = .ok (.getfield 10, 3) := by decide +kernel
theorem dX6_stop_9 : decode cX6_stop 9 = .ok (.getfield 67, 3) := by decide +kernel
theorem dX6_stop_12 : decode cX6_stop 12 = .ok (.iload_n 1, 1) := by decide +kernel
theorem dX6_stop_13 : decode cX6_stop 13 = .ok (.aaload, 1) := by decide +kernel
theorem dX6_stop_14 : decode cX6_stop 14 = .ok (.astore_n 3, 1) := by decide +kernel
theorem dX6_stop_15 : decode cX6_stop 15 = .ok (.iload_n 2, 1) := by decide +kernel
theorem dX6_stop_16 : decode cX6_stop 16 = .ok (.aload_n 3, 1) := by decide +kernel
theorem dX6_stop_17 : decode cX6_stop 17 = .ok (.getfield 81, 3) := by decide +kernel
theorem dX6_stop_20 : decode cX6_stop 20 = .ok (.invokestatic 94, 3) := by decide +kernel
theorem dX6_stop_23 : decode cX6_stop 23 = .ok (.aload_n 3, 1) := by decide +kernel
theorem dX6_stop_24 : decode cX6_stop 24 = .ok (.getfield 86, 3) := by decide +kernel
theorem dX6_stop_27 : decode cX6_stop 27 = .ok (.iload_n 2, 1) := by decide +kernel
theorem dX6_stop_28 : decode cX6_stop 28 = .ok (.iaload, 1) := by decide +kernel
theorem dX6_stop_29 : decode cX6_stop 29 = .ok (.ireturn, 1) := by decide +kernel
theorem dX6_terms_0 : decode cX6_terms 0 = .ok (.iload_n 1, 1) := by decide +kernel
theorem dX6_terms_1 : decode cX6_terms 1 = .ok (.iconst 3, 1) := by decide +kernel
theorem dX6_terms_2 : decode cX6_terms 2 = .ok (.invokestatic 94, 3) := by decide +kernel
theorem dX6_terms_5 : decode cX6_terms 5 = .ok (.iload_n 2, 1) := by decide +kernel
theorem dX6_terms_6 : decode cX6_terms 6 = .ok (.iconst 0, 1) := by decide +kernel
theorem dX6_terms_7 : decode cX6_terms 7 = .ok (.iconst 3, 1) := by decide +kernel
theorem dX6_terms_8 : decode cX6_terms 8 = .ok (.invokestatic 33, 3) := by decide +kernel
theorem dX6_terms_11 : decode cX6_terms 11 = .ok (.aload_n 0, 1) := by decide +kernel
theorem dX6_terms_12 : decode cX6_terms 12 = .ok (.getfield 10, 3) := by decide +kernel
theorem dX6_terms_15 : decode cX6_terms 15 = .ok (.getfield 106, 3) := by decide +kernel
theorem dX6_terms_18 : decode cX6_terms 18 = .ok (.iload_n 1, 1) := by decide +kernel
theorem dX6_terms_19 : decode cX6_terms 19 = .ok (.aaload, 1) := by decide +kernel
theorem dX6_terms_20 : decode cX6_terms 20 = .ok (.iload_n 2, 1) := by decide +kernel
theorem dX6_terms_21 : decode cX6_terms 21 = .ok (.invokevirtual 152, 3) := by decide +kernel
theorem dX6_terms_24 : decode cX6_terms 24 = .ok (.ireturn, 1) := by decide +kernel
theorem dX6_meanDepth_0 : decode cX6_meanDepth 0 = .ok (.lconst 0, 1) := by decide +kernel
theorem dX6_meanDepth_1 : decode cX6_meanDepth 1 = .ok (.lstore_n 1, 1) := by decide +kernel
theorem dX6_meanDepth_2 : decode cX6_meanDepth 2 = .ok (.lconst 0, 1) := by decide +kernel
theorem dX6_meanDepth_3 : decode cX6_meanDepth 3 = .ok (.lstore_n 3, 1) := by decide +kernel
theorem dX6_meanDepth_4 : decode cX6_meanDepth 4 = .ok (.iconst 0, 1) := by decide +kernel
theorem dX6_meanDepth_5 : decode cX6_meanDepth 5 = .ok (.istore 5, 2) := by decide +kernel
theorem dX6_meanDepth_7 : decode cX6_meanDepth 7 = .ok (.iload 5, 2) := by decide +kernel
theorem dX6_meanDepth_9 : decode cX6_meanDepth 9 = .ok (.aload_n 0, 1) := by decide +kernel
theorem dX6_meanDepth_10 : decode cX6_meanDepth 10 = .ok (.getfield 10, 3) := by decide +kernel
theorem dX6_meanDepth_13 : decode cX6_meanDepth 13 = .ok (.getfield 37, 3) := by decide +kernel
theorem dX6_meanDepth_16 : decode cX6_meanDepth 16 = .ok (.if_icmp .ge 46, 3) := by decide +kernel
theorem dX6_meanDepth_19 : decode cX6_meanDepth 19 = .ok (.aload_n 0, 1) := by decide +kernel
theorem dX6_meanDepth_20 : decode cX6_meanDepth 20 = .ok (.getfield 10, 3) := by decide +kernel
theorem dX6_meanDepth_23 : decode cX6_meanDepth 23 = .ok (.getfield 52, 3) := by decide +kernel
theorem dX6_meanDepth_26 : decode cX6_meanDepth 26 = .ok (.iload 5, 2) := by decide +kernel
theorem dX6_meanDepth_28 : decode cX6_meanDepth 28 = .ok (.aaload, 1) := by decide +kernel
theorem dX6_meanDepth_29 : decode cX6_meanDepth 29 = .ok (.astore 6, 2) := by decide +kernel
theorem dX6_meanDepth_31 : decode cX6_meanDepth 31 = .ok (.lload_n 1, 1) := by decide +kernel
theorem dX6_meanDepth_32 : decode cX6_meanDepth 32 = .ok (.aload 6, 2) := by decide +kernel
theorem dX6_meanDepth_34 : decode cX6_meanDepth 34 = .ok (.getfield 153, 3) := by decide +kernel
theorem dX6_meanDepth_37 : decode cX6_meanDepth 37 = .ok (.i2l, 1) := by decide +kernel
theorem dX6_meanDepth_38 : decode cX6_meanDepth 38 = .ok (.aload 6, 2) := by decide +kernel
theorem dX6_meanDepth_40 : decode cX6_meanDepth 40 = .ok (.getfield 156, 3) := by decide +kernel
theorem dX6_meanDepth_43 : decode cX6_meanDepth 43 = .ok (.i2l, 1) := by decide +kernel
theorem dX6_meanDepth_44 : decode cX6_meanDepth 44 = .ok (.lmul, 1) := by decide +kernel
theorem dX6_meanDepth_45 : decode cX6_meanDepth 45 = .ok (.ladd, 1) := by decide +kernel
theorem dX6_meanDepth_46 : decode cX6_meanDepth 46 = .ok (.lstore_n 1, 1) := by decide +kernel
theorem dX6_meanDepth_47 : decode cX6_meanDepth 47 = .ok (.lload_n 3, 1) := by decide +kernel
theorem dX6_meanDepth_48 : decode cX6_meanDepth 48 = .ok (.aload 6, 2) := by decide +kernel
theorem dX6_meanDepth_50 : decode cX6_meanDepth 50 = .ok (.getfield 156, 3) := by decide +kernel
theorem dX6_meanDepth_53 : decode cX6_meanDepth 53 = .ok (.i2l, 1) := by decide +kernel
theorem dX6_meanDepth_54 : decode cX6_meanDepth 54 = .ok (.ladd, 1) := by decide +kernel
theorem dX6_meanDepth_55 : decode cX6_meanDepth 55 = .ok (.lstore_n 3, 1) := by decide +kernel
theorem dX6_meanDepth_56 : decode cX6_meanDepth 56 = .ok (.iinc 5 1, 3) := by decide +kernel
theorem dX6_meanDepth_59 : decode cX6_meanDepth 59 = .ok (.goto (-52), 3) := by decide +kernel
theorem dX6_meanDepth_62 : decode cX6_meanDepth 62 = .ok (.lload_n 3, 1) := by decide +kernel
theorem dX6_meanDepth_63 : decode cX6_meanDepth 63 = .ok (.lconst 0, 1) := by decide +kernel
theorem dX6_meanDepth_64 : decode cX6_meanDepth 64 = .ok (.lcmp, 1) := by decide +kernel
theorem dX6_meanDepth_65 : decode cX6_meanDepth 65 = .ok (.ifCond .ne 7, 3) := by decide +kernel
theorem dX6_meanDepth_68 : decode cX6_meanDepth 68 = .ok (.dconst 0, 1) := by decide +kernel
theorem dX6_meanDepth_69 : decode cX6_meanDepth 69 = .ok (.goto 8, 3) := by decide +kernel
theorem dX6_meanDepth_72 : decode cX6_meanDepth 72 = .ok (.lload_n 1, 1) := by decide +kernel
theorem dX6_meanDepth_73 : decode cX6_meanDepth 73 = .ok (.l2d, 1) := by decide +kernel
theorem dX6_meanDepth_74 : decode cX6_meanDepth 74 = .ok (.lload_n 3, 1) := by decide +kernel
theorem dX6_meanDepth_75 : decode cX6_meanDepth 75 = .ok (.l2d, 1) := by decide +kernel
theorem dX6_meanDepth_76 : decode cX6_meanDepth 76 = .ok (.ddiv, 1) := by decide +kernel
theorem dX6_meanDepth_77 : decode cX6_meanDepth 77 = .ok (.dreturn, 1) := by decide +kernel
theorem dX6_creditsIn_0 : decode cX6_creditsIn 0 = .ok (.iload_n 1, 1) := by decide +kernel
theorem dX6_creditsIn_1 : decode cX6_creditsIn 1 = .ok (.iload_n 2, 1) := by decide +kernel
theorem dX6_creditsIn_2 : decode cX6_creditsIn 2 = .ok (.invokestatic 133, 3) := by decide +kernel
theorem dX6_creditsIn_5 : decode cX6_creditsIn 5 = .ok (.iload_n 3, 1) := by decide +kernel
theorem dX6_creditsIn_6 : decode cX6_creditsIn 6 = .ok (.iconst 0, 1) := by decide +kernel
theorem dX6_creditsIn_7 : decode cX6_creditsIn 7 = .ok (.bipush 100, 2) := by decide +kernel
theorem dX6_creditsIn_9 : decode cX6_creditsIn 9 = .ok (.invokestatic 33, 3) := by decide +kernel
theorem dX6_creditsIn_12 : decode cX6_creditsIn 12 = .ok (.aload_n 0, 1) := by decide +kernel
theorem dX6_creditsIn_13 : decode cX6_creditsIn 13 = .ok (.getfield 16, 3) := by decide +kernel
theorem dX6_creditsIn_16 : decode cX6_creditsIn 16 = .ok (.aload_n 0, 1) := by decide +kernel
theorem dX6_creditsIn_17 : decode cX6_creditsIn 17 = .ok (.getfield 10, 3) := by decide +kernel
theorem dX6_creditsIn_20 : decode cX6_creditsIn 20 = .ok (.invokevirtual 159, 3) := by decide +kernel
theorem dX6_creditsIn_23 : decode cX6_creditsIn 23 = .ok (.aload_n 0, 1) := by decide +kernel
theorem dX6_creditsIn_24 : decode cX6_creditsIn 24 = .ok (.getfield 16, 3) := by decide +kernel
theorem dX6_creditsIn_27 : decode cX6_creditsIn 27 = .ok (.iload_n 1, 1) := by decide +kernel
theorem dX6_creditsIn_28 : decode cX6_creditsIn 28 = .ok (.iload_n 2, 1) := by decide +kernel
theorem dX6_creditsIn_29 : decode cX6_creditsIn 29 = .ok (.iload_n 3, 1) := by decide +kernel
theorem dX6_creditsIn_30 : decode cX6_creditsIn 30 = .ok (.invokevirtual 139, 3) := by decide +kernel
theorem dX6_creditsIn_33 : decode cX6_creditsIn 33 = .ok (.ireturn, 1) := by decide +kernel
theorem dX6_bestExchange_0 : decode cX6_bestExchange 0 = .ok (.aload_n 0, 1) := by decide +kernel
theorem dX6_bestExchange_1 : decode cX6_bestExchange 1 = .ok (.iload_n 1, 1) := by decide +kernel
theorem dX6_bestExchange_2 : decode cX6_bestExchange 2 = .ok (.invokevirtual 74, 3) := by decide +kernel
theorem dX6_bestExchange_5 : decode cX6_bestExchange 5 = .ok (.iload_n 2, 1) := by decide +kernel
theorem dX6_bestExchange_6 : decode cX6_bestExchange 6 = .ok (.iload_n 3, 1) := by decide +kernel
theorem dX6_bestExchange_7 : decode cX6_bestExchange 7 = .ok (.invokestatic 133, 3) := by decide +kernel
theorem dX6_bestExchange_10 : decode cX6_bestExchange 10 = .ok (.iload 4, 2) := by decide +kernel
theorem dX6_bestExchange_12 : decode cX6_bestExchange 12 = .ok (.iconst 0, 1) := by decide +kernel
theorem dX6_bestExchange_13 : decode cX6_bestExchange 13 = .ok (.bipush 50, 2) := by decide +kernel
theorem dX6_bestExchange_15 : decode cX6_bestExchange 15 = .ok (.invokestatic 33, 3) := by decide +kernel
theorem dX6_bestExchange_18 : decode cX6_bestExchange 18 = .ok (.aload_n 0, 1) := by decide +kernel
theorem dX6_bestExchange_19 : decode cX6_bestExchange 19 = .ok (.getfield 10, 3) := by decide +kernel
theorem dX6_bestExchange_22 : decode cX6_bestExchange 22 = .ok (.getfield 67, 3) := by decide +kernel
theorem dX6_bestExchange_25 : decode cX6_bestExchange 25 = .ok (.iload_n 1, 1) := by decide +kernel
theorem dX6_bestExchange_26 : decode cX6_bestExchange 26 = .ok (.aaload, 1) := by decide +kernel
theorem dX6_bestExchange_27 : decode cX6_bestExchange 27 = .ok (.astore 5, 2) := by decide +kernel
theorem dX6_bestExchange_29 : decode cX6_bestExchange 29 = .ok (.aload_n 0, 1) := by decide +kernel
theorem dX6_bestExchange_30 : decode cX6_bestExchange 30 = .ok (.getfield 16, 3) := by decide +kernel
theorem dX6_bestExchange_33 : decode cX6_bestExchange 33 = .ok (.aload_n 0, 1) := by decide +kernel
theorem dX6_bestExchange_34 : decode cX6_bestExchange 34 = .ok (.getfield 10, 3) := by decide +kernel
theorem dX6_bestExchange_37 : decode cX6_bestExchange 37 = .ok (.invokevirtual 159, 3) := by decide +kernel
theorem dX6_bestExchange_40 : decode cX6_bestExchange 40 = .ok (.aload_n 0, 1) := by decide +kernel
theorem dX6_bestExchange_41 : decode cX6_bestExchange 41 = .ok (.getfield 16, 3) := by decide +kernel
theorem dX6_bestExchange_44 : decode cX6_bestExchange 44 = .ok (.iload_n 2, 1) := by decide +kernel
theorem dX6_bestExchange_45 : decode cX6_bestExchange 45 = .ok (.iload_n 3, 1) := by decide +kernel
theorem dX6_bestExchange_46 : decode cX6_bestExchange 46 = .ok (.iload 4, 2) := by decide +kernel
theorem dX6_bestExchange_48 : decode cX6_bestExchange 48 = .ok (.invokevirtual 139, 3) := by decide +kernel
theorem dX6_bestExchange_51 : decode cX6_bestExchange 51 = .ok (.istore 6, 2) := by decide +kernel
theorem dX6_bestExchange_53 : decode cX6_bestExchange 53 = .ok (.iconst (-1), 1) := by decide +kernel
theorem dX6_bestExchange_54 : decode cX6_bestExchange 54 = .ok (.istore 7, 2) := by decide +kernel
theorem dX6_bestExchange_56 : decode cX6_bestExchange 56 = .ok (.iconst 0, 1) := by decide +kernel
theorem dX6_bestExchange_57 : decode cX6_bestExchange 57 = .ok (.istore 8, 2) := by decide +kernel
theorem dX6_bestExchange_59 : decode cX6_bestExchange 59 = .ok (.iload 8, 2) := by decide +kernel
theorem dX6_bestExchange_61 : decode cX6_bestExchange 61 = .ok (.aload 5, 2) := by decide +kernel
theorem dX6_bestExchange_63 : decode cX6_bestExchange 63 = .ok (.getfield 81, 3) := by decide +kernel
theorem dX6_bestExchange_66 : decode cX6_bestExchange 66 = .ok (.iconst 1, 1) := by decide +kernel
theorem dX6_bestExchange_67 : decode cX6_bestExchange 67 = .ok (.isub, 1) := by decide +kernel
theorem dX6_bestExchange_68 : decode cX6_bestExchange 68 = .ok (.if_icmp .ge 72, 3) := by decide +kernel
theorem dX6_bestExchange_71 : decode cX6_bestExchange 71 = .ok (.aload 5, 2) := by decide +kernel
theorem dX6_bestExchange_73 : decode cX6_bestExchange 73 = .ok (.iload 8, 2) := by decide +kernel
theorem dX6_bestExchange_75 : decode cX6_bestExchange 75 = .ok (.invokevirtual 97, 3) := by decide +kernel
theorem dX6_bestExchange_78 : decode cX6_bestExchange 78 = .ok (.ifCond .ne 56, 3) := by decide +kernel
theorem dX6_bestExchange_81 : decode cX6_bestExchange 81 = .ok (.aload_n 0, 1) := by decide +kernel
theorem dX6_bestExchange_82 : decode cX6_bestExchange 82 = .ok (.getfield 16, 3) := by decide +kernel
theorem dX6_bestExchange_85 : decode cX6_bestExchange 85 = .ok (.aload_n 0, 1) := by decide +kernel
theorem dX6_bestExchange_86 : decode cX6_bestExchange 86 = .ok (.getfield 10, 3) := by decide +kernel
theorem dX6_bestExchange_89 : decode cX6_bestExchange 89 = .ok (.invokevirtual 159, 3) := by decide +kernel
theorem dX6_bestExchange_92 : decode cX6_bestExchange 92 = .ok (.aload_n 0, 1) := by decide +kernel
theorem dX6_bestExchange_93 : decode cX6_bestExchange 93 = .ok (.getfield 16, 3) := by decide +kernel
theorem dX6_bestExchange_96 : decode cX6_bestExchange 96 = .ok (.getfield 67, 3) := by decide +kernel
theorem dX6_bestExchange_99 : decode cX6_bestExchange 99 = .ok (.iload_n 1, 1) := by decide +kernel
theorem dX6_bestExchange_100 : decode cX6_bestExchange 100 = .ok (.aaload, 1) := by decide +kernel
theorem dX6_bestExchange_101 : decode cX6_bestExchange 101 = .ok (.iload 8, 2) := by decide +kernel
theorem dX6_bestExchange_103 : decode cX6_bestExchange 103 = .ok (.invokevirtual 103, 3) := by decide +kernel
theorem dX6_bestExchange_106 : decode cX6_bestExchange 106 = .ok (.aload_n 0, 1) := by decide +kernel
theorem dX6_bestExchange_107 : decode cX6_bestExchange 107 = .ok (.getfield 16, 3) := by decide +kernel
theorem dX6_bestExchange_110 : decode cX6_bestExchange 110 = .ok (.iload_n 2, 1) := by decide +kernel
theorem dX6_bestExchange_111 : decode cX6_bestExchange 111 = .ok (.iload_n 3, 1) := by decide +kernel
theorem dX6_bestExchange_112 : decode cX6_bestExchange 112 = .ok (.iload 4, 2) := by decide +kernel
theorem dX6_bestExchange_114 : decode cX6_bestExchange 114 = .ok (.invokevirtual 139, 3) := by decide +kernel
theorem dX6_bestExchange_117 : decode cX6_bestExchange 117 = .ok (.istore 9, 2) := by decide +kernel
theorem dX6_bestExchange_119 : decode cX6_bestExchange 119 = .ok (.iload 9, 2) := by decide +kernel
theorem dX6_bestExchange_121 : decode cX6_bestExchange 121 = .ok (.iload 6, 2) := by decide +kernel
theorem dX6_bestExchange_123 : decode cX6_bestExchange 123 = .ok (.if_icmp .ge 11, 3) := by decide +kernel
theorem dX6_bestExchange_126 : decode cX6_bestExchange 126 = .ok (.iload 9, 2) := by decide +kernel
theorem dX6_bestExchange_128 : decode cX6_bestExchange 128 = .ok (.istore 6, 2) := by decide +kernel
theorem dX6_bestExchange_130 : decode cX6_bestExchange 130 = .ok (.iload 8, 2) := by decide +kernel
theorem dX6_bestExchange_132 : decode cX6_bestExchange 132 = .ok (.istore 7, 2) := by decide +kernel
theorem dX6_bestExchange_134 : decode cX6_bestExchange 134 = .ok (.iinc 8 1, 3) := by decide +kernel
theorem dX6_bestExchange_137 : decode cX6_bestExchange 137 = .ok (.goto (-78), 3) := by decide +kernel
theorem dX6_bestExchange_140 : decode cX6_bestExchange 140 = .ok (.iload 7, 2) := by decide +kernel
theorem dX6_bestExchange_142 : decode cX6_bestExchange 142 = .ok (.ireturn, 1) := by decide +kernel
theorem dX6_leastSpeed_0 : decode cX6_leastSpeed 0 = .ok (.aload_n 0, 1) := by decide +kernel
theorem dX6_leastSpeed_1 : decode cX6_leastSpeed 1 = .ok (.iload_n 1, 1) := by decide +kernel
theorem dX6_leastSpeed_2 : decode cX6_leastSpeed 2 = .ok (.invokevirtual 74, 3) := by decide +kernel
theorem dX6_leastSpeed_5 : decode cX6_leastSpeed 5 = .ok (.iload_n 2, 1) := by decide +kernel
theorem dX6_leastSpeed_6 : decode cX6_leastSpeed 6 = .ok (.iload_n 3, 1) := by decide +kernel
theorem dX6_leastSpeed_7 : decode cX6_leastSpeed 7 = .ok (.invokestatic 133, 3) := by decide +kernel
theorem dX6_leastSpeed_10 : decode cX6_leastSpeed 10 = .ok (.iload 4, 2) := by decide +kernel
theorem dX6_leastSpeed_12 : decode cX6_leastSpeed 12 = .ok (.iconst 0, 1) := by decide +kernel
theorem dX6_leastSpeed_13 : decode cX6_leastSpeed 13 = .ok (.bipush 50, 2) := by decide +kernel
theorem dX6_leastSpeed_15 : decode cX6_leastSpeed 15 = .ok (.invokestatic 33, 3) := by decide +kernel
theorem dX6_leastSpeed_18 : decode cX6_leastSpeed 18 = .ok (.bipush 100, 2) := by decide +kernel
theorem dX6_leastSpeed_20 : decode cX6_leastSpeed 20 = .ok (.istore 5, 2) := by decide +kernel
theorem dX6_leastSpeed_22 : decode cX6_leastSpeed 22 = .ok (.iload 5, 2) := by decide +kernel
theorem dX6_leastSpeed_24 : decode cX6_leastSpeed 24 = .ok (.sipush 5000, 3) := by decide +kernel
theorem dX6_leastSpeed_27 : decode cX6_leastSpeed 27 = .ok (.if_icmp .gt 51, 3) := by decide +kernel
theorem dX6_leastSpeed_30 : decode cX6_leastSpeed 30 = .ok (.aload_n 0, 1) := by decide +kernel
theorem dX6_leastSpeed_31 : decode cX6_leastSpeed 31 = .ok (.getfield 16, 3) := by decide +kernel
theorem dX6_leastSpeed_34 : decode cX6_leastSpeed 34 = .ok (.aload_n 0, 1) := by decide +kernel
theorem dX6_leastSpeed_35 : decode cX6_leastSpeed 35 = .ok (.getfield 10, 3) := by decide +kernel
theorem dX6_leastSpeed_38 : decode cX6_leastSpeed 38 = .ok (.invokevirtual 159, 3) := by decide +kernel
theorem dX6_leastSpeed_41 : decode cX6_leastSpeed 41 = .ok (.aload_n 0, 1) := by decide +kernel
theorem dX6_leastSpeed_42 : decode cX6_leastSpeed 42 = .ok (.getfield 16, 3) := by decide +kernel
theorem dX6_leastSpeed_45 : decode cX6_leastSpeed 45 = .ok (.getfield 67, 3) := by decide +kernel
theorem dX6_leastSpeed_48 : decode cX6_leastSpeed 48 = .ok (.iload_n 1, 1) := by decide +kernel
theorem dX6_leastSpeed_49 : decode cX6_leastSpeed 49 = .ok (.aaload, 1) := by decide +kernel
theorem dX6_leastSpeed_50 : decode cX6_leastSpeed 50 = .ok (.iload 5, 2) := by decide +kernel
theorem dX6_leastSpeed_52 : decode cX6_leastSpeed 52 = .ok (.putfield 162, 3) := by decide +kernel
theorem dX6_leastSpeed_55 : decode cX6_leastSpeed 55 = .ok (.aload_n 0, 1) := by decide +kernel
theorem dX6_leastSpeed_56 : decode cX6_leastSpeed 56 = .ok (.getfield 16, 3) := by decide +kernel
theorem dX6_leastSpeed_59 : decode cX6_leastSpeed 59 = .ok (.iload_n 2, 1) := by decide +kernel
theorem dX6_leastSpeed_60 : decode cX6_leastSpeed 60 = .ok (.iload_n 3, 1) := by decide +kernel
theorem dX6_leastSpeed_61 : decode cX6_leastSpeed 61 = .ok (.iload 4, 2) := by decide +kernel
theorem dX6_leastSpeed_63 : decode cX6_leastSpeed 63 = .ok (.invokevirtual 165, 3) := by decide +kernel
theorem dX6_leastSpeed_66 : decode cX6_leastSpeed 66 = .ok (.ifCond .eq 6, 3) := by decide +kernel
theorem dX6_leastSpeed_69 : decode cX6_leastSpeed 69 = .ok (.iload 5, 2) := by decide +kernel
theorem dX6_leastSpeed_71 : decode cX6_leastSpeed 71 = .ok (.ireturn, 1) := by decide +kernel
theorem dX6_leastSpeed_72 : decode cX6_leastSpeed 72 = .ok (.iinc 5 100, 3) := by decide +kernel
theorem dX6_leastSpeed_75 : decode cX6_leastSpeed 75 = .ok (.goto (-53), 3) := by decide +kernel
theorem dX6_leastSpeed_78 : decode cX6_leastSpeed 78 = .ok (.iconst (-1), 1) := by decide +kernel
theorem dX6_leastSpeed_79 : decode cX6_leastSpeed 79 = .ok (.ireturn, 1) := by decide +kernel
theorem dX6_emptyIn_0 : decode cX6_emptyIn 0 = .ok (.iload_n 1, 1) := by decide +kernel
theorem dX6_emptyIn_1 : decode cX6_emptyIn 1 = .ok (.iload_n 2, 1) := by decide +kernel
theorem dX6_emptyIn_2 : decode cX6_emptyIn 2 = .ok (.invokestatic 133, 3) := by decide +kernel
theorem dX6_emptyIn_5 : decode cX6_emptyIn 5 = .ok (.aload_n 0, 1) := by decide +kernel
theorem dX6_emptyIn_6 : decode cX6_emptyIn 6 = .ok (.getfield 16, 3) := by decide +kernel
theorem dX6_emptyIn_9 : decode cX6_emptyIn 9 = .ok (.aload_n 0, 1) := by decide +kernel
theorem dX6_emptyIn_10 : decode cX6_emptyIn 10 = .ok (.getfield 10, 3) := by decide +kernel
theorem dX6_emptyIn_13 : decode cX6_emptyIn 13 = .ok (.invokevirtual 159, 3) := by decide +kernel
theorem dX6_emptyIn_16 : decode cX6_emptyIn 16 = .ok (.iconst 0, 1) := by decide +kernel
theorem dX6_emptyIn_17 : decode cX6_emptyIn 17 = .ok (.istore_n 3, 1) := by decide +kernel
theorem dX6_emptyIn_18 : decode cX6_emptyIn 18 = .ok (.iload_n 3, 1) := by decide +kernel
theorem dX6_emptyIn_19 : decode cX6_emptyIn 19 = .ok (.sipush 200, 3) := by decide +kernel
theorem dX6_emptyIn_22 : decode cX6_emptyIn 22 = .ok (.if_icmp .ge 28, 3) := by decide +kernel
theorem dX6_emptyIn_25 : decode cX6_emptyIn 25 = .ok (.aload_n 0, 1) := by decide +kernel
theorem dX6_emptyIn_26 : decode cX6_emptyIn 26 = .ok (.getfield 16, 3) := by decide +kernel
theorem dX6_emptyIn_29 : decode cX6_emptyIn 29 = .ok (.getfield 125, 3) := by decide +kernel
theorem dX6_emptyIn_32 : decode cX6_emptyIn 32 = .ok (.ifCond .le 18, 3) := by decide +kernel
theorem dX6_emptyIn_35 : decode cX6_emptyIn 35 = .ok (.aload_n 0, 1) := by decide +kernel
theorem dX6_emptyIn_36 : decode cX6_emptyIn 36 = .ok (.getfield 16, 3) := by decide +kernel
theorem dX6_emptyIn_39 : decode cX6_emptyIn 39 = .ok (.iload_n 1, 1) := by decide +kernel
theorem dX6_emptyIn_40 : decode cX6_emptyIn 40 = .ok (.iload_n 2, 1) := by decide +kernel
theorem dX6_emptyIn_41 : decode cX6_emptyIn 41 = .ok (.invokevirtual 169, 3) := by decide +kernel
theorem dX6_emptyIn_44 : decode cX6_emptyIn 44 = .ok (.iinc 3 1, 3) := by decide +kernel
theorem dX6_emptyIn_47 : decode cX6_emptyIn 47 = .ok (.goto (-29), 3) := by decide +kernel
theorem dX6_emptyIn_50 : decode cX6_emptyIn 50 = .ok (.aload_n 0, 1) := by decide +kernel
theorem dX6_emptyIn_51 : decode cX6_emptyIn 51 = .ok (.getfield 16, 3) := by decide +kernel
theorem dX6_emptyIn_54 : decode cX6_emptyIn 54 = .ok (.getfield 125, 3) := by decide +kernel
theorem dX6_emptyIn_57 : decode cX6_emptyIn 57 = .ok (.ifCond .ne 7, 3) := by decide +kernel
theorem dX6_emptyIn_60 : decode cX6_emptyIn 60 = .ok (.iload_n 3, 1) := by decide +kernel
theorem dX6_emptyIn_61 : decode cX6_emptyIn 61 = .ok (.goto 4, 3) := by decide +kernel
theorem dX6_emptyIn_64 : decode cX6_emptyIn 64 = .ok (.iconst (-1), 1) := by decide +kernel
theorem dX6_emptyIn_65 : decode cX6_emptyIn 65 = .ok (.ireturn, 1) := by decide +kernel
theorem dX6_append_0 : decode cX6_append 0 = .ok (.iload_n 1, 1) := by decide +kernel
theorem dX6_append_1 : decode cX6_append 1 = .ok (.iconst 0, 1) := by decide +kernel
theorem dX6_append_2 : decode cX6_append 2 = .ok (.bipush 127, 2) := by decide +kernel
theorem dX6_append_4 : decode cX6_append 4 = .ok (.invokestatic 33, 3) := by decide +kernel
theorem dX6_append_7 : decode cX6_append 7 = .ok (.aload_n 0, 1) := by decide +kernel
theorem dX6_append_8 : decode cX6_append 8 = .ok (.getfield 29, 3) := by decide +kernel
theorem dX6_append_11 : decode cX6_append 11 = .ok (.getfield 172, 3) := by decide +kernel
theorem dX6_append_14 : decode cX6_append 14 = .ok (.sipush 150, 3) := by decide +kernel
theorem dX6_append_17 : decode cX6_append 17 = .ok (.if_icmp .lt 13, 3) := by decide +kernel
theorem dX6_append_20 : decode cX6_append 20 = .ok (.new 41, 3) := by decide +kernel
theorem dX6_append_23 : decode cX6_append 23 = .ok (.dup, 1) := by decide +kernel
theorem dX6_append_24 : decode cX6_append 24 = .ok (.ldc 173, 2) := by decide +kernel
theorem dX6_append_26 : decode cX6_append 26 = .ok (.invokespecial 45, 3) := by decide +kernel
theorem dX6_append_29 : decode cX6_append 29 = .ok (.athrow, 1) := by decide +kernel
theorem dX6_append_30 : decode cX6_append 30 = .ok (.aload_n 0, 1) := by decide +kernel
theorem dX6_append_31 : decode cX6_append 31 = .ok (.getfield 29, 3) := by decide +kernel
theorem dX6_append_34 : decode cX6_append 34 = .ok (.getfield 175, 3) := by decide +kernel
theorem dX6_append_37 : decode cX6_append 37 = .ok (.aload_n 0, 1) := by decide +kernel
theorem dX6_append_38 : decode cX6_append 38 = .ok (.getfield 29, 3) := by decide +kernel
theorem dX6_append_41 : decode cX6_append 41 = .ok (.getfield 172, 3) := by decide +kernel
theorem dX6_append_44 : decode cX6_append 44 = .ok (.iload_n 1, 1) := by decide +kernel
theorem dX6_append_45 : decode cX6_append 45 = .ok (.iastore, 1) := by decide +kernel
theorem dX6_append_46 : decode cX6_append 46 = .ok (.aload_n 0, 1) := by decide +kernel
theorem dX6_append_47 : decode cX6_append 47 = .ok (.getfield 29, 3) := by decide +kernel
theorem dX6_append_50 : decode cX6_append 50 = .ok (.dup, 1) := by decide +kernel
theorem dX6_append_51 : decode cX6_append 51 = .ok (.getfield 172, 3) := by decide +kernel
theorem dX6_append_54 : decode cX6_append 54 = .ok (.iconst 1, 1) := by decide +kernel
theorem dX6_append_55 : decode cX6_append 55 = .ok (.iadd, 1) := by decide +kernel
theorem dX6_append_56 : decode cX6_append 56 = .ok (.putfield 172, 3) := by decide +kernel
theorem dX6_append_59 : decode cX6_append 59 = .ok (.aload_n 0, 1) := by decide +kernel
theorem dX6_append_60 : decode cX6_append 60 = .ok (.getfield 29, 3) := by decide +kernel
theorem dX6_append_63 : decode cX6_append 63 = .ok (.getfield 172, 3) := by decide +kernel
theorem dX6_append_66 : decode cX6_append 66 = .ok (.ireturn, 1) := by decide +kernel
theorem dX6_runText_0 : decode cX6_runText 0 = .ok (.aload_n 0, 1) := by decide +kernel
theorem dX6_runText_1 : decode cX6_runText 1 = .ok (.getfield 29, 3) := by decide +kernel
theorem dX6_runText_4 : decode cX6_runText 4 = .ok (.invokevirtual 178, 3) := by decide +kernel
theorem dX6_runText_7 : decode cX6_runText 7 = .ok (.istore_n 1, 1) := by decide +kernel
theorem dX6_runText_8 : decode cX6_runText 8 = .ok (.iload_n 1, 1) := by decide +kernel
theorem dX6_runText_9 : decode cX6_runText 9 = .ok (.iconst (-1), 1) := by decide +kernel
theorem dX6_runText_10 : decode cX6_runText 10 = .ok (.if_icmp .eq 8, 3) := by decide +kernel
theorem dX6_runText_13 : decode cX6_runText 13 = .ok (.bipush (-10), 2) := by decide +kernel
theorem dX6_runText_15 : decode cX6_runText 15 = .ok (.iload_n 1, 1) := by decide +kernel
theorem dX6_runText_16 : decode cX6_runText 16 = .ok (.isub, 1) := by decide +kernel
theorem dX6_runText_17 : decode cX6_runText 17 = .ok (.ireturn, 1) := by decide +kernel
theorem dX6_runText_18 : decode cX6_runText 18 = .ok (.aload_n 0, 1) := by decide +kernel
theorem dX6_runText_19 : decode cX6_runText 19 = .ok (.aload_n 0, 1) := by decide +kernel
theorem dX6_runText_20 : decode cX6_runText 20 = .ok (.getfield 29, 3) := by decide +kernel
theorem dX6_runText_23 : decode cX6_runText 23 = .ok (.invokevirtual 181, 3) := by decide +kernel
theorem dX6_runText_26 : decode cX6_runText 26 = .ok (.invokevirtual 136, 3) := by decide +kernel
theorem dX6_runText_29 : decode cX6_runText 29 = .ok (.aload_n 0, 1) := by decide +kernel
theorem dX6_runText_30 : decode cX6_runText 30 = .ok (.getfield 22, 3) := by decide +kernel
theorem dX6_runText_33 : decode cX6_runText 33 = .ok (.aload_n 0, 1) := by decide +kernel
theorem dX6_runText_34 : decode cX6_runText 34 = .ok (.getfield 10, 3) := by decide +kernel
theorem dX6_runText_37 : decode cX6_runText 37 = .ok (.invokevirtual 48, 3) := by decide +kernel
theorem dX6_runText_40 : decode cX6_runText 40 = .ok (.iconst 0, 1) := by decide +kernel
theorem dX6_runText_41 : decode cX6_runText 41 = .ok (.istore_n 2, 1) := by decide +kernel
theorem dX6_runText_42 : decode cX6_runText 42 = .ok (.iconst 0, 1) := by decide +kernel
theorem dX6_runText_43 : decode cX6_runText 43 = .ok (.istore_n 3, 1) := by decide +kernel
theorem dX6_runText_44 : decode cX6_runText 44 = .ok (.iload_n 3, 1) := by decide +kernel
theorem dX6_runText_45 : decode cX6_runText 45 = .ok (.aload_n 0, 1) := by decide +kernel
theorem dX6_runText_46 : decode cX6_runText 46 = .ok (.getfield 29, 3) := by decide +kernel
theorem dX6_runText_49 : decode cX6_runText 49 = .ok (.getfield 184, 3) := by decide +kernel
theorem dX6_runText_52 : decode cX6_runText 52 = .ok (.if_icmp .ge 46, 3) := by decide +kernel
theorem dX6_runText_55 : decode cX6_runText 55 = .ok (.iload_n 2, 1) := by decide +kernel
theorem dX6_runText_56 : decode cX6_runText 56 = .ok (.aload_n 0, 1) := by decide +kernel
theorem dX6_runText_57 : decode cX6_runText 57 = .ok (.getfield 10, 3) := by decide +kernel
theorem dX6_runText_60 : decode cX6_runText 60 = .ok (.aload_n 0, 1) := by decide +kernel
theorem dX6_runText_61 : decode cX6_runText 61 = .ok (.getfield 29, 3) := by decide +kernel
theorem dX6_runText_64 : decode cX6_runText 64 = .ok (.getfield 187, 3) := by decide +kernel
theorem dX6_runText_67 : decode cX6_runText 67 = .ok (.iload_n 3, 1) := by decide +kernel
theorem dX6_runText_68 : decode cX6_runText 68 = .ok (.iaload, 1) := by decide +kernel
theorem dX6_runText_69 : decode cX6_runText 69 = .ok (.aload_n 0, 1) := by decide +kernel
theorem dX6_runText_70 : decode cX6_runText 70 = .ok (.getfield 29, 3) := by decide +kernel
theorem dX6_runText_73 : decode cX6_runText 73 = .ok (.getfield 190, 3) := by decide +kernel
theorem dX6_runText_76 : decode cX6_runText 76 = .ok (.iload_n 3, 1) := by decide +kernel
theorem dX6_runText_77 : decode cX6_runText 77 = .ok (.iaload, 1) := by decide +kernel
theorem dX6_runText_78 : decode cX6_runText 78 = .ok (.aload_n 0, 1) := by decide +kernel
theorem dX6_runText_79 : decode cX6_runText 79 = .ok (.getfield 29, 3) := by decide +kernel
theorem dX6_runText_82 : decode cX6_runText 82 = .ok (.getfield 193, 3) := by decide +kernel
theorem dX6_runText_85 : decode cX6_runText 85 = .ok (.iload_n 3, 1) := by decide +kernel
theorem dX6_runText_86 : decode cX6_runText 86 = .ok (.iaload, 1) := by decide +kernel
theorem dX6_runText_87 : decode cX6_runText 87 = .ok (.invokevirtual 139, 3) := by decide +kernel
theorem dX6_runText_90 : decode cX6_runText 90 = .ok (.iadd, 1) := by decide +kernel
theorem dX6_runText_91 : decode cX6_runText 91 = .ok (.istore_n 2, 1) := by decide +kernel
theorem dX6_runText_92 : decode cX6_runText 92 = .ok (.iinc 3 1, 3) := by decide +kernel
theorem dX6_runText_95 : decode cX6_runText 95 = .ok (.goto (-51), 3) := by decide +kernel
theorem dX6_runText_98 : decode cX6_runText 98 = .ok (.iload_n 2, 1) := by decide +kernel
theorem dX6_runText_99 : decode cX6_runText 99 = .ok (.ireturn, 1) := by decide +kernel
theorem dX6_undo_0 : decode cX6_undo 0 = .ok (.aload_n 0, 1) := by decide +kernel
theorem dX6_undo_1 : decode cX6_undo 1 = .ok (.getfield 22, 3) := by decide +kernel
theorem dX6_undo_4 : decode cX6_undo 4 = .ok (.getfield 196, 3) := by decide +kernel
theorem dX6_undo_7 : decode cX6_undo 7 = .ok (.ifCond .gt 13, 3) := by decide +kernel
theorem dX6_undo_10 : decode cX6_undo 10 = .ok (.new 41, 3) := by decide +kernel
theorem dX6_undo_13 : decode cX6_undo 13 = .ok (.dup, 1) := by decide +kernel
theorem dX6_undo_14 : decode cX6_undo 14 = .ok (.ldc 199, 2) := by decide +kernel
theorem dX6_undo_16 : decode cX6_undo 16 = .ok (.invokespecial 45, 3) := by decide +kernel
theorem dX6_undo_19 : decode cX6_undo 19 = .ok (.athrow, 1) := by decide +kernel
theorem dX6_undo_20 : decode cX6_undo 20 = .ok (.aload_n 0, 1) := by decide +kernel
theorem dX6_undo_21 : decode cX6_undo 21 = .ok (.getfield 22, 3) := by decide +kernel
theorem dX6_undo_24 : decode cX6_undo 24 = .ok (.aload_n 0, 1) := by decide +kernel
theorem dX6_undo_25 : decode cX6_undo 25 = .ok (.getfield 10, 3) := by decide +kernel
theorem dX6_undo_28 : decode cX6_undo 28 = .ok (.invokevirtual 201, 3) := by decide +kernel
theorem dX6_undo_31 : decode cX6_undo 31 = .ok (.aload_n 0, 1) := by decide +kernel
theorem dX6_undo_32 : decode cX6_undo 32 = .ok (.getfield 22, 3) := by decide +kernel
theorem dX6_undo_35 : decode cX6_undo 35 = .ok (.getfield 196, 3) := by decide +kernel
theorem dX6_undo_38 : decode cX6_undo 38 = .ok (.ireturn, 1) := by decide +kernel
theorem dX6_digest_0 : decode cX6_digest 0 = .ok (.ldc2_w 204, 3) := by decide +kernel
theorem dX6_digest_3 : decode cX6_digest 3 = .ok (.aload_n 0, 1) := by decide +kernel
theorem dX6_digest_4 : decode cX6_digest 4 = .ok (.getfield 29, 3) := by decide +kernel
theorem dX6_digest_7 : decode cX6_digest 7 = .ok (.getfield 172, 3) := by decide +kernel
theorem dX6_digest_10 : decode cX6_digest 10 = .ok (.i2l, 1) := by decide +kernel
theorem dX6_digest_11 : decode cX6_digest 11 = .ok (.invokestatic 206, 3) := by decide +kernel
theorem dX6_digest_14 : decode cX6_digest 14 = .ok (.lstore_n 1, 1) := by decide +kernel
theorem dX6_digest_15 : decode cX6_digest 15 = .ok (.iconst 0, 1) := by decide +kernel
theorem dX6_digest_16 : decode cX6_digest 16 = .ok (.istore_n 3, 1) := by decide +kernel
theorem dX6_digest_17 : decode cX6_digest 17 = .ok (.iload_n 3, 1) := by decide +kernel
theorem dX6_digest_18 : decode cX6_digest 18 = .ok (.bipush 9, 2) := by decide +kernel
theorem dX6_digest_20 : decode cX6_digest 20 = .ok (.if_icmp .gt 23, 3) := by decide +kernel
theorem dX6_digest_23 : decode cX6_digest 23 = .ok (.lload_n 1, 1) := by decide +kernel
theorem dX6_digest_24 : decode cX6_digest 24 = .ok (.aload_n 0, 1) := by decide +kernel
theorem dX6_digest_25 : decode cX6_digest 25 = .ok (.getfield 10, 3) := by decide +kernel
theorem dX6_digest_28 : decode cX6_digest 28 = .ok (.iload_n 3, 1) := by decide +kernel
theorem dX6_digest_29 : decode cX6_digest 29 = .ok (.invokevirtual 143, 3) := by decide +kernel
theorem dX6_digest_32 : decode cX6_digest 32 = .ok (.i2l, 1) := by decide +kernel
theorem dX6_digest_33 : decode cX6_digest 33 = .ok (.invokestatic 206, 3) := by decide +kernel
theorem dX6_digest_36 : decode cX6_digest 36 = .ok (.lstore_n 1, 1) := by decide +kernel
theorem dX6_digest_37 : decode cX6_digest 37 = .ok (.iinc 3 1, 3) := by decide +kernel
theorem dX6_digest_40 : decode cX6_digest 40 = .ok (.goto (-23), 3) := by decide +kernel
theorem dX6_digest_43 : decode cX6_digest 43 = .ok (.iconst 0, 1) := by decide +kernel
theorem dX6_digest_44 : decode cX6_digest 44 = .ok (.istore_n 3, 1) := by decide +kernel
theorem dX6_digest_45 : decode cX6_digest 45 = .ok (.iload_n 3, 1) := by decide +kernel
theorem dX6_digest_46 : decode cX6_digest 46 = .ok (.aload_n 0, 1) := by decide +kernel
theorem dX6_digest_47 : decode cX6_digest 47 = .ok (.getfield 10, 3) := by decide +kernel
theorem dX6_digest_50 : decode cX6_digest 50 = .ok (.getfield 37, 3) := by decide +kernel
theorem dX6_digest_53 : decode cX6_digest 53 = .ok (.if_icmp .ge 24, 3) := by decide +kernel
theorem dX6_digest_56 : decode cX6_digest 56 = .ok (.aload_n 0, 1) := by decide +kernel
theorem dX6_digest_57 : decode cX6_digest 57 = .ok (.lload_n 1, 1) := by decide +kernel
theorem dX6_digest_58 : decode cX6_digest 58 = .ok (.aload_n 0, 1) := by decide +kernel
theorem dX6_digest_59 : decode cX6_digest 59 = .ok (.getfield 10, 3) := by decide +kernel
theorem dX6_digest_62 : decode cX6_digest 62 = .ok (.getfield 52, 3) := by decide +kernel
theorem dX6_digest_65 : decode cX6_digest 65 = .ok (.iload_n 3, 1) := by decide +kernel
theorem dX6_digest_66 : decode cX6_digest 66 = .ok (.aaload, 1) := by decide +kernel
theorem dX6_digest_67 : decode cX6_digest 67 = .ok (.invokevirtual 210, 3) := by decide +kernel
theorem dX6_digest_70 : decode cX6_digest 70 = .ok (.lstore_n 1, 1) := by decide +kernel
theorem dX6_digest_71 : decode cX6_digest 71 = .ok (.iinc 3 1, 3) := by decide +kernel
theorem dX6_digest_74 : decode cX6_digest 74 = .ok (.goto (-29), 3) := by decide +kernel
theorem dX6_digest_77 : decode cX6_digest 77 = .ok (.iconst 0, 1) := by decide +kernel
theorem dX6_digest_78 : decode cX6_digest 78 = .ok (.istore_n 3, 1) := by decide +kernel
theorem dX6_digest_79 : decode cX6_digest 79 = .ok (.iload_n 3, 1) := by decide +kernel
theorem dX6_digest_80 : decode cX6_digest 80 = .ok (.aload_n 0, 1) := by decide +kernel
theorem dX6_digest_81 : decode cX6_digest 81 = .ok (.getfield 10, 3) := by decide +kernel
theorem dX6_digest_84 : decode cX6_digest 84 = .ok (.getfield 62, 3) := by decide +kernel
theorem dX6_digest_87 : decode cX6_digest 87 = .ok (.if_icmp .ge 23, 3) := by decide +kernel
theorem dX6_digest_90 : decode cX6_digest 90 = .ok (.lload_n 1, 1) := by decide +kernel
theorem dX6_digest_91 : decode cX6_digest 91 = .ok (.aload_n 0, 1) := by decide +kernel
theorem dX6_digest_92 : decode cX6_digest 92 = .ok (.getfield 10, 3) := by decide +kernel
theorem dX6_digest_95 : decode cX6_digest 95 = .ok (.getfield 67, 3) := by decide +kernel
theorem dX6_digest_98 : decode cX6_digest 98 = .ok (.iload_n 3, 1) := by decide +kernel
theorem dX6_digest_99 : decode cX6_digest 99 = .ok (.aaload, 1) := by decide +kernel
theorem dX6_digest_100 : decode cX6_digest 100 = .ok (.invokestatic 214, 3) := by decide +kernel
theorem dX6_digest_103 : decode cX6_digest 103 = .ok (.lstore_n 1, 1) := by decide +kernel
theorem dX6_digest_104 : decode cX6_digest 104 = .ok (.iinc 3 1, 3) := by decide +kernel
theorem dX6_digest_107 : decode cX6_digest 107 = .ok (.goto (-28), 3) := by decide +kernel
theorem dX6_digest_110 : decode cX6_digest 110 = .ok (.iconst 0, 1) := by decide +kernel
theorem dX6_digest_111 : decode cX6_digest 111 = .ok (.istore_n 3, 1) := by decide +kernel
theorem dX6_digest_112 : decode cX6_digest 112 = .ok (.iload_n 3, 1) := by decide +kernel
theorem dX6_digest_113 : decode cX6_digest 113 = .ok (.iconst 3, 1) := by decide +kernel
theorem dX6_digest_114 : decode cX6_digest 114 = .ok (.if_icmp .ge 23, 3) := by decide +kernel
theorem dX6_digest_117 : decode cX6_digest 117 = .ok (.lload_n 1, 1) := by decide +kernel
theorem dX6_digest_118 : decode cX6_digest 118 = .ok (.aload_n 0, 1) := by decide +kernel
theorem dX6_digest_119 : decode cX6_digest 119 = .ok (.getfield 10, 3) := by decide +kernel
theorem dX6_digest_122 : decode cX6_digest 122 = .ok (.getfield 106, 3) := by decide +kernel
theorem dX6_digest_125 : decode cX6_digest 125 = .ok (.iload_n 3, 1) := by decide +kernel
theorem dX6_digest_126 : decode cX6_digest 126 = .ok (.aaload, 1) := by decide +kernel
theorem dX6_digest_127 : decode cX6_digest 127 = .ok (.invokestatic 218, 3) := by decide +kernel
theorem dX6_digest_130 : decode cX6_digest 130 = .ok (.lstore_n 1, 1) := by decide +kernel
theorem dX6_digest_131 : decode cX6_digest 131 = .ok (.iinc 3 1, 3) := by decide +kernel
theorem dX6_digest_134 : decode cX6_digest 134 = .ok (.goto (-22), 3) := by decide +kernel
theorem dX6_digest_137 : decode cX6_digest 137 = .ok (.lload_n 1, 1) := by decide +kernel
theorem dX6_digest_138 : decode cX6_digest 138 = .ok (.aload_n 0, 1) := by decide +kernel
theorem dX6_digest_139 : decode cX6_digest 139 = .ok (.getfield 22, 3) := by decide +kernel
theorem dX6_digest_142 : decode cX6_digest 142 = .ok (.getfield 196, 3) := by decide +kernel
theorem dX6_digest_145 : decode cX6_digest 145 = .ok (.i2l, 1) := by decide +kernel
theorem dX6_digest_146 : decode cX6_digest 146 = .ok (.invokestatic 206, 3) := by decide +kernel
theorem dX6_digest_149 : decode cX6_digest 149 = .ok (.lreturn, 1) := by decide +kernel
theorem dX6_mixStreet_0 : decode cX6_mixStreet 0 = .ok (.lload_n 1, 1) := by decide +kernel
theorem dX6_mixStreet_1 : decode cX6_mixStreet 1 = .ok (.lstore 4, 2) := by decide +kernel
theorem dX6_mixStreet_3 : decode cX6_mixStreet 3 = .ok (.iconst 0, 1) := by decide +kernel
theorem dX6_mixStreet_4 : decode cX6_mixStreet 4 = .ok (.istore 6, 2) := by decide +kernel
theorem dX6_mixStreet_6 : decode cX6_mixStreet 6 = .ok (.iload 6, 2) := by decide +kernel
theorem dX6_mixStreet_8 : decode cX6_mixStreet 8 = .ok (.bipush 8, 2) := by decide +kernel
theorem dX6_mixStreet_10 : decode cX6_mixStreet 10 = .ok (.if_icmp .gt 27, 3) := by decide +kernel
theorem dX6_mixStreet_13 : decode cX6_mixStreet 13 = .ok (.lload 4, 2) := by decide +kernel
theorem dX6_mixStreet_15 : decode cX6_mixStreet 15 = .ok (.aload_n 0, 1) := by decide +kernel
theorem dX6_mixStreet_16 : decode cX6_mixStreet 16 = .ok (.getfield 10, 3) := by decide +kernel
theorem dX6_mixStreet_19 : decode cX6_mixStreet 19 = .ok (.aload_n 3, 1) := by decide +kernel
theorem dX6_mixStreet_20 : decode cX6_mixStreet 20 = .ok (.iload 6, 2) := by decide +kernel
theorem dX6_mixStreet_22 : decode cX6_mixStreet 22 = .ok (.invokevirtual 147, 3) := by decide +kernel
theorem dX6_mixStreet_25 : decode cX6_mixStreet 25 = .ok (.i2l, 1) := by decide +kernel
theorem dX6_mixStreet_26 : decode cX6_mixStreet 26 = .ok (.invokestatic 206, 3) := by decide +kernel
theorem dX6_mixStreet_29 : decode cX6_mixStreet 29 = .ok (.lstore 4, 2) := by decide +kernel
theorem dX6_mixStreet_31 : decode cX6_mixStreet 31 = .ok (.iinc 6 1, 3) := by decide +kernel
theorem dX6_mixStreet_34 : decode cX6_mixStreet 34 = .ok (.goto (-28), 3) := by decide +kernel
theorem dX6_mixStreet_37 : decode cX6_mixStreet 37 = .ok (.lload 4, 2) := by decide +kernel
theorem dX6_mixStreet_39 : decode cX6_mixStreet 39 = .ok (.lreturn, 1) := by decide +kernel
theorem dX6_mixPlow_0 : decode cX6_mixPlow 0 = .ok (.lload_n 0, 1) := by decide +kernel
theorem dX6_mixPlow_1 : decode cX6_mixPlow 1 = .ok (.lstore_n 3, 1) := by decide +kernel
theorem dX6_mixPlow_2 : decode cX6_mixPlow 2 = .ok (.iconst 0, 1) := by decide +kernel
theorem dX6_mixPlow_3 : decode cX6_mixPlow 3 = .ok (.istore 5, 2) := by decide +kernel
theorem dX6_mixPlow_5 : decode cX6_mixPlow 5 = .ok (.iload 5, 2) := by decide +kernel
theorem dX6_mixPlow_7 : decode cX6_mixPlow 7 = .ok (.bipush 7, 2) := by decide +kernel
theorem dX6_mixPlow_9 : decode cX6_mixPlow 9 = .ok (.if_icmp .gt 21, 3) := by decide +kernel
theorem dX6_mixPlow_12 : decode cX6_mixPlow 12 = .ok (.lload_n 3, 1) := by decide +kernel
theorem dX6_mixPlow_13 : decode cX6_mixPlow 13 = .ok (.aload_n 2, 1) := by decide +kernel
theorem dX6_mixPlow_14 : decode cX6_mixPlow 14 = .ok (.iload 5, 2) := by decide +kernel
theorem dX6_mixPlow_16 : decode cX6_mixPlow 16 = .ok (.invokevirtual 151, 3) := by decide +kernel
theorem dX6_mixPlow_19 : decode cX6_mixPlow 19 = .ok (.i2l, 1) := by decide +kernel
theorem dX6_mixPlow_20 : decode cX6_mixPlow 20 = .ok (.invokestatic 206, 3) := by decide +kernel
theorem dX6_mixPlow_23 : decode cX6_mixPlow 23 = .ok (.lstore_n 3, 1) := by decide +kernel
theorem dX6_mixPlow_24 : decode cX6_mixPlow 24 = .ok (.iinc 5 1, 3) := by decide +kernel
theorem dX6_mixPlow_27 : decode cX6_mixPlow 27 = .ok (.goto (-22), 3) := by decide +kernel
theorem dX6_mixPlow_30 : decode cX6_mixPlow 30 = .ok (.iconst 0, 1) := by decide +kernel
theorem dX6_mixPlow_31 : decode cX6_mixPlow 31 = .ok (.istore 5, 2) := by decide +kernel
theorem dX6_mixPlow_33 : decode cX6_mixPlow 33 = .ok (.iload 5, 2) := by decide +kernel
theorem dX6_mixPlow_35 : decode cX6_mixPlow 35 = .ok (.aload_n 2, 1) := by decide +kernel
theorem dX6_mixPlow_36 : decode cX6_mixPlow 36 = .ok (.getfield 81, 3) := by decide +kernel
theorem dX6_mixPlow_39 : decode cX6_mixPlow 39 = .ok (.if_icmp .ge 22, 3) := by decide +kernel
theorem dX6_mixPlow_42 : decode cX6_mixPlow 42 = .ok (.lload_n 3, 1) := by decide +kernel
theorem dX6_mixPlow_43 : decode cX6_mixPlow 43 = .ok (.aload_n 2, 1) := by decide +kernel
theorem dX6_mixPlow_44 : decode cX6_mixPlow 44 = .ok (.getfield 86, 3) := by decide +kernel
theorem dX6_mixPlow_47 : decode cX6_mixPlow 47 = .ok (.iload 5, 2) := by decide +kernel
theorem dX6_mixPlow_49 : decode cX6_mixPlow 49 = .ok (.iaload, 1) := by decide +kernel
theorem dX6_mixPlow_50 : decode cX6_mixPlow 50 = .ok (.i2l, 1) := by decide +kernel
theorem dX6_mixPlow_51 : decode cX6_mixPlow 51 = .ok (.invokestatic 206, 3) := by decide +kernel
theorem dX6_mixPlow_54 : decode cX6_mixPlow 54 = .ok (.lstore_n 3, 1) := by decide +kernel
theorem dX6_mixPlow_55 : decode cX6_mixPlow 55 = .ok (.iinc 5 1, 3) := by decide +kernel
theorem dX6_mixPlow_58 : decode cX6_mixPlow 58 = .ok (.goto (-25), 3) := by decide +kernel
theorem dX6_mixPlow_61 : decode cX6_mixPlow 61 = .ok (.lload_n 3, 1) := by decide +kernel
theorem dX6_mixPlow_62 : decode cX6_mixPlow 62 = .ok (.lreturn, 1) := by decide +kernel
theorem dX6_mixTerms_0 : decode cX6_mixTerms 0 = .ok (.lload_n 0, 1) := by decide +kernel
theorem dX6_mixTerms_1 : decode cX6_mixTerms 1 = .ok (.lstore_n 3, 1) := by decide +kernel
theorem dX6_mixTerms_2 : decode cX6_mixTerms 2 = .ok (.iconst 0, 1) := by decide +kernel
theorem dX6_mixTerms_3 : decode cX6_mixTerms 3 = .ok (.istore 5, 2) := by decide +kernel
theorem dX6_mixTerms_5 : decode cX6_mixTerms 5 = .ok (.iload 5, 2) := by decide +kernel
theorem dX6_mixTerms_7 : decode cX6_mixTerms 7 = .ok (.iconst 3, 1) := by decide +kernel
theorem dX6_mixTerms_8 : decode cX6_mixTerms 8 = .ok (.if_icmp .gt 21, 3) := by decide +kernel
theorem dX6_mixTerms_11 : decode cX6_mixTerms 11 = .ok (.lload_n 3, 1) := by decide +kernel
theorem dX6_mixTerms_12 : decode cX6_mixTerms 12 = .ok (.aload_n 2, 1) := by decide +kernel
theorem dX6_mixTerms_13 : decode cX6_mixTerms 13 = .ok (.iload 5, 2) := by decide +kernel
theorem dX6_mixTerms_15 : decode cX6_mixTerms 15 = .ok (.invokevirtual 152, 3) := by decide +kernel
theorem dX6_mixTerms_18 : decode cX6_mixTerms 18 = .ok (.i2l, 1) := by decide +kernel
theorem dX6_mixTerms_19 : decode cX6_mixTerms 19 = .ok (.invokestatic 206, 3) := by decide +kernel
theorem dX6_mixTerms_22 : decode cX6_mixTerms 22 = .ok (.lstore_n 3, 1) := by decide +kernel
theorem dX6_mixTerms_23 : decode cX6_mixTerms 23 = .ok (.iinc 5 1, 3) := by decide +kernel
theorem dX6_mixTerms_26 : decode cX6_mixTerms 26 = .ok (.goto (-21), 3) := by decide +kernel
theorem dX6_mixTerms_29 : decode cX6_mixTerms 29 = .ok (.lload_n 3, 1) := by decide +kernel
theorem dX6_mixTerms_30 : decode cX6_mixTerms 30 = .ok (.lreturn, 1) := by decide +kernel
theorem dX6_mix_0 : decode cX6_mix 0 = .ok (.ldc2_w 222, 3) := by decide +kernel
theorem dX6_mix_3 : decode cX6_mix 3 = .ok (.lload_n 0, 1) := by decide +kernel
theorem dX6_mix_4 : decode cX6_mix 4 = .ok (.lmul, 1) := by decide +kernel
theorem dX6_mix_5 : decode cX6_mix 5 = .ok (.lload_n 2, 1) := by decide +kernel
theorem dX6_mix_6 : decode cX6_mix 6 = .ok (.ladd, 1) := by decide +kernel
theorem dX6_mix_7 : decode cX6_mix 7 = .ok (.lreturn, 1) := by decide +kernel
theorem dX6_checkArgument_0 : decode cX6_checkArgument 0 = .ok (.iload_n 0, 1) := by decide +kernel
theorem dX6_checkArgument_1 : decode cX6_checkArgument 1 = .ok (.iload_n 1, 1) := by decide +kernel
theorem dX6_checkArgument_2 : decode cX6_checkArgument 2 = .ok (.if_icmp .lt 8, 3) := by decide +kernel
theorem dX6_checkArgument_5 : decode cX6_checkArgument 5 = .ok (.iload_n 0, 1) := by decide +kernel
theorem dX6_checkArgument_6 : decode cX6_checkArgument 6 = .ok (.iload_n 2, 1) := by decide +kernel
theorem dX6_checkArgument_7 : decode cX6_checkArgument 7 = .ok (.if_icmp .le 13, 3) := by decide +kernel
theorem dX6_checkArgument_10 : decode cX6_checkArgument 10 = .ok (.new 224, 3) := by decide +kernel
theorem dX6_checkArgument_13 : decode cX6_checkArgument 13 = .ok (.dup, 1) := by decide +kernel
theorem dX6_checkArgument_14 : decode cX6_checkArgument 14 = .ok (.ldc 226, 2) := by decide +kernel
theorem dX6_checkArgument_16 : decode cX6_checkArgument 16 = .ok (.invokespecial 228, 3) := by decide +kernel
theorem dX6_checkArgument_19 : decode cX6_checkArgument 19 = .ok (.athrow, 1) := by decide +kernel
theorem dX6_checkArgument_20 : decode cX6_checkArgument 20 = .ok (.return_, 1) := by decide +kernel
theorem dX6_checkIndex_0 : decode cX6_checkIndex 0 = .ok (.iload_n 0, 1) := by decide +kernel
theorem dX6_checkIndex_1 : decode cX6_checkIndex 1 = .ok (.ifCond .lt 8, 3) := by decide +kernel
theorem dX6_checkIndex_4 : decode cX6_checkIndex 4 = .ok (.iload_n 0, 1) := by decide +kernel
theorem dX6_checkIndex_5 : decode cX6_checkIndex 5 = .ok (.iload_n 1, 1) := by decide +kernel
theorem dX6_checkIndex_6 : decode cX6_checkIndex 6 = .ok (.if_icmp .lt 13, 3) := by decide +kernel
theorem dX6_checkIndex_9 : decode cX6_checkIndex 9 = .ok (.new 229, 3) := by decide +kernel
theorem dX6_checkIndex_12 : decode cX6_checkIndex 12 = .ok (.dup, 1) := by decide +kernel
theorem dX6_checkIndex_13 : decode cX6_checkIndex 13 = .ok (.ldc 231, 2) := by decide +kernel
theorem dX6_checkIndex_15 : decode cX6_checkIndex 15 = .ok (.invokespecial 233, 3) := by decide +kernel
theorem dX6_checkIndex_18 : decode cX6_checkIndex 18 = .ok (.athrow, 1) := by decide +kernel
theorem dX6_checkIndex_19 : decode cX6_checkIndex 19 = .ok (.return_, 1) := by decide +kernel
theorem dX6_checkStreet_0 : decode cX6_checkStreet 0 = .ok (.iload_n 1, 1) := by decide +kernel
theorem dX6_checkStreet_1 : decode cX6_checkStreet 1 = .ok (.aload_n 0, 1) := by decide +kernel
theorem dX6_checkStreet_2 : decode cX6_checkStreet 2 = .ok (.getfield 10, 3) := by decide +kernel
theorem dX6_checkStreet_5 : decode cX6_checkStreet 5 = .ok (.getfield 37, 3) := by decide +kernel
theorem dX6_checkStreet_8 : decode cX6_checkStreet 8 = .ok (.invokestatic 94, 3) := by decide +kernel
theorem dX6_checkStreet_11 : decode cX6_checkStreet 11 = .ok (.return_, 1) := by decide +kernel
theorem dX6_checkPlow_0 : decode cX6_checkPlow 0 = .ok (.iload_n 1, 1) := by decide +kernel
theorem dX6_checkPlow_1 : decode cX6_checkPlow 1 = .ok (.aload_n 0, 1) := by decide +kernel
theorem dX6_checkPlow_2 : decode cX6_checkPlow 2 = .ok (.getfield 10, 3) := by decide +kernel
theorem dX6_checkPlow_5 : decode cX6_checkPlow 5 = .ok (.getfield 62, 3) := by decide +kernel
theorem dX6_checkPlow_8 : decode cX6_checkPlow 8 = .ok (.invokestatic 94, 3) := by decide +kernel
theorem dX6_checkPlow_11 : decode cX6_checkPlow 11 = .ok (.return_, 1) := by decide +kernel
theorem dX6_checkWeather_0 : decode cX6_checkWeather 0 = .ok (.iload_n 0, 1) := by decide +kernel
theorem dX6_checkWeather_1 : decode cX6_checkWeather 1 = .ok (.sipush (-300), 3) := by decide +kernel
theorem dX6_checkWeather_4 : decode cX6_checkWeather 4 = .ok (.sipush 300, 3) := by decide +kernel
theorem dX6_checkWeather_7 : decode cX6_checkWeather 7 = .ok (.invokestatic 33, 3) := by decide +kernel
theorem dX6_checkWeather_10 : decode cX6_checkWeather 10 = .ok (.iload_n 1, 1) := by decide +kernel
theorem dX6_checkWeather_11 : decode cX6_checkWeather 11 = .ok (.iconst 0, 1) := by decide +kernel
theorem dX6_checkWeather_12 : decode cX6_checkWeather 12 = .ok (.bipush 100, 2) := by decide +kernel
theorem dX6_checkWeather_14 : decode cX6_checkWeather 14 = .ok (.invokestatic 33, 3) := by decide +kernel
theorem dX6_checkWeather_17 : decode cX6_checkWeather 17 = .ok (.return_, 1) := by decide +kernel
theorem dX6_checkHoursToCome_0 : decode cX6_checkHoursToCome 0 = .ok (.aload_n 0, 1) := by decide +kernel
theorem dX6_checkHoursToCome_1 : decode cX6_checkHoursToCome 1 = .ok (.getfield 10, 3) := by decide +kernel
theorem dX6_checkHoursToCome_4 : decode cX6_checkHoursToCome 4 = .ok (.getfield 234, 3) := by decide +kernel
theorem dX6_checkHoursToCome_7 : decode cX6_checkHoursToCome 7 = .ok (.iload_n 1, 1) := by decide +kernel
theorem dX6_checkHoursToCome_8 : decode cX6_checkHoursToCome 8 = .ok (.iadd, 1) := by decide +kernel
theorem dX6_checkHoursToCome_9 : decode cX6_checkHoursToCome 9 = .ok (.sipush 2000, 3) := by decide +kernel
theorem dX6_checkHoursToCome_12 : decode cX6_checkHoursToCome 12 = .ok (.if_icmp .le 13, 3) := by decide +kernel
theorem dX6_checkHoursToCome_15 : decode cX6_checkHoursToCome 15 = .ok (.new 41, 3) := by decide +kernel
theorem dX6_checkHoursToCome_18 : decode cX6_checkHoursToCome 18 = .ok (.dup, 1) := by decide +kernel
theorem dX6_checkHoursToCome_19 : decode cX6_checkHoursToCome 19 = .ok (.ldc 236, 2) := by decide +kernel
theorem dX6_checkHoursToCome_21 : decode cX6_checkHoursToCome 21 = .ok (.invokespecial 45, 3) := by decide +kernel
theorem dX6_checkHoursToCome_24 : decode cX6_checkHoursToCome 24 = .ok (.athrow, 1) := by decide +kernel
theorem dX6_checkHoursToCome_25 : decode cX6_checkHoursToCome 25 = .ok (.return_, 1) := by decide +kernel
