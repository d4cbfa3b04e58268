theorem d_TM_init_0 : decode prog_12_method_1_code 0 = .ok (.aload_n 0, 1) := by decide +kernel
theorem d_TM_init_1 : decode prog_12_method_1_code 1 = .ok (.invokespecial 1, 3) := by decide +kernel
theorem d_TM_init_4 : decode prog_12_method_1_code 4 = .ok (.aload_n 0, 1) := by decide +kernel
theorem d_TM_init_5 : decode prog_12_method_1_code 5 = .ok (.sipush 1435, 3) := by decide +kernel
theorem d_TM_init_8 : decode prog_12_method_1_code 8 = .ok (.newarray .int, 2) := by decide +kernel
theorem d_TM_init_10 : decode prog_12_method_1_code 10 = .ok (.putfield 7, 3) := by decide +kernel
theorem d_TM_init_13 : decode prog_12_method_1_code 13 = .ok (.aload_n 0, 1) := by decide +kernel
theorem d_TM_init_14 : decode prog_12_method_1_code 14 = .ok (.sipush 1435, 3) := by decide +kernel
theorem d_TM_init_17 : decode prog_12_method_1_code 17 = .ok (.newarray .int, 2) := by decide +kernel
theorem d_TM_init_19 : decode prog_12_method_1_code 19 = .ok (.putfield 13, 3) := by decide +kernel
theorem d_TM_init_22 : decode prog_12_method_1_code 22 = .ok (.aload_n 0, 1) := by decide +kernel
theorem d_TM_init_23 : decode prog_12_method_1_code 23 = .ok (.sipush 2724, 3) := by decide +kernel
theorem d_TM_init_26 : decode prog_12_method_1_code 26 = .ok (.newarray .int, 2) := by decide +kernel
theorem d_TM_init_28 : decode prog_12_method_1_code 28 = .ok (.putfield 16, 3) := by decide +kernel
theorem d_TM_init_31 : decode prog_12_method_1_code 31 = .ok (.aload_n 0, 1) := by decide +kernel
theorem d_TM_init_32 : decode prog_12_method_1_code 32 = .ok (.sipush 300, 3) := by decide +kernel
theorem d_TM_init_35 : decode prog_12_method_1_code 35 = .ok (.newarray .int, 2) := by decide +kernel
theorem d_TM_init_37 : decode prog_12_method_1_code 37 = .ok (.putfield 19, 3) := by decide +kernel
theorem d_TM_init_40 : decode prog_12_method_1_code 40 = .ok (.aload_n 0, 1) := by decide +kernel
theorem d_TM_init_41 : decode prog_12_method_1_code 41 = .ok (.iconst (-1), 1) := by decide +kernel
theorem d_TM_init_42 : decode prog_12_method_1_code 42 = .ok (.putfield 22, 3) := by decide +kernel
theorem d_TM_init_45 : decode prog_12_method_1_code 45 = .ok (.aload_n 0, 1) := by decide +kernel
theorem d_TM_init_46 : decode prog_12_method_1_code 46 = .ok (.iconst (-1), 1) := by decide +kernel
theorem d_TM_init_47 : decode prog_12_method_1_code 47 = .ok (.putfield 26, 3) := by decide +kernel
theorem d_TM_init_50 : decode prog_12_method_1_code 50 = .ok (.aload_n 0, 1) := by decide +kernel
theorem d_TM_init_51 : decode prog_12_method_1_code 51 = .ok (.sipush 160, 3) := by decide +kernel
theorem d_TM_init_54 : decode prog_12_method_1_code 54 = .ok (.newarray .int, 2) := by decide +kernel
theorem d_TM_init_56 : decode prog_12_method_1_code 56 = .ok (.putfield 29, 3) := by decide +kernel
theorem d_TM_init_59 : decode prog_12_method_1_code 59 = .ok (.aload_n 0, 1) := by decide +kernel
theorem d_TM_init_60 : decode prog_12_method_1_code 60 = .ok (.bipush 8, 2) := by decide +kernel
theorem d_TM_init_62 : decode prog_12_method_1_code 62 = .ok (.newarray .int, 2) := by decide +kernel
theorem d_TM_init_64 : decode prog_12_method_1_code 64 = .ok (.putfield 32, 3) := by decide +kernel
theorem d_TM_init_67 : decode prog_12_method_1_code 67 = .ok (.aload_n 0, 1) := by decide +kernel
theorem d_TM_init_68 : decode prog_12_method_1_code 68 = .ok (.sipush 330, 3) := by decide +kernel
theorem d_TM_init_71 : decode prog_12_method_1_code 71 = .ok (.newarray .long, 2) := by decide +kernel
theorem d_TM_init_73 : decode prog_12_method_1_code 73 = .ok (.putfield 35, 3) := by decide +kernel
theorem d_TM_init_76 : decode prog_12_method_1_code 76 = .ok (.aload_n 0, 1) := by decide +kernel
theorem d_TM_init_77 : decode prog_12_method_1_code 77 = .ok (.sipush 330, 3) := by decide +kernel
theorem d_TM_init_80 : decode prog_12_method_1_code 80 = .ok (.newarray .boolean, 2) := by decide +kernel
theorem d_TM_init_82 : decode prog_12_method_1_code 82 = .ok (.putfield 39, 3) := by decide +kernel
theorem d_TM_init_85 : decode prog_12_method_1_code 85 = .ok (.aload_n 0, 1) := by decide +kernel
theorem d_TM_init_86 : decode prog_12_method_1_code 86 = .ok (.iconst 1, 1) := by decide +kernel
theorem d_TM_init_87 : decode prog_12_method_1_code 87 = .ok (.putfield 43, 3) := by decide +kernel
theorem d_TM_init_90 : decode prog_12_method_1_code 90 = .ok (.aload_n 0, 1) := by decide +kernel
theorem d_TM_init_91 : decode prog_12_method_1_code 91 = .ok (.bipush 8, 2) := by decide +kernel
theorem d_TM_init_93 : decode prog_12_method_1_code 93 = .ok (.newarray .int, 2) := by decide +kernel
theorem d_TM_init_95 : decode prog_12_method_1_code 95 = .ok (.putfield 47, 3) := by decide +kernel
theorem d_TM_init_98 : decode prog_12_method_1_code 98 = .ok (.aload_n 0, 1) := by decide +kernel
theorem d_TM_init_99 : decode prog_12_method_1_code 99 = .ok (.bipush 18, 2) := by decide +kernel
theorem d_TM_init_101 : decode prog_12_method_1_code 101 = .ok (.newarray .int, 2) := by decide +kernel
theorem d_TM_init_103 : decode prog_12_method_1_code 103 = .ok (.putfield 50, 3) := by decide +kernel
theorem d_TM_init_106 : decode prog_12_method_1_code 106 = .ok (.aload_n 0, 1) := by decide +kernel
theorem d_TM_init_107 : decode prog_12_method_1_code 107 = .ok (.bipush 9, 2) := by decide +kernel
theorem d_TM_init_109 : decode prog_12_method_1_code 109 = .ok (.newarray .int, 2) := by decide +kernel
theorem d_TM_init_111 : decode prog_12_method_1_code 111 = .ok (.putfield 53, 3) := by decide +kernel
theorem d_TM_init_114 : decode prog_12_method_1_code 114 = .ok (.aload_n 0, 1) := by decide +kernel
theorem d_TM_init_115 : decode prog_12_method_1_code 115 = .ok (.bipush 8, 2) := by decide +kernel
theorem d_TM_init_117 : decode prog_12_method_1_code 117 = .ok (.newarray .int, 2) := by decide +kernel
theorem d_TM_init_119 : decode prog_12_method_1_code 119 = .ok (.putfield 56, 3) := by decide +kernel
theorem d_TM_init_122 : decode prog_12_method_1_code 122 = .ok (.aload_n 0, 1) := by decide +kernel
theorem d_TM_init_123 : decode prog_12_method_1_code 123 = .ok (.bipush 9, 2) := by decide +kernel
theorem d_TM_init_125 : decode prog_12_method_1_code 125 = .ok (.newarray .long, 2) := by decide +kernel
theorem d_TM_init_127 : decode prog_12_method_1_code 127 = .ok (.putfield 59, 3) := by decide +kernel
theorem d_TM_init_130 : decode prog_12_method_1_code 130 = .ok (.aload_n 0, 1) := by decide +kernel
theorem d_TM_init_131 : decode prog_12_method_1_code 131 = .ok (.bipush 81, 2) := by decide +kernel
theorem d_TM_init_133 : decode prog_12_method_1_code 133 = .ok (.newarray .int, 2) := by decide +kernel
theorem d_TM_init_135 : decode prog_12_method_1_code 135 = .ok (.putfield 62, 3) := by decide +kernel
theorem d_TM_init_138 : decode prog_12_method_1_code 138 = .ok (.aload_n 0, 1) := by decide +kernel
theorem d_TM_init_139 : decode prog_12_method_1_code 139 = .ok (.getfield 7, 3) := by decide +kernel
theorem d_TM_init_142 : decode prog_12_method_1_code 142 = .ok (.bipush 6, 2) := by decide +kernel
theorem d_TM_init_144 : decode prog_12_method_1_code 144 = .ok (.sipush 449, 3) := by decide +kernel
theorem d_TM_init_147 : decode prog_12_method_1_code 147 = .ok (.iastore, 1) := by decide +kernel
theorem d_TM_init_148 : decode prog_12_method_1_code 148 = .ok (.aload_n 0, 1) := by decide +kernel
theorem d_TM_init_149 : decode prog_12_method_1_code 149 = .ok (.getfield 7, 3) := by decide +kernel
theorem d_TM_init_152 : decode prog_12_method_1_code 152 = .ok (.iconst 2, 1) := by decide +kernel
theorem d_TM_init_153 : decode prog_12_method_1_code 153 = .ok (.iconst (-1), 1) := by decide +kernel
theorem d_TM_init_154 : decode prog_12_method_1_code 154 = .ok (.iastore, 1) := by decide +kernel
theorem d_TM_init_155 : decode prog_12_method_1_code 155 = .ok (.aload_n 0, 1) := by decide +kernel
theorem d_TM_init_156 : decode prog_12_method_1_code 156 = .ok (.getfield 7, 3) := by decide +kernel
theorem d_TM_init_159 : decode prog_12_method_1_code 159 = .ok (.aload_n 0, 1) := by decide +kernel
theorem d_TM_init_160 : decode prog_12_method_1_code 160 = .ok (.getfield 13, 3) := by decide +kernel
theorem d_TM_init_163 : decode prog_12_method_1_code 163 = .ok (.invokestatic 65, 3) := by decide +kernel
theorem d_TM_init_166 : decode prog_12_method_1_code 166 = .ok (.return_, 1) := by decide +kernel
theorem d_TM_copy_0 : decode prog_12_method_2_code 0 = .ok (.iconst 0, 1) := by decide +kernel
theorem d_TM_copy_1 : decode prog_12_method_2_code 1 = .ok (.istore_n 2, 1) := by decide +kernel
theorem d_TM_copy_2 : decode prog_12_method_2_code 2 = .ok (.iload_n 2, 1) := by decide +kernel
theorem d_TM_copy_3 : decode prog_12_method_2_code 3 = .ok (.sipush 1435, 3) := by decide +kernel
theorem d_TM_copy_6 : decode prog_12_method_2_code 6 = .ok (.if_icmp .ge 15, 3) := by decide +kernel
theorem d_TM_copy_9 : decode prog_12_method_2_code 9 = .ok (.aload_n 1, 1) := by decide +kernel
theorem d_TM_copy_10 : decode prog_12_method_2_code 10 = .ok (.iload_n 2, 1) := by decide +kernel
theorem d_TM_copy_11 : decode prog_12_method_2_code 11 = .ok (.aload_n 0, 1) := by decide +kernel
theorem d_TM_copy_12 : decode prog_12_method_2_code 12 = .ok (.iload_n 2, 1) := by decide +kernel
theorem d_TM_copy_13 : decode prog_12_method_2_code 13 = .ok (.iaload, 1) := by decide +kernel
theorem d_TM_copy_14 : decode prog_12_method_2_code 14 = .ok (.iastore, 1) := by decide +kernel
theorem d_TM_copy_15 : decode prog_12_method_2_code 15 = .ok (.iinc 2 1, 3) := by decide +kernel
theorem d_TM_copy_18 : decode prog_12_method_2_code 18 = .ok (.goto (-16), 3) := by decide +kernel
theorem d_TM_copy_21 : decode prog_12_method_2_code 21 = .ok (.return_, 1) := by decide +kernel
theorem d_TM_person_0 : decode prog_12_method_10_code 0 = .ok (.iload_n 1, 1) := by decide +kernel
theorem d_TM_person_1 : decode prog_12_method_10_code 1 = .ok (.iconst 0, 1) := by decide +kernel
theorem d_TM_person_2 : decode prog_12_method_10_code 2 = .ok (.bipush 9, 2) := by decide +kernel
theorem d_TM_person_4 : decode prog_12_method_10_code 4 = .ok (.invokestatic 69, 3) := by decide +kernel
theorem d_TM_person_7 : decode prog_12_method_10_code 7 = .ok (.ifCond .eq 23, 3) := by decide +kernel
theorem d_TM_person_10 : decode prog_12_method_10_code 10 = .ok (.iload_n 2, 1) := by decide +kernel
theorem d_TM_person_11 : decode prog_12_method_10_code 11 = .ok (.iconst 0, 1) := by decide +kernel
theorem d_TM_person_12 : decode prog_12_method_10_code 12 = .ok (.iconst 3, 1) := by decide +kernel
theorem d_TM_person_13 : decode prog_12_method_10_code 13 = .ok (.invokestatic 69, 3) := by decide +kernel
theorem d_TM_person_16 : decode prog_12_method_10_code 16 = .ok (.ifCond .eq 14, 3) := by decide +kernel
theorem d_TM_person_19 : decode prog_12_method_10_code 19 = .ok (.aload_n 0, 1) := by decide +kernel
theorem d_TM_person_20 : decode prog_12_method_10_code 20 = .ok (.getfield 7, 3) := by decide +kernel
theorem d_TM_person_23 : decode prog_12_method_10_code 23 = .ok (.iconst 0, 1) := by decide +kernel
theorem d_TM_person_24 : decode prog_12_method_10_code 24 = .ok (.iaload, 1) := by decide +kernel
theorem d_TM_person_25 : decode prog_12_method_10_code 25 = .ok (.bipush 8, 2) := by decide +kernel
theorem d_TM_person_27 : decode prog_12_method_10_code 27 = .ok (.if_icmp .ne 5, 3) := by decide +kernel
theorem d_TM_person_30 : decode prog_12_method_10_code 30 = .ok (.iconst (-1), 1) := by decide +kernel
theorem d_TM_person_31 : decode prog_12_method_10_code 31 = .ok (.ireturn, 1) := by decide +kernel
theorem d_TM_person_32 : decode prog_12_method_10_code 32 = .ok (.aload_n 0, 1) := by decide +kernel
theorem d_TM_person_33 : decode prog_12_method_10_code 33 = .ok (.getfield 7, 3) := by decide +kernel
theorem d_TM_person_36 : decode prog_12_method_10_code 36 = .ok (.iconst 0, 1) := by decide +kernel
theorem d_TM_person_37 : decode prog_12_method_10_code 37 = .ok (.iaload, 1) := by decide +kernel
theorem d_TM_person_38 : decode prog_12_method_10_code 38 = .ok (.istore_n 3, 1) := by decide +kernel
theorem d_TM_person_39 : decode prog_12_method_10_code 39 = .ok (.aload_n 0, 1) := by decide +kernel
theorem d_TM_person_40 : decode prog_12_method_10_code 40 = .ok (.getfield 7, 3) := by decide +kernel
theorem d_TM_person_43 : decode prog_12_method_10_code 43 = .ok (.bipush 26, 2) := by decide +kernel
theorem d_TM_person_45 : decode prog_12_method_10_code 45 = .ok (.iload_n 3, 1) := by decide +kernel
theorem d_TM_person_46 : decode prog_12_method_10_code 46 = .ok (.iadd, 1) := by decide +kernel
theorem d_TM_person_47 : decode prog_12_method_10_code 47 = .ok (.iload_n 1, 1) := by decide +kernel
theorem d_TM_person_48 : decode prog_12_method_10_code 48 = .ok (.iastore, 1) := by decide +kernel
theorem d_TM_person_49 : decode prog_12_method_10_code 49 = .ok (.aload_n 0, 1) := by decide +kernel
theorem d_TM_person_50 : decode prog_12_method_10_code 50 = .ok (.getfield 7, 3) := by decide +kernel
theorem d_TM_person_53 : decode prog_12_method_10_code 53 = .ok (.bipush 10, 2) := by decide +kernel
theorem d_TM_person_55 : decode prog_12_method_10_code 55 = .ok (.iload_n 3, 1) := by decide +kernel
theorem d_TM_person_56 : decode prog_12_method_10_code 56 = .ok (.iadd, 1) := by decide +kernel
theorem d_TM_person_57 : decode prog_12_method_10_code 57 = .ok (.iload_n 1, 1) := by decide +kernel
theorem d_TM_person_58 : decode prog_12_method_10_code 58 = .ok (.iastore, 1) := by decide +kernel
theorem d_TM_person_59 : decode prog_12_method_10_code 59 = .ok (.aload_n 0, 1) := by decide +kernel
theorem d_TM_person_60 : decode prog_12_method_10_code 60 = .ok (.getfield 7, 3) := by decide +kernel
theorem d_TM_person_63 : decode prog_12_method_10_code 63 = .ok (.bipush 18, 2) := by decide +kernel
theorem d_TM_person_65 : decode prog_12_method_10_code 65 = .ok (.iload_n 3, 1) := by decide +kernel
theorem d_TM_person_66 : decode prog_12_method_10_code 66 = .ok (.iadd, 1) := by decide +kernel
theorem d_TM_person_67 : decode prog_12_method_10_code 67 = .ok (.iload_n 2, 1) := by decide +kernel
theorem d_TM_person_68 : decode prog_12_method_10_code 68 = .ok (.iastore, 1) := by decide +kernel
theorem d_TM_person_69 : decode prog_12_method_10_code 69 = .ok (.aload_n 0, 1) := by decide +kernel
theorem d_TM_person_70 : decode prog_12_method_10_code 70 = .ok (.getfield 7, 3) := by decide +kernel
theorem d_TM_person_73 : decode prog_12_method_10_code 73 = .ok (.iconst 0, 1) := by decide +kernel
theorem d_TM_person_74 : decode prog_12_method_10_code 74 = .ok (.dup2, 1) := by decide +kernel
theorem d_TM_person_75 : decode prog_12_method_10_code 75 = .ok (.iaload, 1) := by decide +kernel
theorem d_TM_person_76 : decode prog_12_method_10_code 76 = .ok (.iconst 1, 1) := by decide +kernel
theorem d_TM_person_77 : decode prog_12_method_10_code 77 = .ok (.iadd, 1) := by decide +kernel
theorem d_TM_person_78 : decode prog_12_method_10_code 78 = .ok (.iastore, 1) := by decide +kernel
theorem d_TM_person_79 : decode prog_12_method_10_code 79 = .ok (.iload_n 3, 1) := by decide +kernel
theorem d_TM_person_80 : decode prog_12_method_10_code 80 = .ok (.ireturn, 1) := by decide +kernel
theorem d_TM_isIn_0 : decode prog_12_method_3_code 0 = .ok (.iload_n 0, 1) := by decide +kernel
theorem d_TM_isIn_1 : decode prog_12_method_3_code 1 = .ok (.iload_n 1, 1) := by decide +kernel
theorem d_TM_isIn_2 : decode prog_12_method_3_code 2 = .ok (.if_icmp .lt 12, 3) := by decide +kernel
theorem d_TM_isIn_5 : decode prog_12_method_3_code 5 = .ok (.iload_n 0, 1) := by decide +kernel
theorem d_TM_isIn_6 : decode prog_12_method_3_code 6 = .ok (.iload_n 2, 1) := by decide +kernel
theorem d_TM_isIn_7 : decode prog_12_method_3_code 7 = .ok (.if_icmp .gt 7, 3) := by decide +kernel
theorem d_TM_isIn_10 : decode prog_12_method_3_code 10 = .ok (.iconst 1, 1) := by decide +kernel
theorem d_TM_isIn_11 : decode prog_12_method_3_code 11 = .ok (.goto 4, 3) := by decide +kernel
theorem d_TM_isIn_14 : decode prog_12_method_3_code 14 = .ok (.iconst 0, 1) := by decide +kernel
theorem d_TM_isIn_15 : decode prog_12_method_3_code 15 = .ok (.ireturn, 1) := by decide +kernel
theorem d_TM_hear_0 : decode prog_12_method_11_code 0 = .ok (.aload_n 0, 1) := by decide +kernel
theorem d_TM_hear_1 : decode prog_12_method_11_code 1 = .ok (.iload_n 1, 1) := by decide +kernel
theorem d_TM_hear_2 : decode prog_12_method_11_code 2 = .ok (.invokevirtual 73, 3) := by decide +kernel
theorem d_TM_hear_5 : decode prog_12_method_11_code 5 = .ok (.ifCond .eq 16, 3) := by decide +kernel
theorem d_TM_hear_8 : decode prog_12_method_11_code 8 = .ok (.aload_n 0, 1) := by decide +kernel
theorem d_TM_hear_9 : decode prog_12_method_11_code 9 = .ok (.iload_n 2, 1) := by decide +kernel
theorem d_TM_hear_10 : decode prog_12_method_11_code 10 = .ok (.invokevirtual 73, 3) := by decide +kernel
theorem d_TM_hear_13 : decode prog_12_method_11_code 13 = .ok (.ifCond .eq 8, 3) := by decide +kernel
theorem d_TM_hear_16 : decode prog_12_method_11_code 16 = .ok (.iload_n 1, 1) := by decide +kernel
theorem d_TM_hear_17 : decode prog_12_method_11_code 17 = .ok (.iload_n 2, 1) := by decide +kernel
theorem d_TM_hear_18 : decode prog_12_method_11_code 18 = .ok (.if_icmp .ne 5, 3) := by decide +kernel
theorem d_TM_hear_21 : decode prog_12_method_11_code 21 = .ok (.iconst 0, 1) := by decide +kernel
theorem d_TM_hear_22 : decode prog_12_method_11_code 22 = .ok (.ireturn, 1) := by decide +kernel
theorem d_TM_hear_23 : decode prog_12_method_11_code 23 = .ok (.aload_n 0, 1) := by decide +kernel
theorem d_TM_hear_24 : decode prog_12_method_11_code 24 = .ok (.getfield 7, 3) := by decide +kernel
theorem d_TM_hear_27 : decode prog_12_method_11_code 27 = .ok (.bipush 34, 2) := by decide +kernel
theorem d_TM_hear_29 : decode prog_12_method_11_code 29 = .ok (.iload_n 1, 1) := by decide +kernel
theorem d_TM_hear_30 : decode prog_12_method_11_code 30 = .ok (.iadd, 1) := by decide +kernel
theorem d_TM_hear_31 : decode prog_12_method_11_code 31 = .ok (.dup2, 1) := by decide +kernel
theorem d_TM_hear_32 : decode prog_12_method_11_code 32 = .ok (.iaload, 1) := by decide +kernel
theorem d_TM_hear_33 : decode prog_12_method_11_code 33 = .ok (.iconst 1, 1) := by decide +kernel
theorem d_TM_hear_34 : decode prog_12_method_11_code 34 = .ok (.iload_n 2, 1) := by decide +kernel
theorem d_TM_hear_35 : decode prog_12_method_11_code 35 = .ok (.ishl, 1) := by decide +kernel
theorem d_TM_hear_36 : decode prog_12_method_11_code 36 = .ok (.ixor, 1) := by decide +kernel
theorem d_TM_hear_37 : decode prog_12_method_11_code 37 = .ok (.iastore, 1) := by decide +kernel
theorem d_TM_hear_38 : decode prog_12_method_11_code 38 = .ok (.iconst 1, 1) := by decide +kernel
theorem d_TM_hear_39 : decode prog_12_method_11_code 39 = .ok (.ireturn, 1) := by decide +kernel
theorem d_TM_isPerson_0 : decode prog_12_method_7_code 0 = .ok (.iload_n 1, 1) := by decide +kernel
theorem d_TM_isPerson_1 : decode prog_12_method_7_code 1 = .ok (.iconst 0, 1) := by decide +kernel
theorem d_TM_isPerson_2 : decode prog_12_method_7_code 2 = .ok (.aload_n 0, 1) := by decide +kernel
theorem d_TM_isPerson_3 : decode prog_12_method_7_code 3 = .ok (.getfield 7, 3) := by decide +kernel
theorem d_TM_isPerson_6 : decode prog_12_method_7_code 6 = .ok (.iconst 0, 1) := by decide +kernel
theorem d_TM_isPerson_7 : decode prog_12_method_7_code 7 = .ok (.iaload, 1) := by decide +kernel
theorem d_TM_isPerson_8 : decode prog_12_method_7_code 8 = .ok (.iconst 1, 1) := by decide +kernel
theorem d_TM_isPerson_9 : decode prog_12_method_7_code 9 = .ok (.isub, 1) := by decide +kernel
theorem d_TM_isPerson_10 : decode prog_12_method_7_code 10 = .ok (.invokestatic 69, 3) := by decide +kernel
theorem d_TM_isPerson_13 : decode prog_12_method_7_code 13 = .ok (.ireturn, 1) := by decide +kernel
theorem d_TM_feed_0 : decode prog_12_method_13_code 0 = .ok (.aload_n 0, 1) := by decide +kernel
theorem d_TM_feed_1 : decode prog_12_method_13_code 1 = .ok (.getfield 77, 3) := by decide +kernel
theorem d_TM_feed_4 : decode prog_12_method_13_code 4 = .ok (.bipush 20, 2) := by decide +kernel
theorem d_TM_feed_6 : decode prog_12_method_13_code 6 = .ok (.iadd, 1) := by decide +kernel
theorem d_TM_feed_7 : decode prog_12_method_13_code 7 = .ok (.sipush 300, 3) := by decide +kernel
theorem d_TM_feed_10 : decode prog_12_method_13_code 10 = .ok (.if_icmp .le 5, 3) := by decide +kernel
theorem d_TM_feed_13 : decode prog_12_method_13_code 13 = .ok (.iconst (-1), 1) := by decide +kernel
theorem d_TM_feed_14 : decode prog_12_method_13_code 14 = .ok (.ireturn, 1) := by decide +kernel
theorem d_TM_feed_15 : decode prog_12_method_13_code 15 = .ok (.aload_n 0, 1) := by decide +kernel
theorem d_TM_feed_16 : decode prog_12_method_13_code 16 = .ok (.iload_n 1, 1) := by decide +kernel
theorem d_TM_feed_17 : decode prog_12_method_13_code 17 = .ok (.invokevirtual 80, 3) := by decide +kernel
theorem d_TM_feed_20 : decode prog_12_method_13_code 20 = .ok (.aload_n 0, 1) := by decide +kernel
theorem d_TM_feed_21 : decode prog_12_method_13_code 21 = .ok (.iload_n 2, 1) := by decide +kernel
theorem d_TM_feed_22 : decode prog_12_method_13_code 22 = .ok (.invokevirtual 80, 3) := by decide +kernel
theorem d_TM_feed_25 : decode prog_12_method_13_code 25 = .ok (.aload_n 0, 1) := by decide +kernel
theorem d_TM_feed_26 : decode prog_12_method_13_code 26 = .ok (.iload_n 3, 1) := by decide +kernel
theorem d_TM_feed_27 : decode prog_12_method_13_code 27 = .ok (.invokevirtual 80, 3) := by decide +kernel
theorem d_TM_feed_30 : decode prog_12_method_13_code 30 = .ok (.aload_n 0, 1) := by decide +kernel
theorem d_TM_feed_31 : decode prog_12_method_13_code 31 = .ok (.iload 4, 2) := by decide +kernel
theorem d_TM_feed_33 : decode prog_12_method_13_code 33 = .ok (.invokevirtual 80, 3) := by decide +kernel
theorem d_TM_feed_36 : decode prog_12_method_13_code 36 = .ok (.aload_n 0, 1) := by decide +kernel
theorem d_TM_feed_37 : decode prog_12_method_13_code 37 = .ok (.iload 5, 2) := by decide +kernel
theorem d_TM_feed_39 : decode prog_12_method_13_code 39 = .ok (.invokevirtual 80, 3) := by decide +kernel
theorem d_TM_feed_42 : decode prog_12_method_13_code 42 = .ok (.aload_n 0, 1) := by decide +kernel
theorem d_TM_feed_43 : decode prog_12_method_13_code 43 = .ok (.getfield 77, 3) := by decide +kernel
theorem d_TM_feed_46 : decode prog_12_method_13_code 46 = .ok (.ireturn, 1) := by decide +kernel
theorem d_TM_four_0 : decode prog_12_method_12_code 0 = .ok (.bipush 24, 2) := by decide +kernel
theorem d_TM_four_2 : decode prog_12_method_12_code 2 = .ok (.istore_n 2, 1) := by decide +kernel
theorem d_TM_four_3 : decode prog_12_method_12_code 3 = .ok (.iload_n 2, 1) := by decide +kernel
theorem d_TM_four_4 : decode prog_12_method_12_code 4 = .ok (.ifCond .lt 35, 3) := by decide +kernel
theorem d_TM_four_7 : decode prog_12_method_12_code 7 = .ok (.aload_n 0, 1) := by decide +kernel
theorem d_TM_four_8 : decode prog_12_method_12_code 8 = .ok (.getfield 19, 3) := by decide +kernel
theorem d_TM_four_11 : decode prog_12_method_12_code 11 = .ok (.aload_n 0, 1) := by decide +kernel
theorem d_TM_four_12 : decode prog_12_method_12_code 12 = .ok (.getfield 77, 3) := by decide +kernel
theorem d_TM_four_15 : decode prog_12_method_12_code 15 = .ok (.iload_n 1, 1) := by decide +kernel
theorem d_TM_four_16 : decode prog_12_method_12_code 16 = .ok (.iload_n 2, 1) := by decide +kernel
theorem d_TM_four_17 : decode prog_12_method_12_code 17 = .ok (.ishr, 1) := by decide +kernel
theorem d_TM_four_18 : decode prog_12_method_12_code 18 = .ok (.sipush 255, 3) := by decide +kernel
theorem d_TM_four_21 : decode prog_12_method_12_code 21 = .ok (.iand, 1) := by decide +kernel
theorem d_TM_four_22 : decode prog_12_method_12_code 22 = .ok (.iastore, 1) := by decide +kernel
theorem d_TM_four_23 : decode prog_12_method_12_code 23 = .ok (.aload_n 0, 1) := by decide +kernel
theorem d_TM_four_24 : decode prog_12_method_12_code 24 = .ok (.dup, 1) := by decide +kernel
theorem d_TM_four_25 : decode prog_12_method_12_code 25 = .ok (.getfield 77, 3) := by decide +kernel
theorem d_TM_four_28 : decode prog_12_method_12_code 28 = .ok (.iconst 1, 1) := by decide +kernel
theorem d_TM_four_29 : decode prog_12_method_12_code 29 = .ok (.iadd, 1) := by decide +kernel
theorem d_TM_four_30 : decode prog_12_method_12_code 30 = .ok (.putfield 77, 3) := by decide +kernel
theorem d_TM_four_33 : decode prog_12_method_12_code 33 = .ok (.iinc 2 (-8), 3) := by decide +kernel
theorem d_TM_four_36 : decode prog_12_method_12_code 36 = .ok (.goto (-33), 3) := by decide +kernel
theorem d_TM_four_39 : decode prog_12_method_12_code 39 = .ok (.return_, 1) := by decide +kernel
theorem d_TM_end_0 : decode prog_12_method_14_code 0 = .ok (.iload_n 1, 1) := by decide +kernel
theorem d_TM_end_1 : decode prog_12_method_14_code 1 = .ok (.iconst 0, 1) := by decide +kernel
theorem d_TM_end_2 : decode prog_12_method_14_code 2 = .ok (.aload_n 0, 1) := by decide +kernel
theorem d_TM_end_3 : decode prog_12_method_14_code 3 = .ok (.getfield 77, 3) := by decide +kernel
theorem d_TM_end_6 : decode prog_12_method_14_code 6 = .ok (.invokestatic 69, 3) := by decide +kernel
theorem d_TM_end_9 : decode prog_12_method_14_code 9 = .ok (.ifCond .ne 5, 3) := by decide +kernel
theorem d_TM_end_12 : decode prog_12_method_14_code 12 = .ok (.iconst (-1), 1) := by decide +kernel
theorem d_TM_end_13 : decode prog_12_method_14_code 13 = .ok (.ireturn, 1) := by decide +kernel
theorem d_TM_end_14 : decode prog_12_method_14_code 14 = .ok (.aload_n 0, 1) := by decide +kernel
theorem d_TM_end_15 : decode prog_12_method_14_code 15 = .ok (.iload_n 1, 1) := by decide +kernel
theorem d_TM_end_16 : decode prog_12_method_14_code 16 = .ok (.putfield 77, 3) := by decide +kernel
theorem d_TM_end_19 : decode prog_12_method_14_code 19 = .ok (.iload_n 1, 1) := by decide +kernel
theorem d_TM_end_20 : decode prog_12_method_14_code 20 = .ok (.ireturn, 1) := by decide +kernel
theorem d_TM_text_0 : decode prog_12_method_49_code 0 = .ok (.aload_n 0, 1) := by decide +kernel
theorem d_TM_text_1 : decode prog_12_method_49_code 1 = .ok (.getfield 7, 3) := by decide +kernel
theorem d_TM_text_4 : decode prog_12_method_49_code 4 = .ok (.iconst 1, 1) := by decide +kernel
theorem d_TM_text_5 : decode prog_12_method_49_code 5 = .ok (.iaload, 1) := by decide +kernel
theorem d_TM_text_6 : decode prog_12_method_49_code 6 = .ok (.iconst 4, 1) := by decide +kernel
theorem d_TM_text_7 : decode prog_12_method_49_code 7 = .ok (.if_icmp .ne 5, 3) := by decide +kernel
theorem d_TM_text_10 : decode prog_12_method_49_code 10 = .ok (.iconst (-1), 1) := by decide +kernel
theorem d_TM_text_11 : decode prog_12_method_49_code 11 = .ok (.ireturn, 1) := by decide +kernel
theorem d_TM_text_12 : decode prog_12_method_49_code 12 = .ok (.aload_n 0, 1) := by decide +kernel
theorem d_TM_text_13 : decode prog_12_method_49_code 13 = .ok (.aload_n 0, 1) := by decide +kernel
theorem d_TM_text_14 : decode prog_12_method_49_code 14 = .ok (.invokevirtual 240, 3) := by decide +kernel
theorem d_TM_text_17 : decode prog_12_method_49_code 17 = .ok (.putfield 22, 3) := by decide +kernel
theorem d_TM_text_20 : decode prog_12_method_49_code 20 = .ok (.aload_n 0, 1) := by decide +kernel
theorem d_TM_text_21 : decode prog_12_method_49_code 21 = .ok (.aload_n 0, 1) := by decide +kernel
theorem d_TM_text_22 : decode prog_12_method_49_code 22 = .ok (.getfield 22, 3) := by decide +kernel
theorem d_TM_text_25 : decode prog_12_method_49_code 25 = .ok (.ifCond .ne 7, 3) := by decide +kernel
theorem d_TM_text_28 : decode prog_12_method_49_code 28 = .ok (.iconst (-1), 1) := by decide +kernel
theorem d_TM_text_29 : decode prog_12_method_49_code 29 = .ok (.goto 7, 3) := by decide +kernel
theorem d_TM_text_32 : decode prog_12_method_49_code 32 = .ok (.aload_n 0, 1) := by decide +kernel
theorem d_TM_text_33 : decode prog_12_method_49_code 33 = .ok (.getfield 91, 3) := by decide +kernel
theorem d_TM_text_36 : decode prog_12_method_49_code 36 = .ok (.putfield 26, 3) := by decide +kernel
theorem d_TM_text_39 : decode prog_12_method_49_code 39 = .ok (.aload_n 0, 1) := by decide +kernel
theorem d_TM_text_40 : decode prog_12_method_49_code 40 = .ok (.iconst 0, 1) := by decide +kernel
theorem d_TM_text_41 : decode prog_12_method_49_code 41 = .ok (.putfield 77, 3) := by decide +kernel
theorem d_TM_text_44 : decode prog_12_method_49_code 44 = .ok (.aload_n 0, 1) := by decide +kernel
theorem d_TM_text_45 : decode prog_12_method_49_code 45 = .ok (.getfield 22, 3) := by decide +kernel
theorem d_TM_text_48 : decode prog_12_method_49_code 48 = .ok (.ifCond .eq 5, 3) := by decide +kernel
theorem d_TM_text_51 : decode prog_12_method_49_code 51 = .ok (.iconst (-1), 1) := by decide +kernel
theorem d_TM_text_52 : decode prog_12_method_49_code 52 = .ok (.ireturn, 1) := by decide +kernel
theorem d_TM_text_53 : decode prog_12_method_49_code 53 = .ok (.aload_n 0, 1) := by decide +kernel
theorem d_TM_text_54 : decode prog_12_method_49_code 54 = .ok (.getfield 7, 3) := by decide +kernel
theorem d_TM_text_57 : decode prog_12_method_49_code 57 = .ok (.iconst 1, 1) := by decide +kernel
theorem d_TM_text_58 : decode prog_12_method_49_code 58 = .ok (.dup2, 1) := by decide +kernel
theorem d_TM_text_59 : decode prog_12_method_49_code 59 = .ok (.iaload, 1) := by decide +kernel
theorem d_TM_text_60 : decode prog_12_method_49_code 60 = .ok (.iconst 1, 1) := by decide +kernel
theorem d_TM_text_61 : decode prog_12_method_49_code 61 = .ok (.iadd, 1) := by decide +kernel
theorem d_TM_text_62 : decode prog_12_method_49_code 62 = .ok (.iastore, 1) := by decide +kernel
theorem d_TM_text_63 : decode prog_12_method_49_code 63 = .ok (.aload_n 0, 1) := by decide +kernel
theorem d_TM_text_64 : decode prog_12_method_49_code 64 = .ok (.getfield 7, 3) := by decide +kernel
theorem d_TM_text_67 : decode prog_12_method_49_code 67 = .ok (.iconst 1, 1) := by decide +kernel
theorem d_TM_text_68 : decode prog_12_method_49_code 68 = .ok (.iaload, 1) := by decide +kernel
theorem d_TM_text_69 : decode prog_12_method_49_code 69 = .ok (.iconst 1, 1) := by decide +kernel
theorem d_TM_text_70 : decode prog_12_method_49_code 70 = .ok (.isub, 1) := by decide +kernel
theorem d_TM_text_71 : decode prog_12_method_49_code 71 = .ok (.ireturn, 1) := by decide +kernel
theorem d_TM_readText_0 : decode prog_12_method_48_code 0 = .ok (.aload_n 0, 1) := by decide +kernel
theorem d_TM_readText_1 : decode prog_12_method_48_code 1 = .ok (.sipush 681, 3) := by decide +kernel
theorem d_TM_readText_4 : decode prog_12_method_48_code 4 = .ok (.aload_n 0, 1) := by decide +kernel
theorem d_TM_readText_5 : decode prog_12_method_48_code 5 = .ok (.getfield 7, 3) := by decide +kernel
theorem d_TM_readText_8 : decode prog_12_method_48_code 8 = .ok (.iconst 1, 1) := by decide +kernel
theorem d_TM_readText_9 : decode prog_12_method_48_code 9 = .ok (.iaload, 1) := by decide +kernel
theorem d_TM_readText_10 : decode prog_12_method_48_code 10 = .ok (.imul, 1) := by decide +kernel
theorem d_TM_readText_11 : decode prog_12_method_48_code 11 = .ok (.putfield 132, 3) := by decide +kernel
theorem d_TM_readText_14 : decode prog_12_method_48_code 14 = .ok (.aload_n 0, 1) := by decide +kernel
theorem d_TM_readText_15 : decode prog_12_method_48_code 15 = .ok (.getfield 16, 3) := by decide +kernel
theorem d_TM_readText_18 : decode prog_12_method_48_code 18 = .ok (.aload_n 0, 1) := by decide +kernel
theorem d_TM_readText_19 : decode prog_12_method_48_code 19 = .ok (.getfield 132, 3) := by decide +kernel
theorem d_TM_readText_22 : decode prog_12_method_48_code 22 = .ok (.iconst 0, 1) := by decide +kernel
theorem d_TM_readText_23 : decode prog_12_method_48_code 23 = .ok (.iastore, 1) := by decide +kernel
theorem d_TM_readText_24 : decode prog_12_method_48_code 24 = .ok (.aload_n 0, 1) := by decide +kernel
theorem d_TM_readText_25 : decode prog_12_method_48_code 25 = .ok (.iconst 0, 1) := by decide +kernel
theorem d_TM_readText_26 : decode prog_12_method_48_code 26 = .ok (.putfield 135, 3) := by decide +kernel
theorem d_TM_readText_29 : decode prog_12_method_48_code 29 = .ok (.aload_n 0, 1) := by decide +kernel
theorem d_TM_readText_30 : decode prog_12_method_48_code 30 = .ok (.iconst 0, 1) := by decide +kernel
theorem d_TM_readText_31 : decode prog_12_method_48_code 31 = .ok (.putfield 226, 3) := by decide +kernel
theorem d_TM_readText_34 : decode prog_12_method_48_code 34 = .ok (.aload_n 0, 1) := by decide +kernel
theorem d_TM_readText_35 : decode prog_12_method_48_code 35 = .ok (.iconst 0, 1) := by decide +kernel
theorem d_TM_readText_36 : decode prog_12_method_48_code 36 = .ok (.putfield 84, 3) := by decide +kernel
theorem d_TM_readText_39 : decode prog_12_method_48_code 39 = .ok (.aload_n 0, 1) := by decide +kernel
theorem d_TM_readText_40 : decode prog_12_method_48_code 40 = .ok (.invokevirtual 165, 3) := by decide +kernel
theorem d_TM_readText_43 : decode prog_12_method_48_code 43 = .ok (.aload_n 0, 1) := by decide +kernel
theorem d_TM_readText_44 : decode prog_12_method_48_code 44 = .ok (.getfield 94, 3) := by decide +kernel
theorem d_TM_readText_47 : decode prog_12_method_48_code 47 = .ok (.ifCond .eq 17, 3) := by decide +kernel
theorem d_TM_readText_50 : decode prog_12_method_48_code 50 = .ok (.aload_n 0, 1) := by decide +kernel
theorem d_TM_readText_51 : decode prog_12_method_48_code 51 = .ok (.invokevirtual 237, 3) := by decide +kernel
theorem d_TM_readText_54 : decode prog_12_method_48_code 54 = .ok (.istore_n 1, 1) := by decide +kernel
theorem d_TM_readText_55 : decode prog_12_method_48_code 55 = .ok (.iload_n 1, 1) := by decide +kernel
theorem d_TM_readText_56 : decode prog_12_method_48_code 56 = .ok (.ifCond .eq 5, 3) := by decide +kernel
theorem d_TM_readText_59 : decode prog_12_method_48_code 59 = .ok (.iload_n 1, 1) := by decide +kernel
theorem d_TM_readText_60 : decode prog_12_method_48_code 60 = .ok (.ireturn, 1) := by decide +kernel
theorem d_TM_readText_61 : decode prog_12_method_48_code 61 = .ok (.goto (-18), 3) := by decide +kernel
theorem d_TM_readText_64 : decode prog_12_method_48_code 64 = .ok (.iconst 0, 1) := by decide +kernel
theorem d_TM_readText_65 : decode prog_12_method_48_code 65 = .ok (.ireturn, 1) := by decide +kernel
theorem d_TM_nextToken_0 : decode prog_12_method_19_code 0 = .ok (.aload_n 0, 1) := by decide +kernel
theorem d_TM_nextToken_1 : decode prog_12_method_19_code 1 = .ok (.aload_n 0, 1) := by decide +kernel
theorem d_TM_nextToken_2 : decode prog_12_method_19_code 2 = .ok (.getfield 84, 3) := by decide +kernel
theorem d_TM_nextToken_5 : decode prog_12_method_19_code 5 = .ok (.invokevirtual 87, 3) := by decide +kernel
theorem d_TM_nextToken_8 : decode prog_12_method_19_code 8 = .ok (.bipush 32, 2) := by decide +kernel
theorem d_TM_nextToken_10 : decode prog_12_method_19_code 10 = .ok (.if_icmp .eq 16, 3) := by decide +kernel
theorem d_TM_nextToken_13 : decode prog_12_method_19_code 13 = .ok (.aload_n 0, 1) := by decide +kernel
theorem d_TM_nextToken_14 : decode prog_12_method_19_code 14 = .ok (.aload_n 0, 1) := by decide +kernel
theorem d_TM_nextToken_15 : decode prog_12_method_19_code 15 = .ok (.getfield 84, 3) := by decide +kernel
theorem d_TM_nextToken_18 : decode prog_12_method_19_code 18 = .ok (.invokevirtual 87, 3) := by decide +kernel
theorem d_TM_nextToken_21 : decode prog_12_method_19_code 21 = .ok (.bipush 10, 2) := by decide +kernel
theorem d_TM_nextToken_23 : decode prog_12_method_19_code 23 = .ok (.if_icmp .ne 16, 3) := by decide +kernel
theorem d_TM_nextToken_26 : decode prog_12_method_19_code 26 = .ok (.aload_n 0, 1) := by decide +kernel
theorem d_TM_nextToken_27 : decode prog_12_method_19_code 27 = .ok (.dup, 1) := by decide +kernel
theorem d_TM_nextToken_28 : decode prog_12_method_19_code 28 = .ok (.getfield 84, 3) := by decide +kernel
theorem d_TM_nextToken_31 : decode prog_12_method_19_code 31 = .ok (.iconst 1, 1) := by decide +kernel
theorem d_TM_nextToken_32 : decode prog_12_method_19_code 32 = .ok (.iadd, 1) := by decide +kernel
theorem d_TM_nextToken_33 : decode prog_12_method_19_code 33 = .ok (.putfield 84, 3) := by decide +kernel
theorem d_TM_nextToken_36 : decode prog_12_method_19_code 36 = .ok (.goto (-36), 3) := by decide +kernel
theorem d_TM_nextToken_39 : decode prog_12_method_19_code 39 = .ok (.aload_n 0, 1) := by decide +kernel
theorem d_TM_nextToken_40 : decode prog_12_method_19_code 40 = .ok (.aload_n 0, 1) := by decide +kernel
theorem d_TM_nextToken_41 : decode prog_12_method_19_code 41 = .ok (.getfield 84, 3) := by decide +kernel
theorem d_TM_nextToken_44 : decode prog_12_method_19_code 44 = .ok (.putfield 91, 3) := by decide +kernel
theorem d_TM_nextToken_47 : decode prog_12_method_19_code 47 = .ok (.aload_n 0, 1) := by decide +kernel
theorem d_TM_nextToken_48 : decode prog_12_method_19_code 48 = .ok (.aload_n 0, 1) := by decide +kernel
theorem d_TM_nextToken_49 : decode prog_12_method_19_code 49 = .ok (.getfield 84, 3) := by decide +kernel
theorem d_TM_nextToken_52 : decode prog_12_method_19_code 52 = .ok (.invokevirtual 87, 3) := by decide +kernel
theorem d_TM_nextToken_55 : decode prog_12_method_19_code 55 = .ok (.istore_n 1, 1) := by decide +kernel
theorem d_TM_nextToken_56 : decode prog_12_method_19_code 56 = .ok (.iload_n 1, 1) := by decide +kernel
theorem d_TM_nextToken_57 : decode prog_12_method_19_code 57 = .ok (.ifCond .ge 11, 3) := by decide +kernel
theorem d_TM_nextToken_60 : decode prog_12_method_19_code 60 = .ok (.aload_n 0, 1) := by decide +kernel
theorem d_TM_nextToken_61 : decode prog_12_method_19_code 61 = .ok (.iconst 0, 1) := by decide +kernel
theorem d_TM_nextToken_62 : decode prog_12_method_19_code 62 = .ok (.putfield 94, 3) := by decide +kernel
theorem d_TM_nextToken_65 : decode prog_12_method_19_code 65 = .ok (.goto 245, 3) := by decide +kernel
theorem d_TM_nextToken_68 : decode prog_12_method_19_code 68 = .ok (.iload_n 1, 1) := by decide +kernel
theorem d_TM_nextToken_69 : decode prog_12_method_19_code 69 = .ok (.invokestatic 97, 3) := by decide +kernel
theorem d_TM_nextToken_72 : decode prog_12_method_19_code 72 = .ok (.ifCond .eq 79, 3) := by decide +kernel
theorem d_TM_nextToken_75 : decode prog_12_method_19_code 75 = .ok (.aload_n 0, 1) := by decide +kernel
theorem d_TM_nextToken_76 : decode prog_12_method_19_code 76 = .ok (.iconst 1, 1) := by decide +kernel
theorem d_TM_nextToken_77 : decode prog_12_method_19_code 77 = .ok (.putfield 94, 3) := by decide +kernel
theorem d_TM_nextToken_80 : decode prog_12_method_19_code 80 = .ok (.aload_n 0, 1) := by decide +kernel
theorem d_TM_nextToken_81 : decode prog_12_method_19_code 81 = .ok (.iconst 0, 1) := by decide +kernel
theorem d_TM_nextToken_82 : decode prog_12_method_19_code 82 = .ok (.putfield 100, 3) := by decide +kernel
theorem d_TM_nextToken_85 : decode prog_12_method_19_code 85 = .ok (.aload_n 0, 1) := by decide +kernel
theorem d_TM_nextToken_86 : decode prog_12_method_19_code 86 = .ok (.aload_n 0, 1) := by decide +kernel
theorem d_TM_nextToken_87 : decode prog_12_method_19_code 87 = .ok (.getfield 84, 3) := by decide +kernel
theorem d_TM_nextToken_90 : decode prog_12_method_19_code 90 = .ok (.invokevirtual 87, 3) := by decide +kernel
theorem d_TM_nextToken_93 : decode prog_12_method_19_code 93 = .ok (.invokestatic 97, 3) := by decide +kernel
theorem d_TM_nextToken_96 : decode prog_12_method_19_code 96 = .ok (.ifCond .eq 214, 3) := by decide +kernel
theorem d_TM_nextToken_99 : decode prog_12_method_19_code 99 = .ok (.aload_n 0, 1) := by decide +kernel
theorem d_TM_nextToken_100 : decode prog_12_method_19_code 100 = .ok (.aload_n 0, 1) := by decide +kernel
theorem d_TM_nextToken_101 : decode prog_12_method_19_code 101 = .ok (.getfield 100, 3) := by decide +kernel
theorem d_TM_nextToken_104 : decode prog_12_method_19_code 104 = .ok (.ldc 103, 2) := by decide +kernel
theorem d_TM_nextToken_106 : decode prog_12_method_19_code 106 = .ok (.if_icmp .le 10, 3) := by decide +kernel
theorem d_TM_nextToken_109 : decode prog_12_method_19_code 109 = .ok (.aload_n 0, 1) := by decide +kernel
theorem d_TM_nextToken_110 : decode prog_12_method_19_code 110 = .ok (.getfield 100, 3) := by decide +kernel
theorem d_TM_nextToken_113 : decode prog_12_method_19_code 113 = .ok (.goto 22, 3) := by decide +kernel
theorem d_TM_nextToken_116 : decode prog_12_method_19_code 116 = .ok (.bipush 10, 2) := by decide +kernel
theorem d_TM_nextToken_118 : decode prog_12_method_19_code 118 = .ok (.aload_n 0, 1) := by decide +kernel
theorem d_TM_nextToken_119 : decode prog_12_method_19_code 119 = .ok (.getfield 100, 3) := by decide +kernel
theorem d_TM_nextToken_122 : decode prog_12_method_19_code 122 = .ok (.imul, 1) := by decide +kernel
theorem d_TM_nextToken_123 : decode prog_12_method_19_code 123 = .ok (.aload_n 0, 1) := by decide +kernel
theorem d_TM_nextToken_124 : decode prog_12_method_19_code 124 = .ok (.aload_n 0, 1) := by decide +kernel
theorem d_TM_nextToken_125 : decode prog_12_method_19_code 125 = .ok (.getfield 84, 3) := by decide +kernel
theorem d_TM_nextToken_128 : decode prog_12_method_19_code 128 = .ok (.invokevirtual 87, 3) := by decide +kernel
theorem d_TM_nextToken_131 : decode prog_12_method_19_code 131 = .ok (.iadd, 1) := by decide +kernel
theorem d_TM_nextToken_132 : decode prog_12_method_19_code 132 = .ok (.bipush 48, 2) := by decide +kernel
theorem d_TM_nextToken_134 : decode prog_12_method_19_code 134 = .ok (.isub, 1) := by decide +kernel
theorem d_TM_nextToken_135 : decode prog_12_method_19_code 135 = .ok (.putfield 100, 3) := by decide +kernel
theorem d_TM_nextToken_138 : decode prog_12_method_19_code 138 = .ok (.aload_n 0, 1) := by decide +kernel
theorem d_TM_nextToken_139 : decode prog_12_method_19_code 139 = .ok (.dup, 1) := by decide +kernel
theorem d_TM_nextToken_140 : decode prog_12_method_19_code 140 = .ok (.getfield 84, 3) := by decide +kernel
theorem d_TM_nextToken_143 : decode prog_12_method_19_code 143 = .ok (.iconst 1, 1) := by decide +kernel
theorem d_TM_nextToken_144 : decode prog_12_method_19_code 144 = .ok (.iadd, 1) := by decide +kernel
theorem d_TM_nextToken_145 : decode prog_12_method_19_code 145 = .ok (.putfield 84, 3) := by decide +kernel
theorem d_TM_nextToken_148 : decode prog_12_method_19_code 148 = .ok (.goto (-63), 3) := by decide +kernel
theorem d_TM_nextToken_151 : decode prog_12_method_19_code 151 = .ok (.iload_n 1, 1) := by decide +kernel
theorem d_TM_nextToken_152 : decode prog_12_method_19_code 152 = .ok (.invokestatic 104, 3) := by decide +kernel
theorem d_TM_nextToken_155 : decode prog_12_method_19_code 155 = .ok (.ifCond .eq 79, 3) := by decide +kernel
theorem d_TM_nextToken_158 : decode prog_12_method_19_code 158 = .ok (.aload_n 0, 1) := by decide +kernel
theorem d_TM_nextToken_159 : decode prog_12_method_19_code 159 = .ok (.iconst 2, 1) := by decide +kernel
theorem d_TM_nextToken_160 : decode prog_12_method_19_code 160 = .ok (.putfield 94, 3) := by decide +kernel
theorem d_TM_nextToken_163 : decode prog_12_method_19_code 163 = .ok (.aload_n 0, 1) := by decide +kernel
theorem d_TM_nextToken_164 : decode prog_12_method_19_code 164 = .ok (.lconst 0, 1) := by decide +kernel
theorem d_TM_nextToken_165 : decode prog_12_method_19_code 165 = .ok (.putfield 107, 3) := by decide +kernel
theorem d_TM_nextToken_168 : decode prog_12_method_19_code 168 = .ok (.aload_n 0, 1) := by decide +kernel
theorem d_TM_nextToken_169 : decode prog_12_method_19_code 169 = .ok (.aload_n 0, 1) := by decide +kernel
theorem d_TM_nextToken_170 : decode prog_12_method_19_code 170 = .ok (.getfield 84, 3) := by decide +kernel
theorem d_TM_nextToken_173 : decode prog_12_method_19_code 173 = .ok (.invokevirtual 87, 3) := by decide +kernel
theorem d_TM_nextToken_176 : decode prog_12_method_19_code 176 = .ok (.invokestatic 104, 3) := by decide +kernel
theorem d_TM_nextToken_179 : decode prog_12_method_19_code 179 = .ok (.ifCond .eq 131, 3) := by decide +kernel
theorem d_TM_nextToken_182 : decode prog_12_method_19_code 182 = .ok (.aload_n 0, 1) := by decide +kernel
theorem d_TM_nextToken_183 : decode prog_12_method_19_code 183 = .ok (.aload_n 0, 1) := by decide +kernel
theorem d_TM_nextToken_184 : decode prog_12_method_19_code 184 = .ok (.getfield 107, 3) := by decide +kernel
theorem d_TM_nextToken_187 : decode prog_12_method_19_code 187 = .ok (.bipush 48, 2) := by decide +kernel
theorem d_TM_nextToken_189 : decode prog_12_method_19_code 189 = .ok (.lshr, 1) := by decide +kernel
theorem d_TM_nextToken_190 : decode prog_12_method_19_code 190 = .ok (.lconst 0, 1) := by decide +kernel
theorem d_TM_nextToken_191 : decode prog_12_method_19_code 191 = .ok (.lcmp, 1) := by decide +kernel
theorem d_TM_nextToken_192 : decode prog_12_method_19_code 192 = .ok (.ifCond .eq 9, 3) := by decide +kernel
theorem d_TM_nextToken_195 : decode prog_12_method_19_code 195 = .ok (.ldc2_w 111, 3) := by decide +kernel
theorem d_TM_nextToken_198 : decode prog_12_method_19_code 198 = .ok (.goto 20, 3) := by decide +kernel
theorem d_TM_nextToken_201 : decode prog_12_method_19_code 201 = .ok (.aload_n 0, 1) := by decide +kernel
theorem d_TM_nextToken_202 : decode prog_12_method_19_code 202 = .ok (.getfield 107, 3) := by decide +kernel
theorem d_TM_nextToken_205 : decode prog_12_method_19_code 205 = .ok (.bipush 8, 2) := by decide +kernel
theorem d_TM_nextToken_207 : decode prog_12_method_19_code 207 = .ok (.lshl, 1) := by decide +kernel
theorem d_TM_nextToken_208 : decode prog_12_method_19_code 208 = .ok (.aload_n 0, 1) := by decide +kernel
theorem d_TM_nextToken_209 : decode prog_12_method_19_code 209 = .ok (.aload_n 0, 1) := by decide +kernel
theorem d_TM_nextToken_210 : decode prog_12_method_19_code 210 = .ok (.getfield 84, 3) := by decide +kernel
theorem d_TM_nextToken_213 : decode prog_12_method_19_code 213 = .ok (.invokevirtual 87, 3) := by decide +kernel
theorem d_TM_nextToken_216 : decode prog_12_method_19_code 216 = .ok (.i2l, 1) := by decide +kernel
theorem d_TM_nextToken_217 : decode prog_12_method_19_code 217 = .ok (.lor, 1) := by decide +kernel
theorem d_TM_nextToken_218 : decode prog_12_method_19_code 218 = .ok (.putfield 107, 3) := by decide +kernel
theorem d_TM_nextToken_221 : decode prog_12_method_19_code 221 = .ok (.aload_n 0, 1) := by decide +kernel
theorem d_TM_nextToken_222 : decode prog_12_method_19_code 222 = .ok (.dup, 1) := by decide +kernel
theorem d_TM_nextToken_223 : decode prog_12_method_19_code 223 = .ok (.getfield 84, 3) := by decide +kernel
theorem d_TM_nextToken_226 : decode prog_12_method_19_code 226 = .ok (.iconst 1, 1) := by decide +kernel
theorem d_TM_nextToken_227 : decode prog_12_method_19_code 227 = .ok (.iadd, 1) := by decide +kernel
theorem d_TM_nextToken_228 : decode prog_12_method_19_code 228 = .ok (.putfield 84, 3) := by decide +kernel
theorem d_TM_nextToken_231 : decode prog_12_method_19_code 231 = .ok (.goto (-63), 3) := by decide +kernel
theorem d_TM_nextToken_234 : decode prog_12_method_19_code 234 = .ok (.aload_n 0, 1) := by decide +kernel
theorem d_TM_nextToken_235 : decode prog_12_method_19_code 235 = .ok (.iload_n 1, 1) := by decide +kernel
theorem d_TM_nextToken_236 : decode prog_12_method_19_code 236 = .ok (.invokestatic 113, 3) := by decide +kernel
theorem d_TM_nextToken_239 : decode prog_12_method_19_code 239 = .ok (.ifCond .eq 7, 3) := by decide +kernel
theorem d_TM_nextToken_242 : decode prog_12_method_19_code 242 = .ok (.iload_n 1, 1) := by decide +kernel
theorem d_TM_nextToken_243 : decode prog_12_method_19_code 243 = .ok (.goto 4, 3) := by decide +kernel
theorem d_TM_nextToken_246 : decode prog_12_method_19_code 246 = .ok (.iconst 3, 1) := by decide +kernel
theorem d_TM_nextToken_247 : decode prog_12_method_19_code 247 = .ok (.putfield 94, 3) := by decide +kernel
theorem d_TM_nextToken_250 : decode prog_12_method_19_code 250 = .ok (.aload_n 0, 1) := by decide +kernel
theorem d_TM_nextToken_251 : decode prog_12_method_19_code 251 = .ok (.dup, 1) := by decide +kernel
theorem d_TM_nextToken_252 : decode prog_12_method_19_code 252 = .ok (.getfield 84, 3) := by decide +kernel
theorem d_TM_nextToken_255 : decode prog_12_method_19_code 255 = .ok (.iconst 1, 1) := by decide +kernel
theorem d_TM_nextToken_256 : decode prog_12_method_19_code 256 = .ok (.iadd, 1) := by decide +kernel
theorem d_TM_nextToken_257 : decode prog_12_method_19_code 257 = .ok (.putfield 84, 3) := by decide +kernel
theorem d_TM_nextToken_260 : decode prog_12_method_19_code 260 = .ok (.iload_n 1, 1) := by decide +kernel
theorem d_TM_nextToken_261 : decode prog_12_method_19_code 261 = .ok (.bipush 60, 2) := by decide +kernel
theorem d_TM_nextToken_263 : decode prog_12_method_19_code 263 = .ok (.if_icmp .eq 9, 3) := by decide +kernel
theorem d_TM_nextToken_266 : decode prog_12_method_19_code 266 = .ok (.iload_n 1, 1) := by decide +kernel
theorem d_TM_nextToken_267 : decode prog_12_method_19_code 267 = .ok (.bipush 62, 2) := by decide +kernel
theorem d_TM_nextToken_269 : decode prog_12_method_19_code 269 = .ok (.if_icmp .ne 41, 3) := by decide +kernel
theorem d_TM_nextToken_272 : decode prog_12_method_19_code 272 = .ok (.aload_n 0, 1) := by decide +kernel
theorem d_TM_nextToken_273 : decode prog_12_method_19_code 273 = .ok (.aload_n 0, 1) := by decide +kernel
theorem d_TM_nextToken_274 : decode prog_12_method_19_code 274 = .ok (.getfield 84, 3) := by decide +kernel
theorem d_TM_nextToken_277 : decode prog_12_method_19_code 277 = .ok (.invokevirtual 87, 3) := by decide +kernel
theorem d_TM_nextToken_280 : decode prog_12_method_19_code 280 = .ok (.bipush 61, 2) := by decide +kernel
theorem d_TM_nextToken_282 : decode prog_12_method_19_code 282 = .ok (.if_icmp .ne 28, 3) := by decide +kernel
theorem d_TM_nextToken_285 : decode prog_12_method_19_code 285 = .ok (.aload_n 0, 1) := by decide +kernel
theorem d_TM_nextToken_286 : decode prog_12_method_19_code 286 = .ok (.iload_n 1, 1) := by decide +kernel
theorem d_TM_nextToken_287 : decode prog_12_method_19_code 287 = .ok (.bipush 60, 2) := by decide +kernel
theorem d_TM_nextToken_289 : decode prog_12_method_19_code 289 = .ok (.if_icmp .ne 7, 3) := by decide +kernel
theorem d_TM_nextToken_292 : decode prog_12_method_19_code 292 = .ok (.iconst 4, 1) := by decide +kernel
theorem d_TM_nextToken_293 : decode prog_12_method_19_code 293 = .ok (.goto 4, 3) := by decide +kernel
theorem d_TM_nextToken_296 : decode prog_12_method_19_code 296 = .ok (.iconst 5, 1) := by decide +kernel
theorem d_TM_nextToken_297 : decode prog_12_method_19_code 297 = .ok (.putfield 94, 3) := by decide +kernel
theorem d_TM_nextToken_300 : decode prog_12_method_19_code 300 = .ok (.aload_n 0, 1) := by decide +kernel
theorem d_TM_nextToken_301 : decode prog_12_method_19_code 301 = .ok (.dup, 1) := by decide +kernel
theorem d_TM_nextToken_302 : decode prog_12_method_19_code 302 = .ok (.getfield 84, 3) := by decide +kernel
theorem d_TM_nextToken_305 : decode prog_12_method_19_code 305 = .ok (.iconst 1, 1) := by decide +kernel
theorem d_TM_nextToken_306 : decode prog_12_method_19_code 306 = .ok (.iadd, 1) := by decide +kernel
theorem d_TM_nextToken_307 : decode prog_12_method_19_code 307 = .ok (.putfield 84, 3) := by decide +kernel
theorem d_TM_nextToken_310 : decode prog_12_method_19_code 310 = .ok (.return_, 1) := by decide +kernel
theorem d_TM_byteAt_0 : decode prog_12_method_15_code 0 = .ok (.iload_n 1, 1) := by decide +kernel
theorem d_TM_byteAt_1 : decode prog_12_method_15_code 1 = .ok (.aload_n 0, 1) := by decide +kernel
theorem d_TM_byteAt_2 : decode prog_12_method_15_code 2 = .ok (.getfield 77, 3) := by decide +kernel
theorem d_TM_byteAt_5 : decode prog_12_method_15_code 5 = .ok (.if_icmp .ge 12, 3) := by decide +kernel
theorem d_TM_byteAt_8 : decode prog_12_method_15_code 8 = .ok (.aload_n 0, 1) := by decide +kernel
theorem d_TM_byteAt_9 : decode prog_12_method_15_code 9 = .ok (.getfield 19, 3) := by decide +kernel
theorem d_TM_byteAt_12 : decode prog_12_method_15_code 12 = .ok (.iload_n 1, 1) := by decide +kernel
theorem d_TM_byteAt_13 : decode prog_12_method_15_code 13 = .ok (.iaload, 1) := by decide +kernel
theorem d_TM_byteAt_14 : decode prog_12_method_15_code 14 = .ok (.goto 4, 3) := by decide +kernel
theorem d_TM_byteAt_17 : decode prog_12_method_15_code 17 = .ok (.iconst (-1), 1) := by decide +kernel
theorem d_TM_byteAt_18 : decode prog_12_method_15_code 18 = .ok (.ireturn, 1) := by decide +kernel
theorem d_TM_isFigure_0 : decode prog_12_method_17_code 0 = .ok (.iload_n 0, 1) := by decide +kernel
theorem d_TM_isFigure_1 : decode prog_12_method_17_code 1 = .ok (.bipush 48, 2) := by decide +kernel
theorem d_TM_isFigure_3 : decode prog_12_method_17_code 3 = .ok (.if_icmp .lt 13, 3) := by decide +kernel
theorem d_TM_isFigure_6 : decode prog_12_method_17_code 6 = .ok (.iload_n 0, 1) := by decide +kernel
theorem d_TM_isFigure_7 : decode prog_12_method_17_code 7 = .ok (.bipush 57, 2) := by decide +kernel
theorem d_TM_isFigure_9 : decode prog_12_method_17_code 9 = .ok (.if_icmp .gt 7, 3) := by decide +kernel
theorem d_TM_isFigure_12 : decode prog_12_method_17_code 12 = .ok (.iconst 1, 1) := by decide +kernel
theorem d_TM_isFigure_13 : decode prog_12_method_17_code 13 = .ok (.goto 4, 3) := by decide +kernel
theorem d_TM_isFigure_16 : decode prog_12_method_17_code 16 = .ok (.iconst 0, 1) := by decide +kernel
theorem d_TM_isFigure_17 : decode prog_12_method_17_code 17 = .ok (.ireturn, 1) := by decide +kernel
theorem d_TM_isLetterByte_0 : decode prog_12_method_16_code 0 = .ok (.iload_n 0, 1) := by decide +kernel
theorem d_TM_isLetterByte_1 : decode prog_12_method_16_code 1 = .ok (.bipush 97, 2) := by decide +kernel
theorem d_TM_isLetterByte_3 : decode prog_12_method_16_code 3 = .ok (.if_icmp .lt 9, 3) := by decide +kernel
theorem d_TM_isLetterByte_6 : decode prog_12_method_16_code 6 = .ok (.iload_n 0, 1) := by decide +kernel
theorem d_TM_isLetterByte_7 : decode prog_12_method_16_code 7 = .ok (.bipush 122, 2) := by decide +kernel
theorem d_TM_isLetterByte_9 : decode prog_12_method_16_code 9 = .ok (.if_icmp .le 15, 3) := by decide +kernel
theorem d_TM_isLetterByte_12 : decode prog_12_method_16_code 12 = .ok (.iload_n 0, 1) := by decide +kernel
theorem d_TM_isLetterByte_13 : decode prog_12_method_16_code 13 = .ok (.bipush 65, 2) := by decide +kernel
theorem d_TM_isLetterByte_15 : decode prog_12_method_16_code 15 = .ok (.if_icmp .lt 13, 3) := by decide +kernel
theorem d_TM_isLetterByte_18 : decode prog_12_method_16_code 18 = .ok (.iload_n 0, 1) := by decide +kernel
theorem d_TM_isLetterByte_19 : decode prog_12_method_16_code 19 = .ok (.bipush 90, 2) := by decide +kernel
theorem d_TM_isLetterByte_21 : decode prog_12_method_16_code 21 = .ok (.if_icmp .gt 7, 3) := by decide +kernel
theorem d_TM_isLetterByte_24 : decode prog_12_method_16_code 24 = .ok (.iconst 1, 1) := by decide +kernel
theorem d_TM_isLetterByte_25 : decode prog_12_method_16_code 25 = .ok (.goto 4, 3) := by decide +kernel
theorem d_TM_isLetterByte_28 : decode prog_12_method_16_code 28 = .ok (.iconst 0, 1) := by decide +kernel
theorem d_TM_isLetterByte_29 : decode prog_12_method_16_code 29 = .ok (.ireturn, 1) := by decide +kernel
theorem d_TM_isSign_0 : decode prog_12_method_18_code 0 = .ok (.iload_n 0, 1) := by decide +kernel
theorem d_TM_isSign_1 : decode prog_12_method_18_code 1 = .ok (.tableswitch 129 35 62 #[127, 129, 129, 129, 129, 127, 127, 127, 127, 129, 127, 129, 127, 129, 129, 129, 129, 129, 129, 129, 129, 129, 129, 127, 127, 127, 127, 127], 127) := by decide +kernel
theorem d_TM_isSign_128 : decode prog_12_method_18_code 128 = .ok (.iconst 1, 1) := by decide +kernel
theorem d_TM_isSign_129 : decode prog_12_method_18_code 129 = .ok (.ireturn, 1) := by decide +kernel
theorem d_TM_isSign_130 : decode prog_12_method_18_code 130 = .ok (.iconst 0, 1) := by decide +kernel
theorem d_TM_isSign_131 : decode prog_12_method_18_code 131 = .ok (.ireturn, 1) := by decide +kernel
theorem d_TM_clause_0 : decode prog_12_method_47_code 0 = .ok (.aload_n 0, 1) := by decide +kernel
theorem d_TM_clause_1 : decode prog_12_method_47_code 1 = .ok (.invokevirtual 223, 3) := by decide +kernel
theorem d_TM_clause_4 : decode prog_12_method_47_code 4 = .ok (.istore_n 1, 1) := by decide +kernel
theorem d_TM_clause_5 : decode prog_12_method_47_code 5 = .ok (.iload_n 1, 1) := by decide +kernel
theorem d_TM_clause_6 : decode prog_12_method_47_code 6 = .ok (.ifCond .ge 5, 3) := by decide +kernel
theorem d_TM_clause_9 : decode prog_12_method_47_code 9 = .ok (.iconst 1, 1) := by decide +kernel
theorem d_TM_clause_10 : decode prog_12_method_47_code 10 = .ok (.ireturn, 1) := by decide +kernel
theorem d_TM_clause_11 : decode prog_12_method_47_code 11 = .ok (.iload_n 1, 1) := by decide +kernel
theorem d_TM_clause_12 : decode prog_12_method_47_code 12 = .ok (.iconst 1, 1) := by decide +kernel
theorem d_TM_clause_13 : decode prog_12_method_47_code 13 = .ok (.if_icmp .gt 16, 3) := by decide +kernel
theorem d_TM_clause_16 : decode prog_12_method_47_code 16 = .ok (.aload_n 0, 1) := by decide +kernel
theorem d_TM_clause_17 : decode prog_12_method_47_code 17 = .ok (.getfield 226, 3) := by decide +kernel
theorem d_TM_clause_20 : decode prog_12_method_47_code 20 = .ok (.iload_n 1, 1) := by decide +kernel
theorem d_TM_clause_21 : decode prog_12_method_47_code 21 = .ok (.invokestatic 229, 3) := by decide +kernel
theorem d_TM_clause_24 : decode prog_12_method_47_code 24 = .ok (.ifCond .eq 5, 3) := by decide +kernel
theorem d_TM_clause_27 : decode prog_12_method_47_code 27 = .ok (.iconst 4, 1) := by decide +kernel
theorem d_TM_clause_28 : decode prog_12_method_47_code 28 = .ok (.ireturn, 1) := by decide +kernel
theorem d_TM_clause_29 : decode prog_12_method_47_code 29 = .ok (.aload_n 0, 1) := by decide +kernel
theorem d_TM_clause_30 : decode prog_12_method_47_code 30 = .ok (.getfield 16, 3) := by decide +kernel
theorem d_TM_clause_33 : decode prog_12_method_47_code 33 = .ok (.aload_n 0, 1) := by decide +kernel
theorem d_TM_clause_34 : decode prog_12_method_47_code 34 = .ok (.getfield 132, 3) := by decide +kernel
theorem d_TM_clause_37 : decode prog_12_method_47_code 37 = .ok (.iaload, 1) := by decide +kernel
theorem d_TM_clause_38 : decode prog_12_method_47_code 38 = .ok (.istore_n 2, 1) := by decide +kernel
theorem d_TM_clause_39 : decode prog_12_method_47_code 39 = .ok (.iload_n 2, 1) := by decide +kernel
theorem d_TM_clause_40 : decode prog_12_method_47_code 40 = .ok (.bipush 24, 2) := by decide +kernel
theorem d_TM_clause_42 : decode prog_12_method_47_code 42 = .ok (.if_icmp .ne 6, 3) := by decide +kernel
theorem d_TM_clause_45 : decode prog_12_method_47_code 45 = .ok (.bipush 6, 2) := by decide +kernel
theorem d_TM_clause_47 : decode prog_12_method_47_code 47 = .ok (.ireturn, 1) := by decide +kernel
theorem d_TM_clause_48 : decode prog_12_method_47_code 48 = .ok (.iload_n 1, 1) := by decide +kernel
theorem d_TM_clause_49 : decode prog_12_method_47_code 49 = .ok (.iconst 1, 1) := by decide +kernel
theorem d_TM_clause_50 : decode prog_12_method_47_code 50 = .ok (.if_icmp .gt 15, 3) := by decide +kernel
theorem d_TM_clause_53 : decode prog_12_method_47_code 53 = .ok (.aload_n 0, 1) := by decide +kernel
theorem d_TM_clause_54 : decode prog_12_method_47_code 54 = .ok (.dup, 1) := by decide +kernel
theorem d_TM_clause_55 : decode prog_12_method_47_code 55 = .ok (.getfield 226, 3) := by decide +kernel
theorem d_TM_clause_58 : decode prog_12_method_47_code 58 = .ok (.iconst 1, 1) := by decide +kernel
theorem d_TM_clause_59 : decode prog_12_method_47_code 59 = .ok (.iload_n 1, 1) := by decide +kernel
theorem d_TM_clause_60 : decode prog_12_method_47_code 60 = .ok (.ishl, 1) := by decide +kernel
theorem d_TM_clause_61 : decode prog_12_method_47_code 61 = .ok (.ior, 1) := by decide +kernel
theorem d_TM_clause_62 : decode prog_12_method_47_code 62 = .ok (.putfield 226, 3) := by decide +kernel
theorem d_TM_clause_65 : decode prog_12_method_47_code 65 = .ok (.aload_n 0, 1) := by decide +kernel
theorem d_TM_clause_66 : decode prog_12_method_47_code 66 = .ok (.iload_n 1, 1) := by decide +kernel
theorem d_TM_clause_67 : decode prog_12_method_47_code 67 = .ok (.putfield 142, 3) := by decide +kernel
theorem d_TM_clause_70 : decode prog_12_method_47_code 70 = .ok (.aload_n 0, 1) := by decide +kernel
theorem d_TM_clause_71 : decode prog_12_method_47_code 71 = .ok (.invokevirtual 165, 3) := by decide +kernel
theorem d_TM_clause_74 : decode prog_12_method_47_code 74 = .ok (.aload_n 0, 1) := by decide +kernel
theorem d_TM_clause_75 : decode prog_12_method_47_code 75 = .ok (.getfield 132, 3) := by decide +kernel
theorem d_TM_clause_78 : decode prog_12_method_47_code 78 = .ok (.iconst 1, 1) := by decide +kernel
theorem d_TM_clause_79 : decode prog_12_method_47_code 79 = .ok (.iadd, 1) := by decide +kernel
theorem d_TM_clause_80 : decode prog_12_method_47_code 80 = .ok (.iconst 3, 1) := by decide +kernel
theorem d_TM_clause_81 : decode prog_12_method_47_code 81 = .ok (.iload_n 2, 1) := by decide +kernel
theorem d_TM_clause_82 : decode prog_12_method_47_code 82 = .ok (.imul, 1) := by decide +kernel
theorem d_TM_clause_83 : decode prog_12_method_47_code 83 = .ok (.iadd, 1) := by decide +kernel
theorem d_TM_clause_84 : decode prog_12_method_47_code 84 = .ok (.istore_n 3, 1) := by decide +kernel
theorem d_TM_clause_85 : decode prog_12_method_47_code 85 = .ok (.aload_n 0, 1) := by decide +kernel
theorem d_TM_clause_86 : decode prog_12_method_47_code 86 = .ok (.getfield 16, 3) := by decide +kernel
theorem d_TM_clause_89 : decode prog_12_method_47_code 89 = .ok (.iload_n 3, 1) := by decide +kernel
theorem d_TM_clause_90 : decode prog_12_method_47_code 90 = .ok (.iload_n 1, 1) := by decide +kernel
theorem d_TM_clause_91 : decode prog_12_method_47_code 91 = .ok (.iastore, 1) := by decide +kernel
theorem d_TM_clause_92 : decode prog_12_method_47_code 92 = .ok (.aload_n 0, 1) := by decide +kernel
theorem d_TM_clause_93 : decode prog_12_method_47_code 93 = .ok (.iload_n 1, 1) := by decide +kernel
theorem d_TM_clause_94 : decode prog_12_method_47_code 94 = .ok (.iload_n 3, 1) := by decide +kernel
theorem d_TM_clause_95 : decode prog_12_method_47_code 95 = .ok (.invokevirtual 233, 3) := by decide +kernel
theorem d_TM_clause_98 : decode prog_12_method_47_code 98 = .ok (.istore 4, 2) := by decide +kernel
theorem d_TM_clause_100 : decode prog_12_method_47_code 100 = .ok (.iload 4, 2) := by decide +kernel
theorem d_TM_clause_102 : decode prog_12_method_47_code 102 = .ok (.ifCond .eq 6, 3) := by decide +kernel
theorem d_TM_clause_105 : decode prog_12_method_47_code 105 = .ok (.iload 4, 2) := by decide +kernel
theorem d_TM_clause_107 : decode prog_12_method_47_code 107 = .ok (.ireturn, 1) := by decide +kernel
theorem d_TM_clause_108 : decode prog_12_method_47_code 108 = .ok (.aload_n 0, 1) := by decide +kernel
theorem d_TM_clause_109 : decode prog_12_method_47_code 109 = .ok (.getfield 16, 3) := by decide +kernel
theorem d_TM_clause_112 : decode prog_12_method_47_code 112 = .ok (.aload_n 0, 1) := by decide +kernel
theorem d_TM_clause_113 : decode prog_12_method_47_code 113 = .ok (.getfield 132, 3) := by decide +kernel
theorem d_TM_clause_116 : decode prog_12_method_47_code 116 = .ok (.dup2, 1) := by decide +kernel
theorem d_TM_clause_117 : decode prog_12_method_47_code 117 = .ok (.iaload, 1) := by decide +kernel
theorem d_TM_clause_118 : decode prog_12_method_47_code 118 = .ok (.iconst 1, 1) := by decide +kernel
theorem d_TM_clause_119 : decode prog_12_method_47_code 119 = .ok (.iadd, 1) := by decide +kernel
theorem d_TM_clause_120 : decode prog_12_method_47_code 120 = .ok (.iastore, 1) := by decide +kernel
theorem d_TM_clause_121 : decode prog_12_method_47_code 121 = .ok (.aload_n 0, 1) := by decide +kernel
theorem d_TM_clause_122 : decode prog_12_method_47_code 122 = .ok (.getfield 94, 3) := by decide +kernel
theorem d_TM_clause_125 : decode prog_12_method_47_code 125 = .ok (.bipush 59, 2) := by decide +kernel
theorem d_TM_clause_127 : decode prog_12_method_47_code 127 = .ok (.if_icmp .eq 5, 3) := by decide +kernel
theorem d_TM_clause_130 : decode prog_12_method_47_code 130 = .ok (.iconst 1, 1) := by decide +kernel
theorem d_TM_clause_131 : decode prog_12_method_47_code 131 = .ok (.ireturn, 1) := by decide +kernel
theorem d_TM_clause_132 : decode prog_12_method_47_code 132 = .ok (.aload_n 0, 1) := by decide +kernel
theorem d_TM_clause_133 : decode prog_12_method_47_code 133 = .ok (.invokevirtual 165, 3) := by decide +kernel
theorem d_TM_clause_136 : decode prog_12_method_47_code 136 = .ok (.iconst 0, 1) := by decide +kernel
theorem d_TM_clause_137 : decode prog_12_method_47_code 137 = .ok (.ireturn, 1) := by decide +kernel
theorem d_TM_sortOf_0 : decode prog_12_method_46_code 0 = .ok (.aload_n 0, 1) := by decide +kernel
theorem d_TM_sortOf_1 : decode prog_12_method_46_code 1 = .ok (.bipush 115, 2) := by decide +kernel
theorem d_TM_sortOf_3 : decode prog_12_method_46_code 3 = .ok (.bipush 97, 2) := by decide +kernel
theorem d_TM_sortOf_5 : decode prog_12_method_46_code 5 = .ok (.bipush 121, 2) := by decide +kernel
theorem d_TM_sortOf_7 : decode prog_12_method_46_code 7 = .ok (.bipush 115, 2) := by decide +kernel
theorem d_TM_sortOf_9 : decode prog_12_method_46_code 9 = .ok (.invokestatic 124, 3) := by decide +kernel
theorem d_TM_sortOf_12 : decode prog_12_method_46_code 12 = .ok (.invokevirtual 183, 3) := by decide +kernel
theorem d_TM_sortOf_15 : decode prog_12_method_46_code 15 = .ok (.ifCond .eq 5, 3) := by decide +kernel
theorem d_TM_sortOf_18 : decode prog_12_method_46_code 18 = .ok (.iconst 0, 1) := by decide +kernel
theorem d_TM_sortOf_19 : decode prog_12_method_46_code 19 = .ok (.ireturn, 1) := by decide +kernel
theorem d_TM_sortOf_20 : decode prog_12_method_46_code 20 = .ok (.aload_n 0, 1) := by decide +kernel
theorem d_TM_sortOf_21 : decode prog_12_method_46_code 21 = .ok (.bipush 115, 2) := by decide +kernel
theorem d_TM_sortOf_23 : decode prog_12_method_46_code 23 = .ok (.bipush 119, 2) := by decide +kernel
theorem d_TM_sortOf_25 : decode prog_12_method_46_code 25 = .ok (.bipush 97, 2) := by decide +kernel
theorem d_TM_sortOf_27 : decode prog_12_method_46_code 27 = .ok (.bipush 121, 2) := by decide +kernel
theorem d_TM_sortOf_29 : decode prog_12_method_46_code 29 = .ok (.bipush 115, 2) := by decide +kernel
theorem d_TM_sortOf_31 : decode prog_12_method_46_code 31 = .ok (.invokestatic 128, 3) := by decide +kernel
theorem d_TM_sortOf_34 : decode prog_12_method_46_code 34 = .ok (.invokevirtual 183, 3) := by decide +kernel
theorem d_TM_sortOf_37 : decode prog_12_method_46_code 37 = .ok (.ifCond .eq 5, 3) := by decide +kernel
theorem d_TM_sortOf_40 : decode prog_12_method_46_code 40 = .ok (.iconst 1, 1) := by decide +kernel
theorem d_TM_sortOf_41 : decode prog_12_method_46_code 41 = .ok (.ireturn, 1) := by decide +kernel
theorem d_TM_sortOf_42 : decode prog_12_method_46_code 42 = .ok (.aload_n 0, 1) := by decide +kernel
theorem d_TM_sortOf_43 : decode prog_12_method_46_code 43 = .ok (.bipush 112, 2) := by decide +kernel
theorem d_TM_sortOf_45 : decode prog_12_method_46_code 45 = .ok (.bipush 101, 2) := by decide +kernel
theorem d_TM_sortOf_47 : decode prog_12_method_46_code 47 = .ok (.bipush 114, 2) := by decide +kernel
theorem d_TM_sortOf_49 : decode prog_12_method_46_code 49 = .ok (.bipush 115, 2) := by decide +kernel
theorem d_TM_sortOf_51 : decode prog_12_method_46_code 51 = .ok (.bipush 111, 2) := by decide +kernel
theorem d_TM_sortOf_53 : decode prog_12_method_46_code 53 = .ok (.bipush 110, 2) := by decide +kernel
theorem d_TM_sortOf_55 : decode prog_12_method_46_code 55 = .ok (.invokestatic 138, 3) := by decide +kernel
theorem d_TM_sortOf_58 : decode prog_12_method_46_code 58 = .ok (.invokevirtual 183, 3) := by decide +kernel
theorem d_TM_sortOf_61 : decode prog_12_method_46_code 61 = .ok (.ifCond .eq 5, 3) := by decide +kernel
theorem d_TM_sortOf_64 : decode prog_12_method_46_code 64 = .ok (.iconst 2, 1) := by decide +kernel
theorem d_TM_sortOf_65 : decode prog_12_method_46_code 65 = .ok (.ireturn, 1) := by decide +kernel
theorem d_TM_sortOf_66 : decode prog_12_method_46_code 66 = .ok (.aload_n 0, 1) := by decide +kernel
theorem d_TM_sortOf_67 : decode prog_12_method_46_code 67 = .ok (.bipush 104, 2) := by decide +kernel
theorem d_TM_sortOf_69 : decode prog_12_method_46_code 69 = .ok (.bipush 101, 2) := by decide +kernel
theorem d_TM_sortOf_71 : decode prog_12_method_46_code 71 = .ok (.bipush 97, 2) := by decide +kernel
theorem d_TM_sortOf_73 : decode prog_12_method_46_code 73 = .ok (.bipush 114, 2) := by decide +kernel
theorem d_TM_sortOf_75 : decode prog_12_method_46_code 75 = .ok (.invokestatic 124, 3) := by decide +kernel
theorem d_TM_sortOf_78 : decode prog_12_method_46_code 78 = .ok (.invokevirtual 183, 3) := by decide +kernel
theorem d_TM_sortOf_81 : decode prog_12_method_46_code 81 = .ok (.ifCond .eq 5, 3) := by decide +kernel
theorem d_TM_sortOf_84 : decode prog_12_method_46_code 84 = .ok (.iconst 3, 1) := by decide +kernel
theorem d_TM_sortOf_85 : decode prog_12_method_46_code 85 = .ok (.ireturn, 1) := by decide +kernel
theorem d_TM_sortOf_86 : decode prog_12_method_46_code 86 = .ok (.aload_n 0, 1) := by decide +kernel
theorem d_TM_sortOf_87 : decode prog_12_method_46_code 87 = .ok (.bipush 116, 2) := by decide +kernel
theorem d_TM_sortOf_89 : decode prog_12_method_46_code 89 = .ok (.bipush 101, 2) := by decide +kernel
theorem d_TM_sortOf_91 : decode prog_12_method_46_code 91 = .ok (.bipush 108, 2) := by decide +kernel
theorem d_TM_sortOf_93 : decode prog_12_method_46_code 93 = .ok (.bipush 108, 2) := by decide +kernel
theorem d_TM_sortOf_95 : decode prog_12_method_46_code 95 = .ok (.invokestatic 124, 3) := by decide +kernel
theorem d_TM_sortOf_98 : decode prog_12_method_46_code 98 = .ok (.invokevirtual 183, 3) := by decide +kernel
theorem d_TM_sortOf_101 : decode prog_12_method_46_code 101 = .ok (.ifCond .eq 5, 3) := by decide +kernel
theorem d_TM_sortOf_104 : decode prog_12_method_46_code 104 = .ok (.iconst 4, 1) := by decide +kernel
theorem d_TM_sortOf_105 : decode prog_12_method_46_code 105 = .ok (.ireturn, 1) := by decide +kernel
theorem d_TM_sortOf_106 : decode prog_12_method_46_code 106 = .ok (.aload_n 0, 1) := by decide +kernel
theorem d_TM_sortOf_107 : decode prog_12_method_46_code 107 = .ok (.bipush 117, 2) := by decide +kernel
theorem d_TM_sortOf_109 : decode prog_12_method_46_code 109 = .ok (.bipush 112, 2) := by decide +kernel
theorem d_TM_sortOf_111 : decode prog_12_method_46_code 111 = .ok (.invokestatic 116, 3) := by decide +kernel
theorem d_TM_sortOf_114 : decode prog_12_method_46_code 114 = .ok (.invokevirtual 183, 3) := by decide +kernel
theorem d_TM_sortOf_117 : decode prog_12_method_46_code 117 = .ok (.ifCond .eq 5, 3) := by decide +kernel
theorem d_TM_sortOf_120 : decode prog_12_method_46_code 120 = .ok (.iconst 5, 1) := by decide +kernel
theorem d_TM_sortOf_121 : decode prog_12_method_46_code 121 = .ok (.ireturn, 1) := by decide +kernel
theorem d_TM_sortOf_122 : decode prog_12_method_46_code 122 = .ok (.aload_n 0, 1) := by decide +kernel
theorem d_TM_sortOf_123 : decode prog_12_method_46_code 123 = .ok (.bipush 100, 2) := by decide +kernel
theorem d_TM_sortOf_125 : decode prog_12_method_46_code 125 = .ok (.bipush 111, 2) := by decide +kernel
theorem d_TM_sortOf_127 : decode prog_12_method_46_code 127 = .ok (.bipush 119, 2) := by decide +kernel
theorem d_TM_sortOf_129 : decode prog_12_method_46_code 129 = .ok (.bipush 110, 2) := by decide +kernel
theorem d_TM_sortOf_131 : decode prog_12_method_46_code 131 = .ok (.invokestatic 124, 3) := by decide +kernel
theorem d_TM_sortOf_134 : decode prog_12_method_46_code 134 = .ok (.invokevirtual 183, 3) := by decide +kernel
theorem d_TM_sortOf_137 : decode prog_12_method_46_code 137 = .ok (.ifCond .eq 8, 3) := by decide +kernel
theorem d_TM_sortOf_140 : decode prog_12_method_46_code 140 = .ok (.bipush 6, 2) := by decide +kernel
theorem d_TM_sortOf_142 : decode prog_12_method_46_code 142 = .ok (.goto 25, 3) := by decide +kernel
theorem d_TM_sortOf_145 : decode prog_12_method_46_code 145 = .ok (.aload_n 0, 1) := by decide +kernel
theorem d_TM_sortOf_146 : decode prog_12_method_46_code 146 = .ok (.bipush 100, 2) := by decide +kernel
theorem d_TM_sortOf_148 : decode prog_12_method_46_code 148 = .ok (.bipush 97, 2) := by decide +kernel
theorem d_TM_sortOf_150 : decode prog_12_method_46_code 150 = .ok (.bipush 121, 2) := by decide +kernel
theorem d_TM_sortOf_152 : decode prog_12_method_46_code 152 = .ok (.invokestatic 120, 3) := by decide +kernel
theorem d_TM_sortOf_155 : decode prog_12_method_46_code 155 = .ok (.invokevirtual 183, 3) := by decide +kernel
theorem d_TM_sortOf_158 : decode prog_12_method_46_code 158 = .ok (.ifCond .eq 8, 3) := by decide +kernel
theorem d_TM_sortOf_161 : decode prog_12_method_46_code 161 = .ok (.bipush 7, 2) := by decide +kernel
theorem d_TM_sortOf_163 : decode prog_12_method_46_code 163 = .ok (.goto 4, 3) := by decide +kernel
theorem d_TM_sortOf_166 : decode prog_12_method_46_code 166 = .ok (.iconst (-1), 1) := by decide +kernel
theorem d_TM_sortOf_167 : decode prog_12_method_46_code 167 = .ok (.ireturn, 1) := by decide +kernel
theorem d_TM_w4_0 : decode prog_12_method_22_code 0 = .ok (.iload_n 0, 1) := by decide +kernel
theorem d_TM_w4_1 : decode prog_12_method_22_code 1 = .ok (.iload_n 1, 1) := by decide +kernel
theorem d_TM_w4_2 : decode prog_12_method_22_code 2 = .ok (.iload_n 2, 1) := by decide +kernel
theorem d_TM_w4_3 : decode prog_12_method_22_code 3 = .ok (.invokestatic 120, 3) := by decide +kernel
theorem d_TM_w4_6 : decode prog_12_method_22_code 6 = .ok (.bipush 8, 2) := by decide +kernel
theorem d_TM_w4_8 : decode prog_12_method_22_code 8 = .ok (.lshl, 1) := by decide +kernel
theorem d_TM_w4_9 : decode prog_12_method_22_code 9 = .ok (.iload_n 3, 1) := by decide +kernel
theorem d_TM_w4_10 : decode prog_12_method_22_code 10 = .ok (.i2l, 1) := by decide +kernel
theorem d_TM_w4_11 : decode prog_12_method_22_code 11 = .ok (.lor, 1) := by decide +kernel
theorem d_TM_w4_12 : decode prog_12_method_22_code 12 = .ok (.lreturn, 1) := by decide +kernel
theorem d_TM_w3_0 : decode prog_12_method_21_code 0 = .ok (.iload_n 0, 1) := by decide +kernel
theorem d_TM_w3_1 : decode prog_12_method_21_code 1 = .ok (.iload_n 1, 1) := by decide +kernel
theorem d_TM_w3_2 : decode prog_12_method_21_code 2 = .ok (.invokestatic 116, 3) := by decide +kernel
theorem d_TM_w3_5 : decode prog_12_method_21_code 5 = .ok (.bipush 8, 2) := by decide +kernel
theorem d_TM_w3_7 : decode prog_12_method_21_code 7 = .ok (.lshl, 1) := by decide +kernel
theorem d_TM_w3_8 : decode prog_12_method_21_code 8 = .ok (.iload_n 2, 1) := by decide +kernel
theorem d_TM_w3_9 : decode prog_12_method_21_code 9 = .ok (.i2l, 1) := by decide +kernel
theorem d_TM_w3_10 : decode prog_12_method_21_code 10 = .ok (.lor, 1) := by decide +kernel
theorem d_TM_w3_11 : decode prog_12_method_21_code 11 = .ok (.lreturn, 1) := by decide +kernel
theorem d_TM_w2_0 : decode prog_12_method_20_code 0 = .ok (.iload_n 0, 1) := by decide +kernel
theorem d_TM_w2_1 : decode prog_12_method_20_code 1 = .ok (.i2l, 1) := by decide +kernel
theorem d_TM_w2_2 : decode prog_12_method_20_code 2 = .ok (.bipush 8, 2) := by decide +kernel
theorem d_TM_w2_4 : decode prog_12_method_20_code 4 = .ok (.lshl, 1) := by decide +kernel
theorem d_TM_w2_5 : decode prog_12_method_20_code 5 = .ok (.iload_n 1, 1) := by decide +kernel
theorem d_TM_w2_6 : decode prog_12_method_20_code 6 = .ok (.i2l, 1) := by decide +kernel
theorem d_TM_w2_7 : decode prog_12_method_20_code 7 = .ok (.lor, 1) := by decide +kernel
theorem d_TM_w2_8 : decode prog_12_method_20_code 8 = .ok (.lreturn, 1) := by decide +kernel
theorem d_TM_isWord_0 : decode prog_12_method_25_code 0 = .ok (.aload_n 0, 1) := by decide +kernel
theorem d_TM_isWord_1 : decode prog_12_method_25_code 1 = .ok (.getfield 94, 3) := by decide +kernel
theorem d_TM_isWord_4 : decode prog_12_method_25_code 4 = .ok (.iconst 2, 1) := by decide +kernel
theorem d_TM_isWord_5 : decode prog_12_method_25_code 5 = .ok (.if_icmp .ne 16, 3) := by decide +kernel
theorem d_TM_isWord_8 : decode prog_12_method_25_code 8 = .ok (.aload_n 0, 1) := by decide +kernel
theorem d_TM_isWord_9 : decode prog_12_method_25_code 9 = .ok (.getfield 107, 3) := by decide +kernel
theorem d_TM_isWord_12 : decode prog_12_method_25_code 12 = .ok (.lload_n 1, 1) := by decide +kernel
theorem d_TM_isWord_13 : decode prog_12_method_25_code 13 = .ok (.lcmp, 1) := by decide +kernel
theorem d_TM_isWord_14 : decode prog_12_method_25_code 14 = .ok (.ifCond .ne 7, 3) := by decide +kernel
theorem d_TM_isWord_17 : decode prog_12_method_25_code 17 = .ok (.iconst 1, 1) := by decide +kernel
theorem d_TM_isWord_18 : decode prog_12_method_25_code 18 = .ok (.goto 4, 3) := by decide +kernel
theorem d_TM_isWord_21 : decode prog_12_method_25_code 21 = .ok (.iconst 0, 1) := by decide +kernel
theorem d_TM_isWord_22 : decode prog_12_method_25_code 22 = .ok (.ireturn, 1) := by decide +kernel
theorem d_TM_w5_0 : decode prog_12_method_23_code 0 = .ok (.iload_n 0, 1) := by decide +kernel
theorem d_TM_w5_1 : decode prog_12_method_23_code 1 = .ok (.iload_n 1, 1) := by decide +kernel
theorem d_TM_w5_2 : decode prog_12_method_23_code 2 = .ok (.iload_n 2, 1) := by decide +kernel
theorem d_TM_w5_3 : decode prog_12_method_23_code 3 = .ok (.iload_n 3, 1) := by decide +kernel
theorem d_TM_w5_4 : decode prog_12_method_23_code 4 = .ok (.invokestatic 124, 3) := by decide +kernel
theorem d_TM_w5_7 : decode prog_12_method_23_code 7 = .ok (.bipush 8, 2) := by decide +kernel
theorem d_TM_w5_9 : decode prog_12_method_23_code 9 = .ok (.lshl, 1) := by decide +kernel
theorem d_TM_w5_10 : decode prog_12_method_23_code 10 = .ok (.iload 4, 2) := by decide +kernel
theorem d_TM_w5_12 : decode prog_12_method_23_code 12 = .ok (.i2l, 1) := by decide +kernel
theorem d_TM_w5_13 : decode prog_12_method_23_code 13 = .ok (.lor, 1) := by decide +kernel
theorem d_TM_w5_14 : decode prog_12_method_23_code 14 = .ok (.lreturn, 1) := by decide +kernel
theorem d_TM_w6_0 : decode prog_12_method_24_code 0 = .ok (.iload_n 0, 1) := by decide +kernel
theorem d_TM_w6_1 : decode prog_12_method_24_code 1 = .ok (.iload_n 1, 1) := by decide +kernel
theorem d_TM_w6_2 : decode prog_12_method_24_code 2 = .ok (.iload_n 2, 1) := by decide +kernel
theorem d_TM_w6_3 : decode prog_12_method_24_code 3 = .ok (.iload_n 3, 1) := by decide +kernel
theorem d_TM_w6_4 : decode prog_12_method_24_code 4 = .ok (.iload 4, 2) := by decide +kernel
theorem d_TM_w6_6 : decode prog_12_method_24_code 6 = .ok (.invokestatic 128, 3) := by decide +kernel
theorem d_TM_w6_9 : decode prog_12_method_24_code 9 = .ok (.bipush 8, 2) := by decide +kernel
theorem d_TM_w6_11 : decode prog_12_method_24_code 11 = .ok (.lshl, 1) := by decide +kernel
theorem d_TM_w6_12 : decode prog_12_method_24_code 12 = .ok (.iload 5, 2) := by decide +kernel
theorem d_TM_w6_14 : decode prog_12_method_24_code 14 = .ok (.i2l, 1) := by decide +kernel
theorem d_TM_w6_15 : decode prog_12_method_24_code 15 = .ok (.lor, 1) := by decide +kernel
theorem d_TM_w6_16 : decode prog_12_method_24_code 16 = .ok (.lreturn, 1) := by decide +kernel
theorem d_TM_has_0 : decode prog_12_method_5_code 0 = .ok (.iload_n 0, 1) := by decide +kernel
theorem d_TM_has_1 : decode prog_12_method_5_code 1 = .ok (.iload_n 1, 1) := by decide +kernel
theorem d_TM_has_2 : decode prog_12_method_5_code 2 = .ok (.ishr, 1) := by decide +kernel
theorem d_TM_has_3 : decode prog_12_method_5_code 3 = .ok (.iconst 1, 1) := by decide +kernel
theorem d_TM_has_4 : decode prog_12_method_5_code 4 = .ok (.iand, 1) := by decide +kernel
theorem d_TM_has_5 : decode prog_12_method_5_code 5 = .ok (.iconst 1, 1) := by decide +kernel
theorem d_TM_has_6 : decode prog_12_method_5_code 6 = .ok (.if_icmp .ne 7, 3) := by decide +kernel
theorem d_TM_has_9 : decode prog_12_method_5_code 9 = .ok (.iconst 1, 1) := by decide +kernel
theorem d_TM_has_10 : decode prog_12_method_5_code 10 = .ok (.goto 4, 3) := by decide +kernel
theorem d_TM_has_13 : decode prog_12_method_5_code 13 = .ok (.iconst 0, 1) := by decide +kernel
theorem d_TM_has_14 : decode prog_12_method_5_code 14 = .ok (.ireturn, 1) := by decide +kernel
theorem d_TM_body_0 : decode prog_12_method_45_code 0 = .ok (.iload_n 1, 1) := by decide +kernel
theorem d_TM_body_1 : decode prog_12_method_45_code 1 = .ok (.tableswitch 124 2 7 #[39, 59, 80, 91, 102, 113], 39) := by decide +kernel
theorem d_TM_body_40 : decode prog_12_method_45_code 40 = .ok (.aload_n 0, 1) := by decide +kernel
theorem d_TM_body_41 : decode prog_12_method_45_code 41 = .ok (.iload_n 2, 1) := by decide +kernel
theorem d_TM_body_42 : decode prog_12_method_45_code 42 = .ok (.bipush 9, 2) := by decide +kernel
theorem d_TM_body_44 : decode prog_12_method_45_code 44 = .ok (.bipush 115, 2) := by decide +kernel
theorem d_TM_body_46 : decode prog_12_method_45_code 46 = .ok (.bipush 111, 2) := by decide +kernel
theorem d_TM_body_48 : decode prog_12_method_45_code 48 = .ok (.bipush 114, 2) := by decide +kernel
theorem d_TM_body_50 : decode prog_12_method_45_code 50 = .ok (.bipush 116, 2) := by decide +kernel
theorem d_TM_body_52 : decode prog_12_method_45_code 52 = .ok (.invokestatic 124, 3) := by decide +kernel
theorem d_TM_body_55 : decode prog_12_method_45_code 55 = .ok (.iconst 3, 1) := by decide +kernel
theorem d_TM_body_56 : decode prog_12_method_45_code 56 = .ok (.invokevirtual 216, 3) := by decide +kernel
theorem d_TM_body_59 : decode prog_12_method_45_code 59 = .ok (.ireturn, 1) := by decide +kernel
theorem d_TM_body_60 : decode prog_12_method_45_code 60 = .ok (.aload_n 0, 1) := by decide +kernel
theorem d_TM_body_61 : decode prog_12_method_45_code 61 = .ok (.iload_n 2, 1) := by decide +kernel
theorem d_TM_body_62 : decode prog_12_method_45_code 62 = .ok (.bipush 7, 2) := by decide +kernel
theorem d_TM_body_64 : decode prog_12_method_45_code 64 = .ok (.bipush 102, 2) := by decide +kernel
theorem d_TM_body_66 : decode prog_12_method_45_code 66 = .ok (.bipush 114, 2) := by decide +kernel
theorem d_TM_body_68 : decode prog_12_method_45_code 68 = .ok (.bipush 111, 2) := by decide +kernel
theorem d_TM_body_70 : decode prog_12_method_45_code 70 = .ok (.bipush 109, 2) := by decide +kernel
theorem d_TM_body_72 : decode prog_12_method_45_code 72 = .ok (.invokestatic 124, 3) := by decide +kernel
theorem d_TM_body_75 : decode prog_12_method_45_code 75 = .ok (.bipush 7, 2) := by decide +kernel
theorem d_TM_body_77 : decode prog_12_method_45_code 77 = .ok (.invokevirtual 216, 3) := by decide +kernel
theorem d_TM_body_80 : decode prog_12_method_45_code 80 = .ok (.ireturn, 1) := by decide +kernel
theorem d_TM_body_81 : decode prog_12_method_45_code 81 = .ok (.aload_n 0, 1) := by decide +kernel
theorem d_TM_body_82 : decode prog_12_method_45_code 82 = .ok (.iload_n 2, 1) := by decide +kernel
theorem d_TM_body_83 : decode prog_12_method_45_code 83 = .ok (.iconst 1, 1) := by decide +kernel
theorem d_TM_body_84 : decode prog_12_method_45_code 84 = .ok (.iadd, 1) := by decide +kernel
theorem d_TM_body_85 : decode prog_12_method_45_code 85 = .ok (.iconst 0, 1) := by decide +kernel
theorem d_TM_body_86 : decode prog_12_method_45_code 86 = .ok (.bipush 8, 2) := by decide +kernel
theorem d_TM_body_88 : decode prog_12_method_45_code 88 = .ok (.invokevirtual 212, 3) := by decide +kernel
theorem d_TM_body_91 : decode prog_12_method_45_code 91 = .ok (.ireturn, 1) := by decide +kernel
theorem d_TM_body_92 : decode prog_12_method_45_code 92 = .ok (.aload_n 0, 1) := by decide +kernel
theorem d_TM_body_93 : decode prog_12_method_45_code 93 = .ok (.iload_n 2, 1) := by decide +kernel
theorem d_TM_body_94 : decode prog_12_method_45_code 94 = .ok (.iconst 1, 1) := by decide +kernel
theorem d_TM_body_95 : decode prog_12_method_45_code 95 = .ok (.iadd, 1) := by decide +kernel
theorem d_TM_body_96 : decode prog_12_method_45_code 96 = .ok (.iconst 0, 1) := by decide +kernel
theorem d_TM_body_97 : decode prog_12_method_45_code 97 = .ok (.bipush 7, 2) := by decide +kernel
theorem d_TM_body_99 : decode prog_12_method_45_code 99 = .ok (.invokevirtual 212, 3) := by decide +kernel
theorem d_TM_body_102 : decode prog_12_method_45_code 102 = .ok (.ireturn, 1) := by decide +kernel
theorem d_TM_body_103 : decode prog_12_method_45_code 103 = .ok (.aload_n 0, 1) := by decide +kernel
theorem d_TM_body_104 : decode prog_12_method_45_code 104 = .ok (.iload_n 2, 1) := by decide +kernel
theorem d_TM_body_105 : decode prog_12_method_45_code 105 = .ok (.iconst 1, 1) := by decide +kernel
theorem d_TM_body_106 : decode prog_12_method_45_code 106 = .ok (.iadd, 1) := by decide +kernel
theorem d_TM_body_107 : decode prog_12_method_45_code 107 = .ok (.iconst 0, 1) := by decide +kernel
theorem d_TM_body_108 : decode prog_12_method_45_code 108 = .ok (.bipush 7, 2) := by decide +kernel
theorem d_TM_body_110 : decode prog_12_method_45_code 110 = .ok (.invokevirtual 212, 3) := by decide +kernel
theorem d_TM_body_113 : decode prog_12_method_45_code 113 = .ok (.ireturn, 1) := by decide +kernel
theorem d_TM_body_114 : decode prog_12_method_45_code 114 = .ok (.aload_n 0, 1) := by decide +kernel
theorem d_TM_body_115 : decode prog_12_method_45_code 115 = .ok (.iload_n 2, 1) := by decide +kernel
theorem d_TM_body_116 : decode prog_12_method_45_code 116 = .ok (.iconst 1, 1) := by decide +kernel
theorem d_TM_body_117 : decode prog_12_method_45_code 117 = .ok (.iadd, 1) := by decide +kernel
theorem d_TM_body_118 : decode prog_12_method_45_code 118 = .ok (.iconst 1, 1) := by decide +kernel
theorem d_TM_body_119 : decode prog_12_method_45_code 119 = .ok (.bipush 60, 2) := by decide +kernel
theorem d_TM_body_121 : decode prog_12_method_45_code 121 = .ok (.invokevirtual 212, 3) := by decide +kernel
theorem d_TM_body_124 : decode prog_12_method_45_code 124 = .ok (.ireturn, 1) := by decide +kernel
theorem d_TM_body_125 : decode prog_12_method_45_code 125 = .ok (.aload_n 0, 1) := by decide +kernel
theorem d_TM_body_126 : decode prog_12_method_45_code 126 = .ok (.iload_n 2, 1) := by decide +kernel
theorem d_TM_body_127 : decode prog_12_method_45_code 127 = .ok (.invokevirtual 220, 3) := by decide +kernel
theorem d_TM_body_130 : decode prog_12_method_45_code 130 = .ok (.ireturn, 1) := by decide +kernel
theorem d_TM_twoNumbers_0 : decode prog_12_method_44_code 0 = .ok (.aload_n 0, 1) := by decide +kernel
theorem d_TM_twoNumbers_1 : decode prog_12_method_44_code 1 = .ok (.iload_n 1, 1) := by decide +kernel
theorem d_TM_twoNumbers_2 : decode prog_12_method_44_code 2 = .ok (.iconst 1, 1) := by decide +kernel
theorem d_TM_twoNumbers_3 : decode prog_12_method_44_code 3 = .ok (.iadd, 1) := by decide +kernel
theorem d_TM_twoNumbers_4 : decode prog_12_method_44_code 4 = .ok (.iconst 0, 1) := by decide +kernel
theorem d_TM_twoNumbers_5 : decode prog_12_method_44_code 5 = .ok (.iload_n 2, 1) := by decide +kernel
theorem d_TM_twoNumbers_6 : decode prog_12_method_44_code 6 = .ok (.invokevirtual 212, 3) := by decide +kernel
theorem d_TM_twoNumbers_9 : decode prog_12_method_44_code 9 = .ok (.istore 6, 2) := by decide +kernel
theorem d_TM_twoNumbers_11 : decode prog_12_method_44_code 11 = .ok (.iload 6, 2) := by decide +kernel
theorem d_TM_twoNumbers_13 : decode prog_12_method_44_code 13 = .ok (.ifCond .eq 6, 3) := by decide +kernel
theorem d_TM_twoNumbers_16 : decode prog_12_method_44_code 16 = .ok (.iload 6, 2) := by decide +kernel
theorem d_TM_twoNumbers_18 : decode prog_12_method_44_code 18 = .ok (.ireturn, 1) := by decide +kernel
theorem d_TM_twoNumbers_19 : decode prog_12_method_44_code 19 = .ok (.aload_n 0, 1) := by decide +kernel
theorem d_TM_twoNumbers_20 : decode prog_12_method_44_code 20 = .ok (.lload_n 3, 1) := by decide +kernel
theorem d_TM_twoNumbers_21 : decode prog_12_method_44_code 21 = .ok (.invokevirtual 183, 3) := by decide +kernel
theorem d_TM_twoNumbers_24 : decode prog_12_method_44_code 24 = .ok (.ifCond .ne 5, 3) := by decide +kernel
theorem d_TM_twoNumbers_27 : decode prog_12_method_44_code 27 = .ok (.iconst 1, 1) := by decide +kernel
theorem d_TM_twoNumbers_28 : decode prog_12_method_44_code 28 = .ok (.ireturn, 1) := by decide +kernel
theorem d_TM_twoNumbers_29 : decode prog_12_method_44_code 29 = .ok (.aload_n 0, 1) := by decide +kernel
theorem d_TM_twoNumbers_30 : decode prog_12_method_44_code 30 = .ok (.invokevirtual 165, 3) := by decide +kernel
theorem d_TM_twoNumbers_33 : decode prog_12_method_44_code 33 = .ok (.aload_n 0, 1) := by decide +kernel
theorem d_TM_twoNumbers_34 : decode prog_12_method_44_code 34 = .ok (.iload_n 1, 1) := by decide +kernel
theorem d_TM_twoNumbers_35 : decode prog_12_method_44_code 35 = .ok (.iconst 2, 1) := by decide +kernel
theorem d_TM_twoNumbers_36 : decode prog_12_method_44_code 36 = .ok (.iadd, 1) := by decide +kernel
theorem d_TM_twoNumbers_37 : decode prog_12_method_44_code 37 = .ok (.iconst 0, 1) := by decide +kernel
theorem d_TM_twoNumbers_38 : decode prog_12_method_44_code 38 = .ok (.iload 5, 2) := by decide +kernel
theorem d_TM_twoNumbers_40 : decode prog_12_method_44_code 40 = .ok (.invokevirtual 212, 3) := by decide +kernel
theorem d_TM_twoNumbers_43 : decode prog_12_method_44_code 43 = .ok (.ireturn, 1) := by decide +kernel
theorem d_TM_figure_0 : decode prog_12_method_42_code 0 = .ok (.aload_n 0, 1) := by decide +kernel
theorem d_TM_figure_1 : decode prog_12_method_42_code 1 = .ok (.getfield 94, 3) := by decide +kernel
theorem d_TM_figure_4 : decode prog_12_method_42_code 4 = .ok (.iconst 1, 1) := by decide +kernel
theorem d_TM_figure_5 : decode prog_12_method_42_code 5 = .ok (.if_icmp .eq 5, 3) := by decide +kernel
theorem d_TM_figure_8 : decode prog_12_method_42_code 8 = .ok (.iconst 1, 1) := by decide +kernel
theorem d_TM_figure_9 : decode prog_12_method_42_code 9 = .ok (.ireturn, 1) := by decide +kernel
theorem d_TM_figure_10 : decode prog_12_method_42_code 10 = .ok (.aload_n 0, 1) := by decide +kernel
theorem d_TM_figure_11 : decode prog_12_method_42_code 11 = .ok (.getfield 100, 3) := by decide +kernel
theorem d_TM_figure_14 : decode prog_12_method_42_code 14 = .ok (.iload_n 2, 1) := by decide +kernel
theorem d_TM_figure_15 : decode prog_12_method_42_code 15 = .ok (.iload_n 3, 1) := by decide +kernel
theorem d_TM_figure_16 : decode prog_12_method_42_code 16 = .ok (.invokestatic 69, 3) := by decide +kernel
theorem d_TM_figure_19 : decode prog_12_method_42_code 19 = .ok (.ifCond .ne 5, 3) := by decide +kernel
theorem d_TM_figure_22 : decode prog_12_method_42_code 22 = .ok (.iconst 2, 1) := by decide +kernel
theorem d_TM_figure_23 : decode prog_12_method_42_code 23 = .ok (.ireturn, 1) := by decide +kernel
theorem d_TM_figure_24 : decode prog_12_method_42_code 24 = .ok (.aload_n 0, 1) := by decide +kernel
theorem d_TM_figure_25 : decode prog_12_method_42_code 25 = .ok (.getfield 16, 3) := by decide +kernel
theorem d_TM_figure_28 : decode prog_12_method_42_code 28 = .ok (.iload_n 1, 1) := by decide +kernel
theorem d_TM_figure_29 : decode prog_12_method_42_code 29 = .ok (.aload_n 0, 1) := by decide +kernel
theorem d_TM_figure_30 : decode prog_12_method_42_code 30 = .ok (.getfield 100, 3) := by decide +kernel
theorem d_TM_figure_33 : decode prog_12_method_42_code 33 = .ok (.iastore, 1) := by decide +kernel
theorem d_TM_figure_34 : decode prog_12_method_42_code 34 = .ok (.aload_n 0, 1) := by decide +kernel
theorem d_TM_figure_35 : decode prog_12_method_42_code 35 = .ok (.invokevirtual 165, 3) := by decide +kernel
theorem d_TM_figure_38 : decode prog_12_method_42_code 38 = .ok (.iconst 0, 1) := by decide +kernel
theorem d_TM_figure_39 : decode prog_12_method_42_code 39 = .ok (.ireturn, 1) := by decide +kernel
theorem d_TM_lawClause_0 : decode prog_12_method_43_code 0 = .ok (.aload_n 0, 1) := by decide +kernel
theorem d_TM_lawClause_1 : decode prog_12_method_43_code 1 = .ok (.getfield 16, 3) := by decide +kernel
theorem d_TM_lawClause_4 : decode prog_12_method_43_code 4 = .ok (.iload_n 1, 1) := by decide +kernel
theorem d_TM_lawClause_5 : decode prog_12_method_43_code 5 = .ok (.iconst 1, 1) := by decide +kernel
theorem d_TM_lawClause_6 : decode prog_12_method_43_code 6 = .ok (.iadd, 1) := by decide +kernel
theorem d_TM_lawClause_7 : decode prog_12_method_43_code 7 = .ok (.aload_n 0, 1) := by decide +kernel
theorem d_TM_lawClause_8 : decode prog_12_method_43_code 8 = .ok (.getfield 135, 3) := by decide +kernel
theorem d_TM_lawClause_11 : decode prog_12_method_43_code 11 = .ok (.iastore, 1) := by decide +kernel
theorem d_TM_lawClause_12 : decode prog_12_method_43_code 12 = .ok (.aload_n 0, 1) := by decide +kernel
theorem d_TM_lawClause_13 : decode prog_12_method_43_code 13 = .ok (.invokevirtual 209, 3) := by decide +kernel
theorem d_TM_lawClause_16 : decode prog_12_method_43_code 16 = .ok (.istore_n 2, 1) := by decide +kernel
theorem d_TM_lawClause_17 : decode prog_12_method_43_code 17 = .ok (.aload_n 0, 1) := by decide +kernel
theorem d_TM_lawClause_18 : decode prog_12_method_43_code 18 = .ok (.getfield 16, 3) := by decide +kernel
theorem d_TM_lawClause_21 : decode prog_12_method_43_code 21 = .ok (.iload_n 1, 1) := by decide +kernel
theorem d_TM_lawClause_22 : decode prog_12_method_43_code 22 = .ok (.iconst 2, 1) := by decide +kernel
theorem d_TM_lawClause_23 : decode prog_12_method_43_code 23 = .ok (.iadd, 1) := by decide +kernel
theorem d_TM_lawClause_24 : decode prog_12_method_43_code 24 = .ok (.aload_n 0, 1) := by decide +kernel
theorem d_TM_lawClause_25 : decode prog_12_method_43_code 25 = .ok (.getfield 135, 3) := by decide +kernel
theorem d_TM_lawClause_28 : decode prog_12_method_43_code 28 = .ok (.iastore, 1) := by decide +kernel
theorem d_TM_lawClause_29 : decode prog_12_method_43_code 29 = .ok (.iload_n 2, 1) := by decide +kernel
theorem d_TM_lawClause_30 : decode prog_12_method_43_code 30 = .ok (.ireturn, 1) := by decide +kernel
theorem d_TM_summed_0 : decode prog_12_method_41_code 0 = .ok (.aload_n 0, 1) := by decide +kernel
theorem d_TM_summed_1 : decode prog_12_method_41_code 1 = .ok (.iconst 0, 1) := by decide +kernel
theorem d_TM_summed_2 : decode prog_12_method_41_code 2 = .ok (.putfield 145, 3) := by decide +kernel
theorem d_TM_summed_5 : decode prog_12_method_41_code 5 = .ok (.aload_n 0, 1) := by decide +kernel
theorem d_TM_summed_6 : decode prog_12_method_41_code 6 = .ok (.iconst 0, 1) := by decide +kernel
theorem d_TM_summed_7 : decode prog_12_method_41_code 7 = .ok (.putfield 155, 3) := by decide +kernel
theorem d_TM_summed_10 : decode prog_12_method_41_code 10 = .ok (.aload_n 0, 1) := by decide +kernel
theorem d_TM_summed_11 : decode prog_12_method_41_code 11 = .ok (.iconst 0, 1) := by decide +kernel
theorem d_TM_summed_12 : decode prog_12_method_41_code 12 = .ok (.putfield 174, 3) := by decide +kernel
theorem d_TM_summed_15 : decode prog_12_method_41_code 15 = .ok (.aload_n 0, 1) := by decide +kernel
theorem d_TM_summed_16 : decode prog_12_method_41_code 16 = .ok (.getfield 174, 3) := by decide +kernel
theorem d_TM_summed_19 : decode prog_12_method_41_code 19 = .ok (.ifCond .eq 29, 3) := by decide +kernel
theorem d_TM_summed_22 : decode prog_12_method_41_code 22 = .ok (.aload_n 0, 1) := by decide +kernel
theorem d_TM_summed_23 : decode prog_12_method_41_code 23 = .ok (.invokevirtual 203, 3) := by decide +kernel
theorem d_TM_summed_26 : decode prog_12_method_41_code 26 = .ok (.ifCond .eq 6, 3) := by decide +kernel
theorem d_TM_summed_29 : decode prog_12_method_41_code 29 = .ok (.goto (-14), 3) := by decide +kernel
theorem d_TM_summed_32 : decode prog_12_method_41_code 32 = .ok (.aload_n 0, 1) := by decide +kernel
theorem d_TM_summed_33 : decode prog_12_method_41_code 33 = .ok (.invokevirtual 162, 3) := by decide +kernel
theorem d_TM_summed_36 : decode prog_12_method_41_code 36 = .ok (.ifCond .lt 5, 3) := by decide +kernel
theorem d_TM_summed_39 : decode prog_12_method_41_code 39 = .ok (.iconst 1, 1) := by decide +kernel
theorem d_TM_summed_40 : decode prog_12_method_41_code 40 = .ok (.ireturn, 1) := by decide +kernel
theorem d_TM_summed_41 : decode prog_12_method_41_code 41 = .ok (.aload_n 0, 1) := by decide +kernel
theorem d_TM_summed_42 : decode prog_12_method_41_code 42 = .ok (.iconst 1, 1) := by decide +kernel
theorem d_TM_summed_43 : decode prog_12_method_41_code 43 = .ok (.invokevirtual 177, 3) := by decide +kernel
theorem d_TM_summed_46 : decode prog_12_method_41_code 46 = .ok (.iconst 0, 1) := by decide +kernel
theorem d_TM_summed_47 : decode prog_12_method_41_code 47 = .ok (.ireturn, 1) := by decide +kernel
theorem d_TM_summed_48 : decode prog_12_method_41_code 48 = .ok (.aload_n 0, 1) := by decide +kernel
theorem d_TM_summed_49 : decode prog_12_method_41_code 49 = .ok (.invokevirtual 206, 3) := by decide +kernel
theorem d_TM_summed_52 : decode prog_12_method_41_code 52 = .ok (.istore_n 1, 1) := by decide +kernel
theorem d_TM_summed_53 : decode prog_12_method_41_code 53 = .ok (.iload_n 1, 1) := by decide +kernel
theorem d_TM_summed_54 : decode prog_12_method_41_code 54 = .ok (.ifCond .eq 5, 3) := by decide +kernel
theorem d_TM_summed_57 : decode prog_12_method_41_code 57 = .ok (.iload_n 1, 1) := by decide +kernel
theorem d_TM_summed_58 : decode prog_12_method_41_code 58 = .ok (.ireturn, 1) := by decide +kernel
theorem d_TM_summed_59 : decode prog_12_method_41_code 59 = .ok (.goto (-44), 3) := by decide +kernel
theorem d_TM_behindOne_0 : decode prog_12_method_40_code 0 = .ok (.aload_n 0, 1) := by decide +kernel
theorem d_TM_behindOne_1 : decode prog_12_method_40_code 1 = .ok (.invokevirtual 197, 3) := by decide +kernel
theorem d_TM_behindOne_4 : decode prog_12_method_40_code 4 = .ok (.istore_n 1, 1) := by decide +kernel
theorem d_TM_behindOne_5 : decode prog_12_method_40_code 5 = .ok (.iload_n 1, 1) := by decide +kernel
theorem d_TM_behindOne_6 : decode prog_12_method_40_code 6 = .ok (.ifCond .lt 54, 3) := by decide +kernel
theorem d_TM_behindOne_9 : decode prog_12_method_40_code 9 = .ok (.aload_n 0, 1) := by decide +kernel
theorem d_TM_behindOne_10 : decode prog_12_method_40_code 10 = .ok (.iload_n 1, 1) := by decide +kernel
theorem d_TM_behindOne_11 : decode prog_12_method_40_code 11 = .ok (.invokestatic 148, 3) := by decide +kernel
theorem d_TM_behindOne_14 : decode prog_12_method_40_code 14 = .ok (.iconst 4, 1) := by decide +kernel
theorem d_TM_behindOne_15 : decode prog_12_method_40_code 15 = .ok (.if_icmp .ne 7, 3) := by decide +kernel
theorem d_TM_behindOne_18 : decode prog_12_method_40_code 18 = .ok (.iconst 5, 1) := by decide +kernel
theorem d_TM_behindOne_19 : decode prog_12_method_40_code 19 = .ok (.goto 7, 3) := by decide +kernel
theorem d_TM_behindOne_22 : decode prog_12_method_40_code 22 = .ok (.iload_n 1, 1) := by decide +kernel
theorem d_TM_behindOne_23 : decode prog_12_method_40_code 23 = .ok (.invokestatic 148, 3) := by decide +kernel
theorem d_TM_behindOne_26 : decode prog_12_method_40_code 26 = .ok (.invokevirtual 177, 3) := by decide +kernel
theorem d_TM_behindOne_29 : decode prog_12_method_40_code 29 = .ok (.aload_n 0, 1) := by decide +kernel
theorem d_TM_behindOne_30 : decode prog_12_method_40_code 30 = .ok (.getfield 29, 3) := by decide +kernel
theorem d_TM_behindOne_33 : decode prog_12_method_40_code 33 = .ok (.aload_n 0, 1) := by decide +kernel
theorem d_TM_behindOne_34 : decode prog_12_method_40_code 34 = .ok (.getfield 145, 3) := by decide +kernel
theorem d_TM_behindOne_37 : decode prog_12_method_40_code 37 = .ok (.iload_n 1, 1) := by decide +kernel
theorem d_TM_behindOne_38 : decode prog_12_method_40_code 38 = .ok (.iastore, 1) := by decide +kernel
theorem d_TM_behindOne_39 : decode prog_12_method_40_code 39 = .ok (.aload_n 0, 1) := by decide +kernel
theorem d_TM_behindOne_40 : decode prog_12_method_40_code 40 = .ok (.dup, 1) := by decide +kernel
theorem d_TM_behindOne_41 : decode prog_12_method_40_code 41 = .ok (.getfield 145, 3) := by decide +kernel
theorem d_TM_behindOne_44 : decode prog_12_method_40_code 44 = .ok (.iconst 1, 1) := by decide +kernel
theorem d_TM_behindOne_45 : decode prog_12_method_40_code 45 = .ok (.iadd, 1) := by decide +kernel
theorem d_TM_behindOne_46 : decode prog_12_method_40_code 46 = .ok (.putfield 145, 3) := by decide +kernel
theorem d_TM_behindOne_49 : decode prog_12_method_40_code 49 = .ok (.aload_n 0, 1) := by decide +kernel
theorem d_TM_behindOne_50 : decode prog_12_method_40_code 50 = .ok (.iconst 0, 1) := by decide +kernel
theorem d_TM_behindOne_51 : decode prog_12_method_40_code 51 = .ok (.putfield 174, 3) := by decide +kernel
theorem d_TM_behindOne_54 : decode prog_12_method_40_code 54 = .ok (.aload_n 0, 1) := by decide +kernel
theorem d_TM_behindOne_55 : decode prog_12_method_40_code 55 = .ok (.invokevirtual 165, 3) := by decide +kernel
theorem d_TM_behindOne_58 : decode prog_12_method_40_code 58 = .ok (.iconst 1, 1) := by decide +kernel
theorem d_TM_behindOne_59 : decode prog_12_method_40_code 59 = .ok (.ireturn, 1) := by decide +kernel
theorem d_TM_behindOne_60 : decode prog_12_method_40_code 60 = .ok (.aload_n 0, 1) := by decide +kernel
theorem d_TM_behindOne_61 : decode prog_12_method_40_code 61 = .ok (.invokevirtual 162, 3) := by decide +kernel
theorem d_TM_behindOne_64 : decode prog_12_method_40_code 64 = .ok (.istore_n 2, 1) := by decide +kernel
theorem d_TM_behindOne_65 : decode prog_12_method_40_code 65 = .ok (.aload_n 0, 1) := by decide +kernel
theorem d_TM_behindOne_66 : decode prog_12_method_40_code 66 = .ok (.iload_n 2, 1) := by decide +kernel
theorem d_TM_behindOne_67 : decode prog_12_method_40_code 67 = .ok (.invokevirtual 200, 3) := by decide +kernel
theorem d_TM_behindOne_70 : decode prog_12_method_40_code 70 = .ok (.istore_n 3, 1) := by decide +kernel
theorem d_TM_behindOne_71 : decode prog_12_method_40_code 71 = .ok (.iload_n 3, 1) := by decide +kernel
theorem d_TM_behindOne_72 : decode prog_12_method_40_code 72 = .ok (.ifCond .ge 5, 3) := by decide +kernel
theorem d_TM_behindOne_75 : decode prog_12_method_40_code 75 = .ok (.iconst 0, 1) := by decide +kernel
theorem d_TM_behindOne_76 : decode prog_12_method_40_code 76 = .ok (.ireturn, 1) := by decide +kernel
theorem d_TM_behindOne_77 : decode prog_12_method_40_code 77 = .ok (.aload_n 0, 1) := by decide +kernel
theorem d_TM_behindOne_78 : decode prog_12_method_40_code 78 = .ok (.iconst 1, 1) := by decide +kernel
theorem d_TM_behindOne_79 : decode prog_12_method_40_code 79 = .ok (.invokevirtual 177, 3) := by decide +kernel
theorem d_TM_behindOne_82 : decode prog_12_method_40_code 82 = .ok (.aload_n 0, 1) := by decide +kernel
theorem d_TM_behindOne_83 : decode prog_12_method_40_code 83 = .ok (.invokevirtual 165, 3) := by decide +kernel
theorem d_TM_behindOne_86 : decode prog_12_method_40_code 86 = .ok (.iload_n 3, 1) := by decide +kernel
theorem d_TM_behindOne_87 : decode prog_12_method_40_code 87 = .ok (.ifCond .le 20, 3) := by decide +kernel
theorem d_TM_behindOne_90 : decode prog_12_method_40_code 90 = .ok (.aload_n 0, 1) := by decide +kernel
theorem d_TM_behindOne_91 : decode prog_12_method_40_code 91 = .ok (.getfield 29, 3) := by decide +kernel
theorem d_TM_behindOne_94 : decode prog_12_method_40_code 94 = .ok (.aload_n 0, 1) := by decide +kernel
theorem d_TM_behindOne_95 : decode prog_12_method_40_code 95 = .ok (.invokevirtual 158, 3) := by decide +kernel
theorem d_TM_behindOne_98 : decode prog_12_method_40_code 98 = .ok (.iload_n 3, 1) := by decide +kernel
theorem d_TM_behindOne_99 : decode prog_12_method_40_code 99 = .ok (.iastore, 1) := by decide +kernel
theorem d_TM_behindOne_100 : decode prog_12_method_40_code 100 = .ok (.aload_n 0, 1) := by decide +kernel
theorem d_TM_behindOne_101 : decode prog_12_method_40_code 101 = .ok (.iconst 0, 1) := by decide +kernel
theorem d_TM_behindOne_102 : decode prog_12_method_40_code 102 = .ok (.putfield 174, 3) := by decide +kernel
theorem d_TM_behindOne_105 : decode prog_12_method_40_code 105 = .ok (.iconst 1, 1) := by decide +kernel
theorem d_TM_behindOne_106 : decode prog_12_method_40_code 106 = .ok (.ireturn, 1) := by decide +kernel
theorem d_TM_behindOne_107 : decode prog_12_method_40_code 107 = .ok (.aload_n 0, 1) := by decide +kernel
theorem d_TM_behindOne_108 : decode prog_12_method_40_code 108 = .ok (.dup, 1) := by decide +kernel
theorem d_TM_behindOne_109 : decode prog_12_method_40_code 109 = .ok (.getfield 155, 3) := by decide +kernel
theorem d_TM_behindOne_112 : decode prog_12_method_40_code 112 = .ok (.iconst 1, 1) := by decide +kernel
theorem d_TM_behindOne_113 : decode prog_12_method_40_code 113 = .ok (.isub, 1) := by decide +kernel
theorem d_TM_behindOne_114 : decode prog_12_method_40_code 114 = .ok (.putfield 155, 3) := by decide +kernel
theorem d_TM_behindOne_117 : decode prog_12_method_40_code 117 = .ok (.aload_n 0, 1) := by decide +kernel
theorem d_TM_behindOne_118 : decode prog_12_method_40_code 118 = .ok (.dup, 1) := by decide +kernel
theorem d_TM_behindOne_119 : decode prog_12_method_40_code 119 = .ok (.getfield 145, 3) := by decide +kernel
theorem d_TM_behindOne_122 : decode prog_12_method_40_code 122 = .ok (.iconst 1, 1) := by decide +kernel
theorem d_TM_behindOne_123 : decode prog_12_method_40_code 123 = .ok (.isub, 1) := by decide +kernel
theorem d_TM_behindOne_124 : decode prog_12_method_40_code 124 = .ok (.putfield 145, 3) := by decide +kernel
theorem d_TM_behindOne_127 : decode prog_12_method_40_code 127 = .ok (.iload_n 2, 1) := by decide +kernel
theorem d_TM_behindOne_128 : decode prog_12_method_40_code 128 = .ok (.bipush 43, 2) := by decide +kernel
theorem d_TM_behindOne_130 : decode prog_12_method_40_code 130 = .ok (.if_icmp .ne 9, 3) := by decide +kernel
theorem d_TM_behindOne_133 : decode prog_12_method_40_code 133 = .ok (.aload_n 0, 1) := by decide +kernel
theorem d_TM_behindOne_134 : decode prog_12_method_40_code 134 = .ok (.iconst 3, 1) := by decide +kernel
theorem d_TM_behindOne_135 : decode prog_12_method_40_code 135 = .ok (.iconst 0, 1) := by decide +kernel
theorem d_TM_behindOne_136 : decode prog_12_method_40_code 136 = .ok (.invokevirtual 151, 3) := by decide +kernel
theorem d_TM_behindOne_139 : decode prog_12_method_40_code 139 = .ok (.aload_n 0, 1) := by decide +kernel
theorem d_TM_behindOne_140 : decode prog_12_method_40_code 140 = .ok (.bipush 7, 2) := by decide +kernel
theorem d_TM_behindOne_142 : decode prog_12_method_40_code 142 = .ok (.invokevirtual 177, 3) := by decide +kernel
theorem d_TM_behindOne_145 : decode prog_12_method_40_code 145 = .ok (.iconst 1, 1) := by decide +kernel
theorem d_TM_behindOne_146 : decode prog_12_method_40_code 146 = .ok (.ireturn, 1) := by decide +kernel
theorem d_TM_betweenOf_0 : decode prog_12_method_38_code 0 = .ok (.aload_n 0, 1) := by decide +kernel
theorem d_TM_betweenOf_1 : decode prog_12_method_38_code 1 = .ok (.getfield 94, 3) := by decide +kernel
theorem d_TM_betweenOf_4 : decode prog_12_method_38_code 4 = .ok (.bipush 43, 2) := by decide +kernel
theorem d_TM_betweenOf_6 : decode prog_12_method_38_code 6 = .ok (.if_icmp .ne 6, 3) := by decide +kernel
theorem d_TM_betweenOf_9 : decode prog_12_method_38_code 9 = .ok (.bipush 6, 2) := by decide +kernel
theorem d_TM_betweenOf_11 : decode prog_12_method_38_code 11 = .ok (.ireturn, 1) := by decide +kernel
theorem d_TM_betweenOf_12 : decode prog_12_method_38_code 12 = .ok (.aload_n 0, 1) := by decide +kernel
theorem d_TM_betweenOf_13 : decode prog_12_method_38_code 13 = .ok (.getfield 94, 3) := by decide +kernel
theorem d_TM_betweenOf_16 : decode prog_12_method_38_code 16 = .ok (.bipush 45, 2) := by decide +kernel
theorem d_TM_betweenOf_18 : decode prog_12_method_38_code 18 = .ok (.if_icmp .ne 6, 3) := by decide +kernel
theorem d_TM_betweenOf_21 : decode prog_12_method_38_code 21 = .ok (.bipush 7, 2) := by decide +kernel
theorem d_TM_betweenOf_23 : decode prog_12_method_38_code 23 = .ok (.ireturn, 1) := by decide +kernel
theorem d_TM_betweenOf_24 : decode prog_12_method_38_code 24 = .ok (.aload_n 0, 1) := by decide +kernel
theorem d_TM_betweenOf_25 : decode prog_12_method_38_code 25 = .ok (.getfield 94, 3) := by decide +kernel
theorem d_TM_betweenOf_28 : decode prog_12_method_38_code 28 = .ok (.bipush 42, 2) := by decide +kernel
theorem d_TM_betweenOf_30 : decode prog_12_method_38_code 30 = .ok (.if_icmp .ne 6, 3) := by decide +kernel
theorem d_TM_betweenOf_33 : decode prog_12_method_38_code 33 = .ok (.bipush 8, 2) := by decide +kernel
theorem d_TM_betweenOf_35 : decode prog_12_method_38_code 35 = .ok (.ireturn, 1) := by decide +kernel
theorem d_TM_betweenOf_36 : decode prog_12_method_38_code 36 = .ok (.aload_n 0, 1) := by decide +kernel
theorem d_TM_betweenOf_37 : decode prog_12_method_38_code 37 = .ok (.getfield 94, 3) := by decide +kernel
theorem d_TM_betweenOf_40 : decode prog_12_method_38_code 40 = .ok (.bipush 47, 2) := by decide +kernel
theorem d_TM_betweenOf_42 : decode prog_12_method_38_code 42 = .ok (.if_icmp .ne 6, 3) := by decide +kernel
theorem d_TM_betweenOf_45 : decode prog_12_method_38_code 45 = .ok (.bipush 9, 2) := by decide +kernel
theorem d_TM_betweenOf_47 : decode prog_12_method_38_code 47 = .ok (.ireturn, 1) := by decide +kernel
theorem d_TM_betweenOf_48 : decode prog_12_method_38_code 48 = .ok (.aload_n 0, 1) := by decide +kernel
theorem d_TM_betweenOf_49 : decode prog_12_method_38_code 49 = .ok (.invokevirtual 162, 3) := by decide +kernel
theorem d_TM_betweenOf_52 : decode prog_12_method_38_code 52 = .ok (.bipush 41, 2) := by decide +kernel
theorem d_TM_betweenOf_54 : decode prog_12_method_38_code 54 = .ok (.if_icmp .eq 5, 3) := by decide +kernel
theorem d_TM_betweenOf_57 : decode prog_12_method_38_code 57 = .ok (.iconst (-1), 1) := by decide +kernel
theorem d_TM_betweenOf_58 : decode prog_12_method_38_code 58 = .ok (.ireturn, 1) := by decide +kernel
theorem d_TM_betweenOf_59 : decode prog_12_method_38_code 59 = .ok (.aload_n 0, 1) := by decide +kernel
theorem d_TM_betweenOf_60 : decode prog_12_method_38_code 60 = .ok (.invokevirtual 191, 3) := by decide +kernel
theorem d_TM_betweenOf_63 : decode prog_12_method_38_code 63 = .ok (.ifCond .ne 8, 3) := by decide +kernel
theorem d_TM_betweenOf_66 : decode prog_12_method_38_code 66 = .ok (.aload_n 0, 1) := by decide +kernel
theorem d_TM_betweenOf_67 : decode prog_12_method_38_code 67 = .ok (.invokevirtual 194, 3) := by decide +kernel
theorem d_TM_betweenOf_70 : decode prog_12_method_38_code 70 = .ok (.ireturn, 1) := by decide +kernel
theorem d_TM_betweenOf_71 : decode prog_12_method_38_code 71 = .ok (.aload_n 0, 1) := by decide +kernel
theorem d_TM_betweenOf_72 : decode prog_12_method_38_code 72 = .ok (.bipush 97, 2) := by decide +kernel
theorem d_TM_betweenOf_74 : decode prog_12_method_38_code 74 = .ok (.bipush 110, 2) := by decide +kernel
theorem d_TM_betweenOf_76 : decode prog_12_method_38_code 76 = .ok (.bipush 100, 2) := by decide +kernel
theorem d_TM_betweenOf_78 : decode prog_12_method_38_code 78 = .ok (.invokestatic 120, 3) := by decide +kernel
theorem d_TM_betweenOf_81 : decode prog_12_method_38_code 81 = .ok (.invokevirtual 183, 3) := by decide +kernel
theorem d_TM_betweenOf_84 : decode prog_12_method_38_code 84 = .ok (.ifCond .eq 8, 3) := by decide +kernel
theorem d_TM_betweenOf_87 : decode prog_12_method_38_code 87 = .ok (.bipush 21, 2) := by decide +kernel
theorem d_TM_betweenOf_89 : decode prog_12_method_38_code 89 = .ok (.goto 23, 3) := by decide +kernel
theorem d_TM_betweenOf_92 : decode prog_12_method_38_code 92 = .ok (.aload_n 0, 1) := by decide +kernel
theorem d_TM_betweenOf_93 : decode prog_12_method_38_code 93 = .ok (.bipush 111, 2) := by decide +kernel
theorem d_TM_betweenOf_95 : decode prog_12_method_38_code 95 = .ok (.bipush 114, 2) := by decide +kernel
theorem d_TM_betweenOf_97 : decode prog_12_method_38_code 97 = .ok (.invokestatic 116, 3) := by decide +kernel
theorem d_TM_betweenOf_100 : decode prog_12_method_38_code 100 = .ok (.invokevirtual 183, 3) := by decide +kernel
theorem d_TM_betweenOf_103 : decode prog_12_method_38_code 103 = .ok (.ifCond .eq 8, 3) := by decide +kernel
theorem d_TM_betweenOf_106 : decode prog_12_method_38_code 106 = .ok (.bipush 22, 2) := by decide +kernel
theorem d_TM_betweenOf_108 : decode prog_12_method_38_code 108 = .ok (.goto 4, 3) := by decide +kernel
theorem d_TM_betweenOf_111 : decode prog_12_method_38_code 111 = .ok (.iconst (-1), 1) := by decide +kernel
theorem d_TM_betweenOf_112 : decode prog_12_method_38_code 112 = .ok (.ireturn, 1) := by decide +kernel
theorem d_TM_openNow_0 : decode prog_12_method_32_code 0 = .ok (.aload_n 0, 1) := by decide +kernel
theorem d_TM_openNow_1 : decode prog_12_method_32_code 1 = .ok (.invokevirtual 158, 3) := by decide +kernel
theorem d_TM_openNow_4 : decode prog_12_method_32_code 4 = .ok (.ifCond .ge 7, 3) := by decide +kernel
theorem d_TM_openNow_7 : decode prog_12_method_32_code 7 = .ok (.iconst (-1), 1) := by decide +kernel
theorem d_TM_openNow_8 : decode prog_12_method_32_code 8 = .ok (.goto 12, 3) := by decide +kernel
theorem d_TM_openNow_11 : decode prog_12_method_32_code 11 = .ok (.aload_n 0, 1) := by decide +kernel
theorem d_TM_openNow_12 : decode prog_12_method_32_code 12 = .ok (.getfield 29, 3) := by decide +kernel
theorem d_TM_openNow_15 : decode prog_12_method_32_code 15 = .ok (.aload_n 0, 1) := by decide +kernel
theorem d_TM_openNow_16 : decode prog_12_method_32_code 16 = .ok (.invokevirtual 158, 3) := by decide +kernel
theorem d_TM_openNow_19 : decode prog_12_method_32_code 19 = .ok (.iaload, 1) := by decide +kernel
theorem d_TM_openNow_20 : decode prog_12_method_32_code 20 = .ok (.ireturn, 1) := by decide +kernel
theorem d_TM_openAt_0 : decode prog_12_method_31_code 0 = .ok (.aload_n 0, 1) := by decide +kernel
theorem d_TM_openAt_1 : decode prog_12_method_31_code 1 = .ok (.getfield 145, 3) := by decide +kernel
theorem d_TM_openAt_4 : decode prog_12_method_31_code 4 = .ok (.iconst 1, 1) := by decide +kernel
theorem d_TM_openAt_5 : decode prog_12_method_31_code 5 = .ok (.isub, 1) := by decide +kernel
theorem d_TM_openAt_6 : decode prog_12_method_31_code 6 = .ok (.istore_n 1, 1) := by decide +kernel
theorem d_TM_openAt_7 : decode prog_12_method_31_code 7 = .ok (.iload_n 1, 1) := by decide +kernel
theorem d_TM_openAt_8 : decode prog_12_method_31_code 8 = .ok (.ifCond .lt 20, 3) := by decide +kernel
theorem d_TM_openAt_11 : decode prog_12_method_31_code 11 = .ok (.aload_n 0, 1) := by decide +kernel
theorem d_TM_openAt_12 : decode prog_12_method_31_code 12 = .ok (.getfield 29, 3) := by decide +kernel
theorem d_TM_openAt_15 : decode prog_12_method_31_code 15 = .ok (.iload_n 1, 1) := by decide +kernel
theorem d_TM_openAt_16 : decode prog_12_method_31_code 16 = .ok (.iaload, 1) := by decide +kernel
theorem d_TM_openAt_17 : decode prog_12_method_31_code 17 = .ok (.bipush 40, 2) := by decide +kernel
theorem d_TM_openAt_19 : decode prog_12_method_31_code 19 = .ok (.if_icmp .ge 9, 3) := by decide +kernel
theorem d_TM_openAt_22 : decode prog_12_method_31_code 22 = .ok (.iinc 1 (-1), 3) := by decide +kernel
theorem d_TM_openAt_25 : decode prog_12_method_31_code 25 = .ok (.goto (-18), 3) := by decide +kernel
theorem d_TM_openAt_28 : decode prog_12_method_31_code 28 = .ok (.iload_n 1, 1) := by decide +kernel
theorem d_TM_openAt_29 : decode prog_12_method_31_code 29 = .ok (.ireturn, 1) := by decide +kernel
theorem d_TM_isCompared_0 : decode prog_12_method_33_code 0 = .ok (.aload_n 0, 1) := by decide +kernel
theorem d_TM_isCompared_1 : decode prog_12_method_33_code 1 = .ok (.getfield 145, 3) := by decide +kernel
theorem d_TM_isCompared_4 : decode prog_12_method_33_code 4 = .ok (.iconst 1, 1) := by decide +kernel
theorem d_TM_isCompared_5 : decode prog_12_method_33_code 5 = .ok (.isub, 1) := by decide +kernel
theorem d_TM_isCompared_6 : decode prog_12_method_33_code 6 = .ok (.istore_n 1, 1) := by decide +kernel
theorem d_TM_isCompared_7 : decode prog_12_method_33_code 7 = .ok (.iload_n 1, 1) := by decide +kernel
theorem d_TM_isCompared_8 : decode prog_12_method_33_code 8 = .ok (.ifCond .lt 22, 3) := by decide +kernel
theorem d_TM_isCompared_11 : decode prog_12_method_33_code 11 = .ok (.aload_n 0, 1) := by decide +kernel
theorem d_TM_isCompared_12 : decode prog_12_method_33_code 12 = .ok (.getfield 29, 3) := by decide +kernel
theorem d_TM_isCompared_15 : decode prog_12_method_33_code 15 = .ok (.iload_n 1, 1) := by decide +kernel
theorem d_TM_isCompared_16 : decode prog_12_method_33_code 16 = .ok (.iaload, 1) := by decide +kernel
theorem d_TM_isCompared_17 : decode prog_12_method_33_code 17 = .ok (.invokestatic 148, 3) := by decide +kernel
theorem d_TM_isCompared_20 : decode prog_12_method_33_code 20 = .ok (.iconst 4, 1) := by decide +kernel
theorem d_TM_isCompared_21 : decode prog_12_method_33_code 21 = .ok (.if_icmp .le 9, 3) := by decide +kernel
theorem d_TM_isCompared_24 : decode prog_12_method_33_code 24 = .ok (.iinc 1 (-1), 3) := by decide +kernel
theorem d_TM_isCompared_27 : decode prog_12_method_33_code 27 = .ok (.goto (-20), 3) := by decide +kernel
theorem d_TM_isCompared_30 : decode prog_12_method_33_code 30 = .ok (.iload_n 1, 1) := by decide +kernel
theorem d_TM_isCompared_31 : decode prog_12_method_33_code 31 = .ok (.ifCond .lt 20, 3) := by decide +kernel
theorem d_TM_isCompared_34 : decode prog_12_method_33_code 34 = .ok (.aload_n 0, 1) := by decide +kernel
theorem d_TM_isCompared_35 : decode prog_12_method_33_code 35 = .ok (.getfield 29, 3) := by decide +kernel
theorem d_TM_isCompared_38 : decode prog_12_method_33_code 38 = .ok (.iload_n 1, 1) := by decide +kernel
theorem d_TM_isCompared_39 : decode prog_12_method_33_code 39 = .ok (.iaload, 1) := by decide +kernel
theorem d_TM_isCompared_40 : decode prog_12_method_33_code 40 = .ok (.invokestatic 148, 3) := by decide +kernel
theorem d_TM_isCompared_43 : decode prog_12_method_33_code 43 = .ok (.iconst 4, 1) := by decide +kernel
theorem d_TM_isCompared_44 : decode prog_12_method_33_code 44 = .ok (.if_icmp .ne 7, 3) := by decide +kernel
theorem d_TM_isCompared_47 : decode prog_12_method_33_code 47 = .ok (.iconst 1, 1) := by decide +kernel
theorem d_TM_isCompared_48 : decode prog_12_method_33_code 48 = .ok (.goto 4, 3) := by decide +kernel
theorem d_TM_isCompared_51 : decode prog_12_method_33_code 51 = .ok (.iconst 0, 1) := by decide +kernel
theorem d_TM_isCompared_52 : decode prog_12_method_33_code 52 = .ok (.ireturn, 1) := by decide +kernel
theorem d_TM_rank_0 : decode prog_12_method_29_code 0 = .ok (.iload_n 0, 1) := by decide +kernel
theorem d_TM_rank_1 : decode prog_12_method_29_code 1 = .ok (.bipush 40, 2) := by decide +kernel
theorem d_TM_rank_3 : decode prog_12_method_29_code 3 = .ok (.if_icmp .lt 7, 3) := by decide +kernel
theorem d_TM_rank_6 : decode prog_12_method_29_code 6 = .ok (.iconst 0, 1) := by decide +kernel
theorem d_TM_rank_7 : decode prog_12_method_29_code 7 = .ok (.goto 66, 3) := by decide +kernel
theorem d_TM_rank_10 : decode prog_12_method_29_code 10 = .ok (.iload_n 0, 1) := by decide +kernel
theorem d_TM_rank_11 : decode prog_12_method_29_code 11 = .ok (.bipush 22, 2) := by decide +kernel
theorem d_TM_rank_13 : decode prog_12_method_29_code 13 = .ok (.if_icmp .ne 7, 3) := by decide +kernel
theorem d_TM_rank_16 : decode prog_12_method_29_code 16 = .ok (.iconst 1, 1) := by decide +kernel
theorem d_TM_rank_17 : decode prog_12_method_29_code 17 = .ok (.goto 56, 3) := by decide +kernel
theorem d_TM_rank_20 : decode prog_12_method_29_code 20 = .ok (.iload_n 0, 1) := by decide +kernel
theorem d_TM_rank_21 : decode prog_12_method_29_code 21 = .ok (.bipush 21, 2) := by decide +kernel
theorem d_TM_rank_23 : decode prog_12_method_29_code 23 = .ok (.if_icmp .ne 7, 3) := by decide +kernel
theorem d_TM_rank_26 : decode prog_12_method_29_code 26 = .ok (.iconst 2, 1) := by decide +kernel
theorem d_TM_rank_27 : decode prog_12_method_29_code 27 = .ok (.goto 46, 3) := by decide +kernel
theorem d_TM_rank_30 : decode prog_12_method_29_code 30 = .ok (.iload_n 0, 1) := by decide +kernel
theorem d_TM_rank_31 : decode prog_12_method_29_code 31 = .ok (.bipush 20, 2) := by decide +kernel
theorem d_TM_rank_33 : decode prog_12_method_29_code 33 = .ok (.if_icmp .ne 7, 3) := by decide +kernel
theorem d_TM_rank_36 : decode prog_12_method_29_code 36 = .ok (.iconst 3, 1) := by decide +kernel
theorem d_TM_rank_37 : decode prog_12_method_29_code 37 = .ok (.goto 36, 3) := by decide +kernel
theorem d_TM_rank_40 : decode prog_12_method_29_code 40 = .ok (.iload_n 0, 1) := by decide +kernel
theorem d_TM_rank_41 : decode prog_12_method_29_code 41 = .ok (.bipush 10, 2) := by decide +kernel
theorem d_TM_rank_43 : decode prog_12_method_29_code 43 = .ok (.if_icmp .lt 7, 3) := by decide +kernel
theorem d_TM_rank_46 : decode prog_12_method_29_code 46 = .ok (.iconst 4, 1) := by decide +kernel
theorem d_TM_rank_47 : decode prog_12_method_29_code 47 = .ok (.goto 26, 3) := by decide +kernel
theorem d_TM_rank_50 : decode prog_12_method_29_code 50 = .ok (.iload_n 0, 1) := by decide +kernel
theorem d_TM_rank_51 : decode prog_12_method_29_code 51 = .ok (.bipush 8, 2) := by decide +kernel
theorem d_TM_rank_53 : decode prog_12_method_29_code 53 = .ok (.if_icmp .lt 8, 3) := by decide +kernel
theorem d_TM_rank_56 : decode prog_12_method_29_code 56 = .ok (.bipush 6, 2) := by decide +kernel
theorem d_TM_rank_58 : decode prog_12_method_29_code 58 = .ok (.goto 15, 3) := by decide +kernel
theorem d_TM_rank_61 : decode prog_12_method_29_code 61 = .ok (.iload_n 0, 1) := by decide +kernel
theorem d_TM_rank_62 : decode prog_12_method_29_code 62 = .ok (.bipush 6, 2) := by decide +kernel
theorem d_TM_rank_64 : decode prog_12_method_29_code 64 = .ok (.if_icmp .lt 7, 3) := by decide +kernel
theorem d_TM_rank_67 : decode prog_12_method_29_code 67 = .ok (.iconst 5, 1) := by decide +kernel
theorem d_TM_rank_68 : decode prog_12_method_29_code 68 = .ok (.goto 5, 3) := by decide +kernel
theorem d_TM_rank_71 : decode prog_12_method_29_code 71 = .ok (.bipush 7, 2) := by decide +kernel
theorem d_TM_rank_73 : decode prog_12_method_29_code 73 = .ok (.ireturn, 1) := by decide +kernel
theorem d_TM_compareOf_0 : decode prog_12_method_37_code 0 = .ok (.aload_n 0, 1) := by decide +kernel
theorem d_TM_compareOf_1 : decode prog_12_method_37_code 1 = .ok (.getfield 94, 3) := by decide +kernel
theorem d_TM_compareOf_4 : decode prog_12_method_37_code 4 = .ok (.bipush 60, 2) := by decide +kernel
theorem d_TM_compareOf_6 : decode prog_12_method_37_code 6 = .ok (.if_icmp .ne 8, 3) := by decide +kernel
theorem d_TM_compareOf_9 : decode prog_12_method_37_code 9 = .ok (.bipush 10, 2) := by decide +kernel
theorem d_TM_compareOf_11 : decode prog_12_method_37_code 11 = .ok (.goto 72, 3) := by decide +kernel
theorem d_TM_compareOf_14 : decode prog_12_method_37_code 14 = .ok (.aload_n 0, 1) := by decide +kernel
theorem d_TM_compareOf_15 : decode prog_12_method_37_code 15 = .ok (.getfield 94, 3) := by decide +kernel
theorem d_TM_compareOf_18 : decode prog_12_method_37_code 18 = .ok (.iconst 4, 1) := by decide +kernel
theorem d_TM_compareOf_19 : decode prog_12_method_37_code 19 = .ok (.if_icmp .ne 8, 3) := by decide +kernel
theorem d_TM_compareOf_22 : decode prog_12_method_37_code 22 = .ok (.bipush 11, 2) := by decide +kernel
theorem d_TM_compareOf_24 : decode prog_12_method_37_code 24 = .ok (.goto 59, 3) := by decide +kernel
theorem d_TM_compareOf_27 : decode prog_12_method_37_code 27 = .ok (.aload_n 0, 1) := by decide +kernel
theorem d_TM_compareOf_28 : decode prog_12_method_37_code 28 = .ok (.getfield 94, 3) := by decide +kernel
theorem d_TM_compareOf_31 : decode prog_12_method_37_code 31 = .ok (.bipush 62, 2) := by decide +kernel
theorem d_TM_compareOf_33 : decode prog_12_method_37_code 33 = .ok (.if_icmp .ne 8, 3) := by decide +kernel
theorem d_TM_compareOf_36 : decode prog_12_method_37_code 36 = .ok (.bipush 12, 2) := by decide +kernel
theorem d_TM_compareOf_38 : decode prog_12_method_37_code 38 = .ok (.goto 45, 3) := by decide +kernel
theorem d_TM_compareOf_41 : decode prog_12_method_37_code 41 = .ok (.aload_n 0, 1) := by decide +kernel
theorem d_TM_compareOf_42 : decode prog_12_method_37_code 42 = .ok (.getfield 94, 3) := by decide +kernel
theorem d_TM_compareOf_45 : decode prog_12_method_37_code 45 = .ok (.iconst 5, 1) := by decide +kernel
theorem d_TM_compareOf_46 : decode prog_12_method_37_code 46 = .ok (.if_icmp .ne 8, 3) := by decide +kernel
theorem d_TM_compareOf_49 : decode prog_12_method_37_code 49 = .ok (.bipush 13, 2) := by decide +kernel
theorem d_TM_compareOf_51 : decode prog_12_method_37_code 51 = .ok (.goto 32, 3) := by decide +kernel
theorem d_TM_compareOf_54 : decode prog_12_method_37_code 54 = .ok (.aload_n 0, 1) := by decide +kernel
theorem d_TM_compareOf_55 : decode prog_12_method_37_code 55 = .ok (.getfield 94, 3) := by decide +kernel
theorem d_TM_compareOf_58 : decode prog_12_method_37_code 58 = .ok (.bipush 61, 2) := by decide +kernel
theorem d_TM_compareOf_60 : decode prog_12_method_37_code 60 = .ok (.if_icmp .ne 8, 3) := by decide +kernel
theorem d_TM_compareOf_63 : decode prog_12_method_37_code 63 = .ok (.bipush 14, 2) := by decide +kernel
theorem d_TM_compareOf_65 : decode prog_12_method_37_code 65 = .ok (.goto 18, 3) := by decide +kernel
theorem d_TM_compareOf_68 : decode prog_12_method_37_code 68 = .ok (.aload_n 0, 1) := by decide +kernel
theorem d_TM_compareOf_69 : decode prog_12_method_37_code 69 = .ok (.getfield 94, 3) := by decide +kernel
theorem d_TM_compareOf_72 : decode prog_12_method_37_code 72 = .ok (.bipush 35, 2) := by decide +kernel
theorem d_TM_compareOf_74 : decode prog_12_method_37_code 74 = .ok (.if_icmp .ne 8, 3) := by decide +kernel
theorem d_TM_compareOf_77 : decode prog_12_method_37_code 77 = .ok (.bipush 15, 2) := by decide +kernel
theorem d_TM_compareOf_79 : decode prog_12_method_37_code 79 = .ok (.goto 4, 3) := by decide +kernel
theorem d_TM_compareOf_82 : decode prog_12_method_37_code 82 = .ok (.iconst (-1), 1) := by decide +kernel
theorem d_TM_compareOf_83 : decode prog_12_method_37_code 83 = .ok (.ireturn, 1) := by decide +kernel
theorem d_TM_settle_0 : decode prog_12_method_30_code 0 = .ok (.aload_n 0, 1) := by decide +kernel
theorem d_TM_settle_1 : decode prog_12_method_30_code 1 = .ok (.getfield 145, 3) := by decide +kernel
theorem d_TM_settle_4 : decode prog_12_method_30_code 4 = .ok (.ifCond .le 89, 3) := by decide +kernel
theorem d_TM_settle_7 : decode prog_12_method_30_code 7 = .ok (.aload_n 0, 1) := by decide +kernel
theorem d_TM_settle_8 : decode prog_12_method_30_code 8 = .ok (.getfield 29, 3) := by decide +kernel
theorem d_TM_settle_11 : decode prog_12_method_30_code 11 = .ok (.aload_n 0, 1) := by decide +kernel
theorem d_TM_settle_12 : decode prog_12_method_30_code 12 = .ok (.getfield 145, 3) := by decide +kernel
theorem d_TM_settle_15 : decode prog_12_method_30_code 15 = .ok (.iconst 1, 1) := by decide +kernel
theorem d_TM_settle_16 : decode prog_12_method_30_code 16 = .ok (.isub, 1) := by decide +kernel
theorem d_TM_settle_17 : decode prog_12_method_30_code 17 = .ok (.iaload, 1) := by decide +kernel
theorem d_TM_settle_18 : decode prog_12_method_30_code 18 = .ok (.invokestatic 148, 3) := by decide +kernel
theorem d_TM_settle_21 : decode prog_12_method_30_code 21 = .ok (.iload_n 1, 1) := by decide +kernel
theorem d_TM_settle_22 : decode prog_12_method_30_code 22 = .ok (.if_icmp .lt 71, 3) := by decide +kernel
theorem d_TM_settle_25 : decode prog_12_method_30_code 25 = .ok (.aload_n 0, 1) := by decide +kernel
theorem d_TM_settle_26 : decode prog_12_method_30_code 26 = .ok (.dup, 1) := by decide +kernel
theorem d_TM_settle_27 : decode prog_12_method_30_code 27 = .ok (.getfield 145, 3) := by decide +kernel
theorem d_TM_settle_30 : decode prog_12_method_30_code 30 = .ok (.iconst 1, 1) := by decide +kernel
theorem d_TM_settle_31 : decode prog_12_method_30_code 31 = .ok (.isub, 1) := by decide +kernel
theorem d_TM_settle_32 : decode prog_12_method_30_code 32 = .ok (.putfield 145, 3) := by decide +kernel
theorem d_TM_settle_35 : decode prog_12_method_30_code 35 = .ok (.aload_n 0, 1) := by decide +kernel
theorem d_TM_settle_36 : decode prog_12_method_30_code 36 = .ok (.aload_n 0, 1) := by decide +kernel
theorem d_TM_settle_37 : decode prog_12_method_30_code 37 = .ok (.getfield 29, 3) := by decide +kernel
theorem d_TM_settle_40 : decode prog_12_method_30_code 40 = .ok (.aload_n 0, 1) := by decide +kernel
theorem d_TM_settle_41 : decode prog_12_method_30_code 41 = .ok (.getfield 145, 3) := by decide +kernel
theorem d_TM_settle_44 : decode prog_12_method_30_code 44 = .ok (.iaload, 1) := by decide +kernel
theorem d_TM_settle_45 : decode prog_12_method_30_code 45 = .ok (.iconst 0, 1) := by decide +kernel
theorem d_TM_settle_46 : decode prog_12_method_30_code 46 = .ok (.invokevirtual 151, 3) := by decide +kernel
theorem d_TM_settle_49 : decode prog_12_method_30_code 49 = .ok (.aload_n 0, 1) := by decide +kernel
theorem d_TM_settle_50 : decode prog_12_method_30_code 50 = .ok (.getfield 29, 3) := by decide +kernel
theorem d_TM_settle_53 : decode prog_12_method_30_code 53 = .ok (.aload_n 0, 1) := by decide +kernel
theorem d_TM_settle_54 : decode prog_12_method_30_code 54 = .ok (.getfield 145, 3) := by decide +kernel
theorem d_TM_settle_57 : decode prog_12_method_30_code 57 = .ok (.iaload, 1) := by decide +kernel
theorem d_TM_settle_58 : decode prog_12_method_30_code 58 = .ok (.invokestatic 148, 3) := by decide +kernel
theorem d_TM_settle_61 : decode prog_12_method_30_code 61 = .ok (.bipush 7, 2) := by decide +kernel
theorem d_TM_settle_63 : decode prog_12_method_30_code 63 = .ok (.if_icmp .eq 17, 3) := by decide +kernel
theorem d_TM_settle_66 : decode prog_12_method_30_code 66 = .ok (.aload_n 0, 1) := by decide +kernel
theorem d_TM_settle_67 : decode prog_12_method_30_code 67 = .ok (.getfield 29, 3) := by decide +kernel
theorem d_TM_settle_70 : decode prog_12_method_30_code 70 = .ok (.aload_n 0, 1) := by decide +kernel
theorem d_TM_settle_71 : decode prog_12_method_30_code 71 = .ok (.getfield 145, 3) := by decide +kernel
theorem d_TM_settle_74 : decode prog_12_method_30_code 74 = .ok (.iaload, 1) := by decide +kernel
theorem d_TM_settle_75 : decode prog_12_method_30_code 75 = .ok (.bipush 20, 2) := by decide +kernel
theorem d_TM_settle_77 : decode prog_12_method_30_code 77 = .ok (.if_icmp .ne (-77), 3) := by decide +kernel
theorem d_TM_settle_80 : decode prog_12_method_30_code 80 = .ok (.aload_n 0, 1) := by decide +kernel
theorem d_TM_settle_81 : decode prog_12_method_30_code 81 = .ok (.dup, 1) := by decide +kernel
theorem d_TM_settle_82 : decode prog_12_method_30_code 82 = .ok (.getfield 155, 3) := by decide +kernel
theorem d_TM_settle_85 : decode prog_12_method_30_code 85 = .ok (.iconst 1, 1) := by decide +kernel
theorem d_TM_settle_86 : decode prog_12_method_30_code 86 = .ok (.isub, 1) := by decide +kernel
theorem d_TM_settle_87 : decode prog_12_method_30_code 87 = .ok (.putfield 155, 3) := by decide +kernel
theorem d_TM_settle_90 : decode prog_12_method_30_code 90 = .ok (.goto (-90), 3) := by decide +kernel
theorem d_TM_settle_93 : decode prog_12_method_30_code 93 = .ok (.return_, 1) := by decide +kernel
theorem d_TM_emit_0 : decode prog_12_method_26_code 0 = .ok (.aload_n 0, 1) := by decide +kernel
theorem d_TM_emit_1 : decode prog_12_method_26_code 1 = .ok (.getfield 16, 3) := by decide +kernel
theorem d_TM_emit_4 : decode prog_12_method_26_code 4 = .ok (.aload_n 0, 1) := by decide +kernel
theorem d_TM_emit_5 : decode prog_12_method_26_code 5 = .ok (.getfield 132, 3) := by decide +kernel
theorem d_TM_emit_8 : decode prog_12_method_26_code 8 = .ok (.bipush 73, 2) := by decide +kernel
theorem d_TM_emit_10 : decode prog_12_method_26_code 10 = .ok (.iadd, 1) := by decide +kernel
theorem d_TM_emit_11 : decode prog_12_method_26_code 11 = .ok (.iconst 2, 1) := by decide +kernel
theorem d_TM_emit_12 : decode prog_12_method_26_code 12 = .ok (.aload_n 0, 1) := by decide +kernel
theorem d_TM_emit_13 : decode prog_12_method_26_code 13 = .ok (.getfield 135, 3) := by decide +kernel
theorem d_TM_emit_16 : decode prog_12_method_26_code 16 = .ok (.imul, 1) := by decide +kernel
theorem d_TM_emit_17 : decode prog_12_method_26_code 17 = .ok (.iadd, 1) := by decide +kernel
theorem d_TM_emit_18 : decode prog_12_method_26_code 18 = .ok (.iload_n 1, 1) := by decide +kernel
theorem d_TM_emit_19 : decode prog_12_method_26_code 19 = .ok (.iastore, 1) := by decide +kernel
theorem d_TM_emit_20 : decode prog_12_method_26_code 20 = .ok (.aload_n 0, 1) := by decide +kernel
theorem d_TM_emit_21 : decode prog_12_method_26_code 21 = .ok (.getfield 16, 3) := by decide +kernel
theorem d_TM_emit_24 : decode prog_12_method_26_code 24 = .ok (.aload_n 0, 1) := by decide +kernel
theorem d_TM_emit_25 : decode prog_12_method_26_code 25 = .ok (.getfield 132, 3) := by decide +kernel
theorem d_TM_emit_28 : decode prog_12_method_26_code 28 = .ok (.bipush 73, 2) := by decide +kernel
theorem d_TM_emit_30 : decode prog_12_method_26_code 30 = .ok (.iadd, 1) := by decide +kernel
theorem d_TM_emit_31 : decode prog_12_method_26_code 31 = .ok (.iconst 2, 1) := by decide +kernel
theorem d_TM_emit_32 : decode prog_12_method_26_code 32 = .ok (.aload_n 0, 1) := by decide +kernel
theorem d_TM_emit_33 : decode prog_12_method_26_code 33 = .ok (.getfield 135, 3) := by decide +kernel
theorem d_TM_emit_36 : decode prog_12_method_26_code 36 = .ok (.imul, 1) := by decide +kernel
theorem d_TM_emit_37 : decode prog_12_method_26_code 37 = .ok (.iadd, 1) := by decide +kernel
theorem d_TM_emit_38 : decode prog_12_method_26_code 38 = .ok (.iconst 1, 1) := by decide +kernel
theorem d_TM_emit_39 : decode prog_12_method_26_code 39 = .ok (.iadd, 1) := by decide +kernel
theorem d_TM_emit_40 : decode prog_12_method_26_code 40 = .ok (.iload_n 2, 1) := by decide +kernel
theorem d_TM_emit_41 : decode prog_12_method_26_code 41 = .ok (.iastore, 1) := by decide +kernel
theorem d_TM_emit_42 : decode prog_12_method_26_code 42 = .ok (.aload_n 0, 1) := by decide +kernel
theorem d_TM_emit_43 : decode prog_12_method_26_code 43 = .ok (.dup, 1) := by decide +kernel
theorem d_TM_emit_44 : decode prog_12_method_26_code 44 = .ok (.getfield 135, 3) := by decide +kernel
theorem d_TM_emit_47 : decode prog_12_method_26_code 47 = .ok (.iconst 1, 1) := by decide +kernel
theorem d_TM_emit_48 : decode prog_12_method_26_code 48 = .ok (.iadd, 1) := by decide +kernel
theorem d_TM_emit_49 : decode prog_12_method_26_code 49 = .ok (.putfield 135, 3) := by decide +kernel
theorem d_TM_emit_52 : decode prog_12_method_26_code 52 = .ok (.return_, 1) := by decide +kernel
theorem d_TM_partOf_0 : decode prog_12_method_39_code 0 = .ok (.iload_n 1, 1) := by decide +kernel
theorem d_TM_partOf_1 : decode prog_12_method_39_code 1 = .ok (.tableswitch 125 40 43 #[31, 46, 78, 103], 31) := by decide +kernel
theorem d_TM_partOf_32 : decode prog_12_method_39_code 32 = .ok (.aload_n 0, 1) := by decide +kernel
theorem d_TM_partOf_33 : decode prog_12_method_39_code 33 = .ok (.getfield 94, 3) := by decide +kernel
theorem d_TM_partOf_36 : decode prog_12_method_39_code 36 = .ok (.bipush 41, 2) := by decide +kernel
theorem d_TM_partOf_38 : decode prog_12_method_39_code 38 = .ok (.if_icmp .ne 7, 3) := by decide +kernel
theorem d_TM_partOf_41 : decode prog_12_method_39_code 41 = .ok (.iconst 0, 1) := by decide +kernel
theorem d_TM_partOf_42 : decode prog_12_method_39_code 42 = .ok (.goto 4, 3) := by decide +kernel
theorem d_TM_partOf_45 : decode prog_12_method_39_code 45 = .ok (.iconst (-1), 1) := by decide +kernel
theorem d_TM_partOf_46 : decode prog_12_method_39_code 46 = .ok (.ireturn, 1) := by decide +kernel
theorem d_TM_partOf_47 : decode prog_12_method_39_code 47 = .ok (.aload_n 0, 1) := by decide +kernel
theorem d_TM_partOf_48 : decode prog_12_method_39_code 48 = .ok (.bipush 116, 2) := by decide +kernel
theorem d_TM_partOf_50 : decode prog_12_method_39_code 50 = .ok (.bipush 104, 2) := by decide +kernel
theorem d_TM_partOf_52 : decode prog_12_method_39_code 52 = .ok (.bipush 101, 2) := by decide +kernel
theorem d_TM_partOf_54 : decode prog_12_method_39_code 54 = .ok (.bipush 110, 2) := by decide +kernel
theorem d_TM_partOf_56 : decode prog_12_method_39_code 56 = .ok (.invokestatic 124, 3) := by decide +kernel
theorem d_TM_partOf_59 : decode prog_12_method_39_code 59 = .ok (.invokevirtual 183, 3) := by decide +kernel
theorem d_TM_partOf_62 : decode prog_12_method_39_code 62 = .ok (.ifCond .eq 15, 3) := by decide +kernel
theorem d_TM_partOf_65 : decode prog_12_method_39_code 65 = .ok (.aload_n 0, 1) := by decide +kernel
theorem d_TM_partOf_66 : decode prog_12_method_39_code 66 = .ok (.invokevirtual 191, 3) := by decide +kernel
theorem d_TM_partOf_69 : decode prog_12_method_39_code 69 = .ok (.ifCond .eq 8, 3) := by decide +kernel
theorem d_TM_partOf_72 : decode prog_12_method_39_code 72 = .ok (.bipush 42, 2) := by decide +kernel
theorem d_TM_partOf_74 : decode prog_12_method_39_code 74 = .ok (.goto 4, 3) := by decide +kernel
theorem d_TM_partOf_77 : decode prog_12_method_39_code 77 = .ok (.iconst (-1), 1) := by decide +kernel
theorem d_TM_partOf_78 : decode prog_12_method_39_code 78 = .ok (.ireturn, 1) := by decide +kernel
theorem d_TM_partOf_79 : decode prog_12_method_39_code 79 = .ok (.aload_n 0, 1) := by decide +kernel
theorem d_TM_partOf_80 : decode prog_12_method_39_code 80 = .ok (.bipush 101, 2) := by decide +kernel
theorem d_TM_partOf_82 : decode prog_12_method_39_code 82 = .ok (.bipush 108, 2) := by decide +kernel
theorem d_TM_partOf_84 : decode prog_12_method_39_code 84 = .ok (.bipush 115, 2) := by decide +kernel
theorem d_TM_partOf_86 : decode prog_12_method_39_code 86 = .ok (.bipush 101, 2) := by decide +kernel
theorem d_TM_partOf_88 : decode prog_12_method_39_code 88 = .ok (.invokestatic 124, 3) := by decide +kernel
theorem d_TM_partOf_91 : decode prog_12_method_39_code 91 = .ok (.invokevirtual 183, 3) := by decide +kernel
theorem d_TM_partOf_94 : decode prog_12_method_39_code 94 = .ok (.ifCond .eq 8, 3) := by decide +kernel
theorem d_TM_partOf_97 : decode prog_12_method_39_code 97 = .ok (.bipush 43, 2) := by decide +kernel
theorem d_TM_partOf_99 : decode prog_12_method_39_code 99 = .ok (.goto 4, 3) := by decide +kernel
theorem d_TM_partOf_102 : decode prog_12_method_39_code 102 = .ok (.iconst (-1), 1) := by decide +kernel
theorem d_TM_partOf_103 : decode prog_12_method_39_code 103 = .ok (.ireturn, 1) := by decide +kernel
theorem d_TM_partOf_104 : decode prog_12_method_39_code 104 = .ok (.aload_n 0, 1) := by decide +kernel
theorem d_TM_partOf_105 : decode prog_12_method_39_code 105 = .ok (.bipush 101, 2) := by decide +kernel
theorem d_TM_partOf_107 : decode prog_12_method_39_code 107 = .ok (.bipush 110, 2) := by decide +kernel
theorem d_TM_partOf_109 : decode prog_12_method_39_code 109 = .ok (.bipush 100, 2) := by decide +kernel
theorem d_TM_partOf_111 : decode prog_12_method_39_code 111 = .ok (.invokestatic 120, 3) := by decide +kernel
theorem d_TM_partOf_114 : decode prog_12_method_39_code 114 = .ok (.invokevirtual 183, 3) := by decide +kernel
theorem d_TM_partOf_117 : decode prog_12_method_39_code 117 = .ok (.ifCond .eq 7, 3) := by decide +kernel
theorem d_TM_partOf_120 : decode prog_12_method_39_code 120 = .ok (.iconst 0, 1) := by decide +kernel
theorem d_TM_partOf_121 : decode prog_12_method_39_code 121 = .ok (.goto 4, 3) := by decide +kernel
theorem d_TM_partOf_124 : decode prog_12_method_39_code 124 = .ok (.iconst (-1), 1) := by decide +kernel
theorem d_TM_partOf_125 : decode prog_12_method_39_code 125 = .ok (.ireturn, 1) := by decide +kernel
theorem d_TM_partOf_126 : decode prog_12_method_39_code 126 = .ok (.iconst (-1), 1) := by decide +kernel
theorem d_TM_partOf_127 : decode prog_12_method_39_code 127 = .ok (.ireturn, 1) := by decide +kernel
theorem d_TM_beginOne_0 : decode prog_12_method_36_code 0 = .ok (.aload_n 0, 1) := by decide +kernel
theorem d_TM_beginOne_1 : decode prog_12_method_36_code 1 = .ok (.getfield 94, 3) := by decide +kernel
theorem d_TM_beginOne_4 : decode prog_12_method_36_code 4 = .ok (.iconst 1, 1) := by decide +kernel
theorem d_TM_beginOne_5 : decode prog_12_method_36_code 5 = .ok (.if_icmp .ne 15, 3) := by decide +kernel
theorem d_TM_beginOne_8 : decode prog_12_method_36_code 8 = .ok (.aload_n 0, 1) := by decide +kernel
theorem d_TM_beginOne_9 : decode prog_12_method_36_code 9 = .ok (.getfield 100, 3) := by decide +kernel
theorem d_TM_beginOne_12 : decode prog_12_method_36_code 12 = .ok (.sipush 9999, 3) := by decide +kernel
theorem d_TM_beginOne_15 : decode prog_12_method_36_code 15 = .ok (.if_icmp .le 5, 3) := by decide +kernel
theorem d_TM_beginOne_18 : decode prog_12_method_36_code 18 = .ok (.iconst 2, 1) := by decide +kernel
theorem d_TM_beginOne_19 : decode prog_12_method_36_code 19 = .ok (.ireturn, 1) := by decide +kernel
theorem d_TM_beginOne_20 : decode prog_12_method_36_code 20 = .ok (.aload_n 0, 1) := by decide +kernel
theorem d_TM_beginOne_21 : decode prog_12_method_36_code 21 = .ok (.invokevirtual 168, 3) := by decide +kernel
theorem d_TM_beginOne_24 : decode prog_12_method_36_code 24 = .ok (.istore_n 1, 1) := by decide +kernel
theorem d_TM_beginOne_25 : decode prog_12_method_36_code 25 = .ok (.iload_n 1, 1) := by decide +kernel
theorem d_TM_beginOne_26 : decode prog_12_method_36_code 26 = .ok (.ifCond .lt 13, 3) := by decide +kernel
theorem d_TM_beginOne_29 : decode prog_12_method_36_code 29 = .ok (.aload_n 0, 1) := by decide +kernel
theorem d_TM_beginOne_30 : decode prog_12_method_36_code 30 = .ok (.iload_n 1, 1) := by decide +kernel
theorem d_TM_beginOne_31 : decode prog_12_method_36_code 31 = .ok (.invokevirtual 171, 3) := by decide +kernel
theorem d_TM_beginOne_34 : decode prog_12_method_36_code 34 = .ok (.ifCond .ne 5, 3) := by decide +kernel
theorem d_TM_beginOne_37 : decode prog_12_method_36_code 37 = .ok (.iconst 5, 1) := by decide +kernel
theorem d_TM_beginOne_38 : decode prog_12_method_36_code 38 = .ok (.ireturn, 1) := by decide +kernel
theorem d_TM_beginOne_39 : decode prog_12_method_36_code 39 = .ok (.aload_n 0, 1) := by decide +kernel
theorem d_TM_beginOne_40 : decode prog_12_method_36_code 40 = .ok (.getfield 94, 3) := by decide +kernel
theorem d_TM_beginOne_43 : decode prog_12_method_36_code 43 = .ok (.iconst 1, 1) := by decide +kernel
theorem d_TM_beginOne_44 : decode prog_12_method_36_code 44 = .ok (.if_icmp .eq 7, 3) := by decide +kernel
theorem d_TM_beginOne_47 : decode prog_12_method_36_code 47 = .ok (.iload_n 1, 1) := by decide +kernel
theorem d_TM_beginOne_48 : decode prog_12_method_36_code 48 = .ok (.ifCond .lt 53, 3) := by decide +kernel
theorem d_TM_beginOne_51 : decode prog_12_method_36_code 51 = .ok (.aload_n 0, 1) := by decide +kernel
theorem d_TM_beginOne_52 : decode prog_12_method_36_code 52 = .ok (.aload_n 0, 1) := by decide +kernel
theorem d_TM_beginOne_53 : decode prog_12_method_36_code 53 = .ok (.getfield 94, 3) := by decide +kernel
theorem d_TM_beginOne_56 : decode prog_12_method_36_code 56 = .ok (.iconst 1, 1) := by decide +kernel
theorem d_TM_beginOne_57 : decode prog_12_method_36_code 57 = .ok (.if_icmp .ne 7, 3) := by decide +kernel
theorem d_TM_beginOne_60 : decode prog_12_method_36_code 60 = .ok (.iconst 0, 1) := by decide +kernel
theorem d_TM_beginOne_61 : decode prog_12_method_36_code 61 = .ok (.goto 4, 3) := by decide +kernel
theorem d_TM_beginOne_64 : decode prog_12_method_36_code 64 = .ok (.iconst 1, 1) := by decide +kernel
theorem d_TM_beginOne_65 : decode prog_12_method_36_code 65 = .ok (.aload_n 0, 1) := by decide +kernel
theorem d_TM_beginOne_66 : decode prog_12_method_36_code 66 = .ok (.getfield 94, 3) := by decide +kernel
theorem d_TM_beginOne_69 : decode prog_12_method_36_code 69 = .ok (.iconst 1, 1) := by decide +kernel
theorem d_TM_beginOne_70 : decode prog_12_method_36_code 70 = .ok (.if_icmp .ne 10, 3) := by decide +kernel
theorem d_TM_beginOne_73 : decode prog_12_method_36_code 73 = .ok (.aload_n 0, 1) := by decide +kernel
theorem d_TM_beginOne_74 : decode prog_12_method_36_code 74 = .ok (.getfield 100, 3) := by decide +kernel
theorem d_TM_beginOne_77 : decode prog_12_method_36_code 77 = .ok (.goto 4, 3) := by decide +kernel
theorem d_TM_beginOne_80 : decode prog_12_method_36_code 80 = .ok (.iload_n 1, 1) := by decide +kernel
theorem d_TM_beginOne_81 : decode prog_12_method_36_code 81 = .ok (.invokevirtual 151, 3) := by decide +kernel
theorem d_TM_beginOne_84 : decode prog_12_method_36_code 84 = .ok (.aload_n 0, 1) := by decide +kernel
theorem d_TM_beginOne_85 : decode prog_12_method_36_code 85 = .ok (.invokevirtual 165, 3) := by decide +kernel
theorem d_TM_beginOne_88 : decode prog_12_method_36_code 88 = .ok (.aload_n 0, 1) := by decide +kernel
theorem d_TM_beginOne_89 : decode prog_12_method_36_code 89 = .ok (.iconst 1, 1) := by decide +kernel
theorem d_TM_beginOne_90 : decode prog_12_method_36_code 90 = .ok (.putfield 174, 3) := by decide +kernel
theorem d_TM_beginOne_93 : decode prog_12_method_36_code 93 = .ok (.aload_n 0, 1) := by decide +kernel
theorem d_TM_beginOne_94 : decode prog_12_method_36_code 94 = .ok (.bipush 7, 2) := by decide +kernel
theorem d_TM_beginOne_96 : decode prog_12_method_36_code 96 = .ok (.invokevirtual 177, 3) := by decide +kernel
theorem d_TM_beginOne_99 : decode prog_12_method_36_code 99 = .ok (.iconst 0, 1) := by decide +kernel
theorem d_TM_beginOne_100 : decode prog_12_method_36_code 100 = .ok (.ireturn, 1) := by decide +kernel
theorem d_TM_beginOne_101 : decode prog_12_method_36_code 101 = .ok (.aload_n 0, 1) := by decide +kernel
theorem d_TM_beginOne_102 : decode prog_12_method_36_code 102 = .ok (.getfield 94, 3) := by decide +kernel
theorem d_TM_beginOne_105 : decode prog_12_method_36_code 105 = .ok (.bipush 40, 2) := by decide +kernel
theorem d_TM_beginOne_107 : decode prog_12_method_36_code 107 = .ok (.if_icmp .ne 10, 3) := by decide +kernel
theorem d_TM_beginOne_110 : decode prog_12_method_36_code 110 = .ok (.aload_n 0, 1) := by decide +kernel
theorem d_TM_beginOne_111 : decode prog_12_method_36_code 111 = .ok (.bipush 40, 2) := by decide +kernel
theorem d_TM_beginOne_113 : decode prog_12_method_36_code 113 = .ok (.invokevirtual 180, 3) := by decide +kernel
theorem d_TM_beginOne_116 : decode prog_12_method_36_code 116 = .ok (.ireturn, 1) := by decide +kernel
theorem d_TM_beginOne_117 : decode prog_12_method_36_code 117 = .ok (.aload_n 0, 1) := by decide +kernel
theorem d_TM_beginOne_118 : decode prog_12_method_36_code 118 = .ok (.getfield 94, 3) := by decide +kernel
theorem d_TM_beginOne_121 : decode prog_12_method_36_code 121 = .ok (.bipush 45, 2) := by decide +kernel
theorem d_TM_beginOne_123 : decode prog_12_method_36_code 123 = .ok (.if_icmp .ne 9, 3) := by decide +kernel
theorem d_TM_beginOne_126 : decode prog_12_method_36_code 126 = .ok (.aload_n 0, 1) := by decide +kernel
theorem d_TM_beginOne_127 : decode prog_12_method_36_code 127 = .ok (.iconst 5, 1) := by decide +kernel
theorem d_TM_beginOne_128 : decode prog_12_method_36_code 128 = .ok (.invokevirtual 180, 3) := by decide +kernel
theorem d_TM_beginOne_131 : decode prog_12_method_36_code 131 = .ok (.ireturn, 1) := by decide +kernel
theorem d_TM_beginOne_132 : decode prog_12_method_36_code 132 = .ok (.aload_n 0, 1) := by decide +kernel
theorem d_TM_beginOne_133 : decode prog_12_method_36_code 133 = .ok (.bipush 108, 2) := by decide +kernel
theorem d_TM_beginOne_135 : decode prog_12_method_36_code 135 = .ok (.bipush 101, 2) := by decide +kernel
theorem d_TM_beginOne_137 : decode prog_12_method_36_code 137 = .ok (.bipush 97, 2) := by decide +kernel
theorem d_TM_beginOne_139 : decode prog_12_method_36_code 139 = .ok (.bipush 110, 2) := by decide +kernel
theorem d_TM_beginOne_141 : decode prog_12_method_36_code 141 = .ok (.invokestatic 124, 3) := by decide +kernel
theorem d_TM_beginOne_144 : decode prog_12_method_36_code 144 = .ok (.invokevirtual 183, 3) := by decide +kernel
theorem d_TM_beginOne_147 : decode prog_12_method_36_code 147 = .ok (.ifCond .eq 9, 3) := by decide +kernel
theorem d_TM_beginOne_150 : decode prog_12_method_36_code 150 = .ok (.aload_n 0, 1) := by decide +kernel
theorem d_TM_beginOne_151 : decode prog_12_method_36_code 151 = .ok (.iconst 2, 1) := by decide +kernel
theorem d_TM_beginOne_152 : decode prog_12_method_36_code 152 = .ok (.invokevirtual 180, 3) := by decide +kernel
theorem d_TM_beginOne_155 : decode prog_12_method_36_code 155 = .ok (.ireturn, 1) := by decide +kernel
theorem d_TM_beginOne_156 : decode prog_12_method_36_code 156 = .ok (.aload_n 0, 1) := by decide +kernel
theorem d_TM_beginOne_157 : decode prog_12_method_36_code 157 = .ok (.bipush 115, 2) := by decide +kernel
theorem d_TM_beginOne_159 : decode prog_12_method_36_code 159 = .ok (.bipush 97, 2) := by decide +kernel
theorem d_TM_beginOne_161 : decode prog_12_method_36_code 161 = .ok (.bipush 105, 2) := by decide +kernel
theorem d_TM_beginOne_163 : decode prog_12_method_36_code 163 = .ok (.bipush 100, 2) := by decide +kernel
theorem d_TM_beginOne_165 : decode prog_12_method_36_code 165 = .ok (.invokestatic 124, 3) := by decide +kernel
theorem d_TM_beginOne_168 : decode prog_12_method_36_code 168 = .ok (.invokevirtual 183, 3) := by decide +kernel
theorem d_TM_beginOne_171 : decode prog_12_method_36_code 171 = .ok (.ifCond .eq 9, 3) := by decide +kernel
theorem d_TM_beginOne_174 : decode prog_12_method_36_code 174 = .ok (.aload_n 0, 1) := by decide +kernel
theorem d_TM_beginOne_175 : decode prog_12_method_36_code 175 = .ok (.iconst 4, 1) := by decide +kernel
theorem d_TM_beginOne_176 : decode prog_12_method_36_code 176 = .ok (.invokevirtual 180, 3) := by decide +kernel
theorem d_TM_beginOne_179 : decode prog_12_method_36_code 179 = .ok (.ireturn, 1) := by decide +kernel
theorem d_TM_beginOne_180 : decode prog_12_method_36_code 180 = .ok (.aload_n 0, 1) := by decide +kernel
theorem d_TM_beginOne_181 : decode prog_12_method_36_code 181 = .ok (.bipush 105, 2) := by decide +kernel
theorem d_TM_beginOne_183 : decode prog_12_method_36_code 183 = .ok (.bipush 102, 2) := by decide +kernel
theorem d_TM_beginOne_185 : decode prog_12_method_36_code 185 = .ok (.invokestatic 116, 3) := by decide +kernel
theorem d_TM_beginOne_188 : decode prog_12_method_36_code 188 = .ok (.invokevirtual 183, 3) := by decide +kernel
theorem d_TM_beginOne_191 : decode prog_12_method_36_code 191 = .ok (.ifCond .eq 10, 3) := by decide +kernel
theorem d_TM_beginOne_194 : decode prog_12_method_36_code 194 = .ok (.aload_n 0, 1) := by decide +kernel
theorem d_TM_beginOne_195 : decode prog_12_method_36_code 195 = .ok (.bipush 41, 2) := by decide +kernel
theorem d_TM_beginOne_197 : decode prog_12_method_36_code 197 = .ok (.invokevirtual 180, 3) := by decide +kernel
theorem d_TM_beginOne_200 : decode prog_12_method_36_code 200 = .ok (.ireturn, 1) := by decide +kernel
theorem d_TM_beginOne_201 : decode prog_12_method_36_code 201 = .ok (.aload_n 0, 1) := by decide +kernel
theorem d_TM_beginOne_202 : decode prog_12_method_36_code 202 = .ok (.bipush 110, 2) := by decide +kernel
theorem d_TM_beginOne_204 : decode prog_12_method_36_code 204 = .ok (.bipush 111, 2) := by decide +kernel
theorem d_TM_beginOne_206 : decode prog_12_method_36_code 206 = .ok (.bipush 116, 2) := by decide +kernel
theorem d_TM_beginOne_208 : decode prog_12_method_36_code 208 = .ok (.invokestatic 120, 3) := by decide +kernel
theorem d_TM_beginOne_211 : decode prog_12_method_36_code 211 = .ok (.invokevirtual 183, 3) := by decide +kernel
theorem d_TM_beginOne_214 : decode prog_12_method_36_code 214 = .ok (.ifCond .eq 19, 3) := by decide +kernel
theorem d_TM_beginOne_217 : decode prog_12_method_36_code 217 = .ok (.aload_n 0, 1) := by decide +kernel
theorem d_TM_beginOne_218 : decode prog_12_method_36_code 218 = .ok (.invokevirtual 187, 3) := by decide +kernel
theorem d_TM_beginOne_221 : decode prog_12_method_36_code 221 = .ok (.ifCond .eq 12, 3) := by decide +kernel
theorem d_TM_beginOne_224 : decode prog_12_method_36_code 224 = .ok (.aload_n 0, 1) := by decide +kernel
theorem d_TM_beginOne_225 : decode prog_12_method_36_code 225 = .ok (.bipush 20, 2) := by decide +kernel
theorem d_TM_beginOne_227 : decode prog_12_method_36_code 227 = .ok (.invokevirtual 180, 3) := by decide +kernel
theorem d_TM_beginOne_230 : decode prog_12_method_36_code 230 = .ok (.goto 4, 3) := by decide +kernel
theorem d_TM_beginOne_233 : decode prog_12_method_36_code 233 = .ok (.iconst 1, 1) := by decide +kernel
theorem d_TM_beginOne_234 : decode prog_12_method_36_code 234 = .ok (.ireturn, 1) := by decide +kernel
theorem d_TM_nameOf_0 : decode prog_12_method_27_code 0 = .ok (.aload_n 0, 1) := by decide +kernel
theorem d_TM_nameOf_1 : decode prog_12_method_27_code 1 = .ok (.getfield 94, 3) := by decide +kernel
theorem d_TM_nameOf_4 : decode prog_12_method_27_code 4 = .ok (.iconst 2, 1) := by decide +kernel
theorem d_TM_nameOf_5 : decode prog_12_method_27_code 5 = .ok (.if_icmp .eq 5, 3) := by decide +kernel
theorem d_TM_nameOf_8 : decode prog_12_method_27_code 8 = .ok (.iconst (-1), 1) := by decide +kernel
theorem d_TM_nameOf_9 : decode prog_12_method_27_code 9 = .ok (.ireturn, 1) := by decide +kernel
theorem d_TM_nameOf_10 : decode prog_12_method_27_code 10 = .ok (.aload_n 0, 1) := by decide +kernel
theorem d_TM_nameOf_11 : decode prog_12_method_27_code 11 = .ok (.getfield 107, 3) := by decide +kernel
theorem d_TM_nameOf_14 : decode prog_12_method_27_code 14 = .ok (.bipush 114, 2) := by decide +kernel
theorem d_TM_nameOf_16 : decode prog_12_method_27_code 16 = .ok (.bipush 111, 2) := by decide +kernel
theorem d_TM_nameOf_18 : decode prog_12_method_27_code 18 = .ok (.bipush 117, 2) := by decide +kernel
theorem d_TM_nameOf_20 : decode prog_12_method_27_code 20 = .ok (.bipush 110, 2) := by decide +kernel
theorem d_TM_nameOf_22 : decode prog_12_method_27_code 22 = .ok (.bipush 100, 2) := by decide +kernel
theorem d_TM_nameOf_24 : decode prog_12_method_27_code 24 = .ok (.invokestatic 128, 3) := by decide +kernel
theorem d_TM_nameOf_27 : decode prog_12_method_27_code 27 = .ok (.lcmp, 1) := by decide +kernel
theorem d_TM_nameOf_28 : decode prog_12_method_27_code 28 = .ok (.ifCond .ne 5, 3) := by decide +kernel
theorem d_TM_nameOf_31 : decode prog_12_method_27_code 31 = .ok (.iconst 0, 1) := by decide +kernel
theorem d_TM_nameOf_32 : decode prog_12_method_27_code 32 = .ok (.ireturn, 1) := by decide +kernel
theorem d_TM_nameOf_33 : decode prog_12_method_27_code 33 = .ok (.aload_n 0, 1) := by decide +kernel
theorem d_TM_nameOf_34 : decode prog_12_method_27_code 34 = .ok (.getfield 107, 3) := by decide +kernel
theorem d_TM_nameOf_37 : decode prog_12_method_27_code 37 = .ok (.bipush 119, 2) := by decide +kernel
theorem d_TM_nameOf_39 : decode prog_12_method_27_code 39 = .ok (.bipush 104, 2) := by decide +kernel
theorem d_TM_nameOf_41 : decode prog_12_method_27_code 41 = .ok (.bipush 111, 2) := by decide +kernel
theorem d_TM_nameOf_43 : decode prog_12_method_27_code 43 = .ok (.invokestatic 120, 3) := by decide +kernel
theorem d_TM_nameOf_46 : decode prog_12_method_27_code 46 = .ok (.lcmp, 1) := by decide +kernel
theorem d_TM_nameOf_47 : decode prog_12_method_27_code 47 = .ok (.ifCond .ne 5, 3) := by decide +kernel
theorem d_TM_nameOf_50 : decode prog_12_method_27_code 50 = .ok (.iconst 1, 1) := by decide +kernel
theorem d_TM_nameOf_51 : decode prog_12_method_27_code 51 = .ok (.ireturn, 1) := by decide +kernel
theorem d_TM_nameOf_52 : decode prog_12_method_27_code 52 = .ok (.aload_n 0, 1) := by decide +kernel
theorem d_TM_nameOf_53 : decode prog_12_method_27_code 53 = .ok (.getfield 107, 3) := by decide +kernel
theorem d_TM_nameOf_56 : decode prog_12_method_27_code 56 = .ok (.bipush 111, 2) := by decide +kernel
theorem d_TM_nameOf_58 : decode prog_12_method_27_code 58 = .ok (.bipush 119, 2) := by decide +kernel
theorem d_TM_nameOf_60 : decode prog_12_method_27_code 60 = .ok (.bipush 110, 2) := by decide +kernel
theorem d_TM_nameOf_62 : decode prog_12_method_27_code 62 = .ok (.invokestatic 120, 3) := by decide +kernel
theorem d_TM_nameOf_65 : decode prog_12_method_27_code 65 = .ok (.lcmp, 1) := by decide +kernel
theorem d_TM_nameOf_66 : decode prog_12_method_27_code 66 = .ok (.ifCond .ne 5, 3) := by decide +kernel
theorem d_TM_nameOf_69 : decode prog_12_method_27_code 69 = .ok (.iconst 2, 1) := by decide +kernel
theorem d_TM_nameOf_70 : decode prog_12_method_27_code 70 = .ok (.ireturn, 1) := by decide +kernel
theorem d_TM_nameOf_71 : decode prog_12_method_27_code 71 = .ok (.aload_n 0, 1) := by decide +kernel
theorem d_TM_nameOf_72 : decode prog_12_method_27_code 72 = .ok (.getfield 107, 3) := by decide +kernel
theorem d_TM_nameOf_75 : decode prog_12_method_27_code 75 = .ok (.bipush 115, 2) := by decide +kernel
theorem d_TM_nameOf_77 : decode prog_12_method_27_code 77 = .ok (.bipush 111, 2) := by decide +kernel
theorem d_TM_nameOf_79 : decode prog_12_method_27_code 79 = .ok (.bipush 114, 2) := by decide +kernel
theorem d_TM_nameOf_81 : decode prog_12_method_27_code 81 = .ok (.bipush 116, 2) := by decide +kernel
theorem d_TM_nameOf_83 : decode prog_12_method_27_code 83 = .ok (.invokestatic 124, 3) := by decide +kernel
theorem d_TM_nameOf_86 : decode prog_12_method_27_code 86 = .ok (.lcmp, 1) := by decide +kernel
theorem d_TM_nameOf_87 : decode prog_12_method_27_code 87 = .ok (.ifCond .ne 5, 3) := by decide +kernel
theorem d_TM_nameOf_90 : decode prog_12_method_27_code 90 = .ok (.iconst 3, 1) := by decide +kernel
theorem d_TM_nameOf_91 : decode prog_12_method_27_code 91 = .ok (.ireturn, 1) := by decide +kernel
theorem d_TM_nameOf_92 : decode prog_12_method_27_code 92 = .ok (.aload_n 0, 1) := by decide +kernel
theorem d_TM_nameOf_93 : decode prog_12_method_27_code 93 = .ok (.getfield 107, 3) := by decide +kernel
theorem d_TM_nameOf_96 : decode prog_12_method_27_code 96 = .ok (.bipush 112, 2) := by decide +kernel
theorem d_TM_nameOf_98 : decode prog_12_method_27_code 98 = .ok (.bipush 101, 2) := by decide +kernel
theorem d_TM_nameOf_100 : decode prog_12_method_27_code 100 = .ok (.bipush 111, 2) := by decide +kernel
theorem d_TM_nameOf_102 : decode prog_12_method_27_code 102 = .ok (.bipush 112, 2) := by decide +kernel
theorem d_TM_nameOf_104 : decode prog_12_method_27_code 104 = .ok (.bipush 108, 2) := by decide +kernel
theorem d_TM_nameOf_106 : decode prog_12_method_27_code 106 = .ok (.bipush 101, 2) := by decide +kernel
theorem d_TM_nameOf_108 : decode prog_12_method_27_code 108 = .ok (.invokestatic 138, 3) := by decide +kernel
theorem d_TM_nameOf_111 : decode prog_12_method_27_code 111 = .ok (.lcmp, 1) := by decide +kernel
theorem d_TM_nameOf_112 : decode prog_12_method_27_code 112 = .ok (.ifCond .ne 5, 3) := by decide +kernel
theorem d_TM_nameOf_115 : decode prog_12_method_27_code 115 = .ok (.iconst 4, 1) := by decide +kernel
theorem d_TM_nameOf_116 : decode prog_12_method_27_code 116 = .ok (.ireturn, 1) := by decide +kernel
theorem d_TM_nameOf_117 : decode prog_12_method_27_code 117 = .ok (.aload_n 0, 1) := by decide +kernel
theorem d_TM_nameOf_118 : decode prog_12_method_27_code 118 = .ok (.getfield 107, 3) := by decide +kernel
theorem d_TM_nameOf_121 : decode prog_12_method_27_code 121 = .ok (.bipush 104, 2) := by decide +kernel
theorem d_TM_nameOf_123 : decode prog_12_method_27_code 123 = .ok (.bipush 101, 2) := by decide +kernel
theorem d_TM_nameOf_125 : decode prog_12_method_27_code 125 = .ok (.bipush 97, 2) := by decide +kernel
theorem d_TM_nameOf_127 : decode prog_12_method_27_code 127 = .ok (.bipush 114, 2) := by decide +kernel
theorem d_TM_nameOf_129 : decode prog_12_method_27_code 129 = .ok (.bipush 100, 2) := by decide +kernel
theorem d_TM_nameOf_131 : decode prog_12_method_27_code 131 = .ok (.invokestatic 128, 3) := by decide +kernel
theorem d_TM_nameOf_134 : decode prog_12_method_27_code 134 = .ok (.lcmp, 1) := by decide +kernel
theorem d_TM_nameOf_135 : decode prog_12_method_27_code 135 = .ok (.ifCond .ne 5, 3) := by decide +kernel
theorem d_TM_nameOf_138 : decode prog_12_method_27_code 138 = .ok (.iconst 5, 1) := by decide +kernel
theorem d_TM_nameOf_139 : decode prog_12_method_27_code 139 = .ok (.ireturn, 1) := by decide +kernel
theorem d_TM_nameOf_140 : decode prog_12_method_27_code 140 = .ok (.aload_n 0, 1) := by decide +kernel
theorem d_TM_nameOf_141 : decode prog_12_method_27_code 141 = .ok (.getfield 107, 3) := by decide +kernel
theorem d_TM_nameOf_144 : decode prog_12_method_27_code 144 = .ok (.bipush 102, 2) := by decide +kernel
theorem d_TM_nameOf_146 : decode prog_12_method_27_code 146 = .ok (.bipush 105, 2) := by decide +kernel
theorem d_TM_nameOf_148 : decode prog_12_method_27_code 148 = .ok (.bipush 103, 2) := by decide +kernel
theorem d_TM_nameOf_150 : decode prog_12_method_27_code 150 = .ok (.bipush 117, 2) := by decide +kernel
theorem d_TM_nameOf_152 : decode prog_12_method_27_code 152 = .ok (.bipush 114, 2) := by decide +kernel
theorem d_TM_nameOf_154 : decode prog_12_method_27_code 154 = .ok (.bipush 101, 2) := by decide +kernel
theorem d_TM_nameOf_156 : decode prog_12_method_27_code 156 = .ok (.invokestatic 138, 3) := by decide +kernel
theorem d_TM_nameOf_159 : decode prog_12_method_27_code 159 = .ok (.lcmp, 1) := by decide +kernel
theorem d_TM_nameOf_160 : decode prog_12_method_27_code 160 = .ok (.ifCond .ne 8, 3) := by decide +kernel
theorem d_TM_nameOf_163 : decode prog_12_method_27_code 163 = .ok (.bipush 6, 2) := by decide +kernel
theorem d_TM_nameOf_165 : decode prog_12_method_27_code 165 = .ok (.goto 26, 3) := by decide +kernel
theorem d_TM_nameOf_168 : decode prog_12_method_27_code 168 = .ok (.aload_n 0, 1) := by decide +kernel
theorem d_TM_nameOf_169 : decode prog_12_method_27_code 169 = .ok (.getfield 107, 3) := by decide +kernel
theorem d_TM_nameOf_172 : decode prog_12_method_27_code 172 = .ok (.bipush 121, 2) := by decide +kernel
theorem d_TM_nameOf_174 : decode prog_12_method_27_code 174 = .ok (.bipush 101, 2) := by decide +kernel
theorem d_TM_nameOf_176 : decode prog_12_method_27_code 176 = .ok (.bipush 115, 2) := by decide +kernel
theorem d_TM_nameOf_178 : decode prog_12_method_27_code 178 = .ok (.invokestatic 120, 3) := by decide +kernel
theorem d_TM_nameOf_181 : decode prog_12_method_27_code 181 = .ok (.lcmp, 1) := by decide +kernel
theorem d_TM_nameOf_182 : decode prog_12_method_27_code 182 = .ok (.ifCond .ne 8, 3) := by decide +kernel
theorem d_TM_nameOf_185 : decode prog_12_method_27_code 185 = .ok (.bipush 7, 2) := by decide +kernel
theorem d_TM_nameOf_187 : decode prog_12_method_27_code 187 = .ok (.goto 4, 3) := by decide +kernel
theorem d_TM_nameOf_190 : decode prog_12_method_27_code 190 = .ok (.iconst (-1), 1) := by decide +kernel
theorem d_TM_nameOf_191 : decode prog_12_method_27_code 191 = .ok (.ireturn, 1) := by decide +kernel
theorem d_TM_isOf_0 : decode prog_12_method_28_code 0 = .ok (.iload_n 1, 1) := by decide +kernel
theorem d_TM_isOf_1 : decode prog_12_method_28_code 1 = .ok (.bipush 7, 2) := by decide +kernel
theorem d_TM_isOf_3 : decode prog_12_method_28_code 3 = .ok (.if_icmp .lt 11, 3) := by decide +kernel
theorem d_TM_isOf_6 : decode prog_12_method_28_code 6 = .ok (.aload_n 0, 1) := by decide +kernel
theorem d_TM_isOf_7 : decode prog_12_method_28_code 7 = .ok (.getfield 142, 3) := by decide +kernel
theorem d_TM_isOf_10 : decode prog_12_method_28_code 10 = .ok (.iconst 1, 1) := by decide +kernel
theorem d_TM_isOf_11 : decode prog_12_method_28_code 11 = .ok (.if_icmp .ne 7, 3) := by decide +kernel
theorem d_TM_isOf_14 : decode prog_12_method_28_code 14 = .ok (.iconst 1, 1) := by decide +kernel
theorem d_TM_isOf_15 : decode prog_12_method_28_code 15 = .ok (.goto 4, 3) := by decide +kernel
theorem d_TM_isOf_18 : decode prog_12_method_28_code 18 = .ok (.iconst 0, 1) := by decide +kernel
theorem d_TM_isOf_19 : decode prog_12_method_28_code 19 = .ok (.ireturn, 1) := by decide +kernel
theorem d_TM_opened_0 : decode prog_12_method_35_code 0 = .ok (.aload_n 0, 1) := by decide +kernel
theorem d_TM_opened_1 : decode prog_12_method_35_code 1 = .ok (.getfield 155, 3) := by decide +kernel
theorem d_TM_opened_4 : decode prog_12_method_35_code 4 = .ok (.bipush 8, 2) := by decide +kernel
theorem d_TM_opened_6 : decode prog_12_method_35_code 6 = .ok (.if_icmp .ne 5, 3) := by decide +kernel
theorem d_TM_opened_9 : decode prog_12_method_35_code 9 = .ok (.iconst 3, 1) := by decide +kernel
theorem d_TM_opened_10 : decode prog_12_method_35_code 10 = .ok (.ireturn, 1) := by decide +kernel
theorem d_TM_opened_11 : decode prog_12_method_35_code 11 = .ok (.aload_n 0, 1) := by decide +kernel
theorem d_TM_opened_12 : decode prog_12_method_35_code 12 = .ok (.dup, 1) := by decide +kernel
theorem d_TM_opened_13 : decode prog_12_method_35_code 13 = .ok (.getfield 155, 3) := by decide +kernel
theorem d_TM_opened_16 : decode prog_12_method_35_code 16 = .ok (.iconst 1, 1) := by decide +kernel
theorem d_TM_opened_17 : decode prog_12_method_35_code 17 = .ok (.iadd, 1) := by decide +kernel
theorem d_TM_opened_18 : decode prog_12_method_35_code 18 = .ok (.putfield 155, 3) := by decide +kernel
theorem d_TM_opened_21 : decode prog_12_method_35_code 21 = .ok (.aload_n 0, 1) := by decide +kernel
theorem d_TM_opened_22 : decode prog_12_method_35_code 22 = .ok (.getfield 29, 3) := by decide +kernel
theorem d_TM_opened_25 : decode prog_12_method_35_code 25 = .ok (.aload_n 0, 1) := by decide +kernel
theorem d_TM_opened_26 : decode prog_12_method_35_code 26 = .ok (.getfield 145, 3) := by decide +kernel
theorem d_TM_opened_29 : decode prog_12_method_35_code 29 = .ok (.iload_n 1, 1) := by decide +kernel
theorem d_TM_opened_30 : decode prog_12_method_35_code 30 = .ok (.iastore, 1) := by decide +kernel
theorem d_TM_opened_31 : decode prog_12_method_35_code 31 = .ok (.aload_n 0, 1) := by decide +kernel
theorem d_TM_opened_32 : decode prog_12_method_35_code 32 = .ok (.dup, 1) := by decide +kernel
theorem d_TM_opened_33 : decode prog_12_method_35_code 33 = .ok (.getfield 145, 3) := by decide +kernel
theorem d_TM_opened_36 : decode prog_12_method_35_code 36 = .ok (.iconst 1, 1) := by decide +kernel
theorem d_TM_opened_37 : decode prog_12_method_35_code 37 = .ok (.iadd, 1) := by decide +kernel
theorem d_TM_opened_38 : decode prog_12_method_35_code 38 = .ok (.putfield 145, 3) := by decide +kernel
theorem d_TM_opened_41 : decode prog_12_method_35_code 41 = .ok (.aload_n 0, 1) := by decide +kernel
theorem d_TM_opened_42 : decode prog_12_method_35_code 42 = .ok (.invokevirtual 165, 3) := by decide +kernel
theorem d_TM_opened_45 : decode prog_12_method_35_code 45 = .ok (.iconst 0, 1) := by decide +kernel
theorem d_TM_opened_46 : decode prog_12_method_35_code 46 = .ok (.ireturn, 1) := by decide +kernel
theorem d_TM_isAskAhead_0 : decode prog_12_method_34_code 0 = .ok (.aload_n 0, 1) := by decide +kernel
theorem d_TM_isAskAhead_1 : decode prog_12_method_34_code 1 = .ok (.invokevirtual 162, 3) := by decide +kernel
theorem d_TM_isAskAhead_4 : decode prog_12_method_34_code 4 = .ok (.bipush 41, 2) := by decide +kernel
theorem d_TM_isAskAhead_6 : decode prog_12_method_34_code 6 = .ok (.if_icmp .ne 45, 3) := by decide +kernel
theorem d_TM_isAskAhead_9 : decode prog_12_method_34_code 9 = .ok (.aload_n 0, 1) := by decide +kernel
theorem d_TM_isAskAhead_10 : decode prog_12_method_34_code 10 = .ok (.getfield 29, 3) := by decide +kernel
theorem d_TM_isAskAhead_13 : decode prog_12_method_34_code 13 = .ok (.aload_n 0, 1) := by decide +kernel
theorem d_TM_isAskAhead_14 : decode prog_12_method_34_code 14 = .ok (.getfield 145, 3) := by decide +kernel
theorem d_TM_isAskAhead_17 : decode prog_12_method_34_code 17 = .ok (.iconst 1, 1) := by decide +kernel
theorem d_TM_isAskAhead_18 : decode prog_12_method_34_code 18 = .ok (.isub, 1) := by decide +kernel
theorem d_TM_isAskAhead_19 : decode prog_12_method_34_code 19 = .ok (.iaload, 1) := by decide +kernel
theorem d_TM_isAskAhead_20 : decode prog_12_method_34_code 20 = .ok (.bipush 40, 2) := by decide +kernel
theorem d_TM_isAskAhead_22 : decode prog_12_method_34_code 22 = .ok (.if_icmp .ge 25, 3) := by decide +kernel
theorem d_TM_isAskAhead_25 : decode prog_12_method_34_code 25 = .ok (.aload_n 0, 1) := by decide +kernel
theorem d_TM_isAskAhead_26 : decode prog_12_method_34_code 26 = .ok (.getfield 29, 3) := by decide +kernel
theorem d_TM_isAskAhead_29 : decode prog_12_method_34_code 29 = .ok (.aload_n 0, 1) := by decide +kernel
theorem d_TM_isAskAhead_30 : decode prog_12_method_34_code 30 = .ok (.getfield 145, 3) := by decide +kernel
theorem d_TM_isAskAhead_33 : decode prog_12_method_34_code 33 = .ok (.iconst 1, 1) := by decide +kernel
theorem d_TM_isAskAhead_34 : decode prog_12_method_34_code 34 = .ok (.isub, 1) := by decide +kernel
theorem d_TM_isAskAhead_35 : decode prog_12_method_34_code 35 = .ok (.iaload, 1) := by decide +kernel
theorem d_TM_isAskAhead_36 : decode prog_12_method_34_code 36 = .ok (.invokestatic 148, 3) := by decide +kernel
theorem d_TM_isAskAhead_39 : decode prog_12_method_34_code 39 = .ok (.iconst 1, 1) := by decide +kernel
theorem d_TM_isAskAhead_40 : decode prog_12_method_34_code 40 = .ok (.iconst 3, 1) := by decide +kernel
theorem d_TM_isAskAhead_41 : decode prog_12_method_34_code 41 = .ok (.invokestatic 69, 3) := by decide +kernel
theorem d_TM_isAskAhead_44 : decode prog_12_method_34_code 44 = .ok (.ifCond .eq 7, 3) := by decide +kernel
theorem d_TM_isAskAhead_47 : decode prog_12_method_34_code 47 = .ok (.iconst 1, 1) := by decide +kernel
theorem d_TM_isAskAhead_48 : decode prog_12_method_34_code 48 = .ok (.goto 4, 3) := by decide +kernel
theorem d_TM_isAskAhead_51 : decode prog_12_method_34_code 51 = .ok (.iconst 0, 1) := by decide +kernel
theorem d_TM_isAskAhead_52 : decode prog_12_method_34_code 52 = .ok (.ireturn, 1) := by decide +kernel
theorem d_TM_fault_0 : decode prog_12_method_50_code 0 = .ok (.iload_n 1, 1) := by decide +kernel
theorem d_TM_fault_1 : decode prog_12_method_50_code 1 = .ok (.ifCond .ne 10, 3) := by decide +kernel
theorem d_TM_fault_4 : decode prog_12_method_50_code 4 = .ok (.aload_n 0, 1) := by decide +kernel
theorem d_TM_fault_5 : decode prog_12_method_50_code 5 = .ok (.getfield 22, 3) := by decide +kernel
theorem d_TM_fault_8 : decode prog_12_method_50_code 8 = .ok (.goto 16, 3) := by decide +kernel
theorem d_TM_fault_11 : decode prog_12_method_50_code 11 = .ok (.iload_n 1, 1) := by decide +kernel
theorem d_TM_fault_12 : decode prog_12_method_50_code 12 = .ok (.iconst 1, 1) := by decide +kernel
theorem d_TM_fault_13 : decode prog_12_method_50_code 13 = .ok (.if_icmp .ne 10, 3) := by decide +kernel
theorem d_TM_fault_16 : decode prog_12_method_50_code 16 = .ok (.aload_n 0, 1) := by decide +kernel
theorem d_TM_fault_17 : decode prog_12_method_50_code 17 = .ok (.getfield 26, 3) := by decide +kernel
theorem d_TM_fault_20 : decode prog_12_method_50_code 20 = .ok (.goto 4, 3) := by decide +kernel
theorem d_TM_fault_23 : decode prog_12_method_50_code 23 = .ok (.iconst (-1), 1) := by decide +kernel
theorem d_TM_fault_24 : decode prog_12_method_50_code 24 = .ok (.ireturn, 1) := by decide +kernel
theorem d_TM_by_0 : decode prog_12_method_51_code 0 = .ok (.iload_n 1, 1) := by decide +kernel
theorem d_TM_by_1 : decode prog_12_method_51_code 1 = .ok (.iconst (-1), 1) := by decide +kernel
theorem d_TM_by_2 : decode prog_12_method_51_code 2 = .ok (.aload_n 0, 1) := by decide +kernel
theorem d_TM_by_3 : decode prog_12_method_51_code 3 = .ok (.getfield 7, 3) := by decide +kernel
theorem d_TM_by_6 : decode prog_12_method_51_code 6 = .ok (.iconst 1, 1) := by decide +kernel
theorem d_TM_by_7 : decode prog_12_method_51_code 7 = .ok (.iaload, 1) := by decide +kernel
theorem d_TM_by_8 : decode prog_12_method_51_code 8 = .ok (.iconst 1, 1) := by decide +kernel
theorem d_TM_by_9 : decode prog_12_method_51_code 9 = .ok (.isub, 1) := by decide +kernel
theorem d_TM_by_10 : decode prog_12_method_51_code 10 = .ok (.invokestatic 69, 3) := by decide +kernel
theorem d_TM_by_13 : decode prog_12_method_51_code 13 = .ok (.ifCond .ne 5, 3) := by decide +kernel
theorem d_TM_by_16 : decode prog_12_method_51_code 16 = .ok (.iconst 0, 1) := by decide +kernel
theorem d_TM_by_17 : decode prog_12_method_51_code 17 = .ok (.ireturn, 1) := by decide +kernel
theorem d_TM_by_18 : decode prog_12_method_51_code 18 = .ok (.aload_n 0, 1) := by decide +kernel
theorem d_TM_by_19 : decode prog_12_method_51_code 19 = .ok (.getfield 7, 3) := by decide +kernel
theorem d_TM_by_22 : decode prog_12_method_51_code 22 = .ok (.iconst 2, 1) := by decide +kernel
theorem d_TM_by_23 : decode prog_12_method_51_code 23 = .ok (.iload_n 1, 1) := by decide +kernel
theorem d_TM_by_24 : decode prog_12_method_51_code 24 = .ok (.iastore, 1) := by decide +kernel
theorem d_TM_by_25 : decode prog_12_method_51_code 25 = .ok (.iconst 1, 1) := by decide +kernel
theorem d_TM_by_26 : decode prog_12_method_51_code 26 = .ok (.ireturn, 1) := by decide +kernel
theorem d_TM_undo_0 : decode prog_12_method_70_code 0 = .ok (.aload_n 0, 1) := by decide +kernel
theorem d_TM_undo_1 : decode prog_12_method_70_code 1 = .ok (.getfield 7, 3) := by decide +kernel
theorem d_TM_undo_4 : decode prog_12_method_70_code 4 = .ok (.iconst 3, 1) := by decide +kernel
theorem d_TM_undo_5 : decode prog_12_method_70_code 5 = .ok (.iaload, 1) := by decide +kernel
theorem d_TM_undo_6 : decode prog_12_method_70_code 6 = .ok (.ifCond .ne 5, 3) := by decide +kernel
theorem d_TM_undo_9 : decode prog_12_method_70_code 9 = .ok (.iconst (-1), 1) := by decide +kernel
theorem d_TM_undo_10 : decode prog_12_method_70_code 10 = .ok (.ireturn, 1) := by decide +kernel
theorem d_TM_undo_11 : decode prog_12_method_70_code 11 = .ok (.aload_n 0, 1) := by decide +kernel
theorem d_TM_undo_12 : decode prog_12_method_70_code 12 = .ok (.getfield 7, 3) := by decide +kernel
theorem d_TM_undo_15 : decode prog_12_method_70_code 15 = .ok (.iconst 3, 1) := by decide +kernel
theorem d_TM_undo_16 : decode prog_12_method_70_code 16 = .ok (.dup2, 1) := by decide +kernel
theorem d_TM_undo_17 : decode prog_12_method_70_code 17 = .ok (.iaload, 1) := by decide +kernel
theorem d_TM_undo_18 : decode prog_12_method_70_code 18 = .ok (.iconst 1, 1) := by decide +kernel
theorem d_TM_undo_19 : decode prog_12_method_70_code 19 = .ok (.isub, 1) := by decide +kernel
theorem d_TM_undo_20 : decode prog_12_method_70_code 20 = .ok (.iastore, 1) := by decide +kernel
theorem d_TM_undo_21 : decode prog_12_method_70_code 21 = .ok (.bipush 85, 2) := by decide +kernel
theorem d_TM_undo_23 : decode prog_12_method_70_code 23 = .ok (.bipush 44, 2) := by decide +kernel
theorem d_TM_undo_25 : decode prog_12_method_70_code 25 = .ok (.aload_n 0, 1) := by decide +kernel
theorem d_TM_undo_26 : decode prog_12_method_70_code 26 = .ok (.getfield 7, 3) := by decide +kernel
theorem d_TM_undo_29 : decode prog_12_method_70_code 29 = .ok (.iconst 3, 1) := by decide +kernel
theorem d_TM_undo_30 : decode prog_12_method_70_code 30 = .ok (.iaload, 1) := by decide +kernel
theorem d_TM_undo_31 : decode prog_12_method_70_code 31 = .ok (.imul, 1) := by decide +kernel
theorem d_TM_undo_32 : decode prog_12_method_70_code 32 = .ok (.iadd, 1) := by decide +kernel
theorem d_TM_undo_33 : decode prog_12_method_70_code 33 = .ok (.istore_n 1, 1) := by decide +kernel
theorem d_TM_undo_34 : decode prog_12_method_70_code 34 = .ok (.iconst 0, 1) := by decide +kernel
theorem d_TM_undo_35 : decode prog_12_method_70_code 35 = .ok (.istore_n 2, 1) := by decide +kernel
theorem d_TM_undo_36 : decode prog_12_method_70_code 36 = .ok (.iload_n 2, 1) := by decide +kernel
theorem d_TM_undo_37 : decode prog_12_method_70_code 37 = .ok (.bipush 13, 2) := by decide +kernel
theorem d_TM_undo_39 : decode prog_12_method_70_code 39 = .ok (.if_icmp .ge 27, 3) := by decide +kernel
theorem d_TM_undo_42 : decode prog_12_method_70_code 42 = .ok (.aload_n 0, 1) := by decide +kernel
theorem d_TM_undo_43 : decode prog_12_method_70_code 43 = .ok (.getfield 7, 3) := by decide +kernel
theorem d_TM_undo_46 : decode prog_12_method_70_code 46 = .ok (.iconst 5, 1) := by decide +kernel
theorem d_TM_undo_47 : decode prog_12_method_70_code 47 = .ok (.iload_n 2, 1) := by decide +kernel
theorem d_TM_undo_48 : decode prog_12_method_70_code 48 = .ok (.iadd, 1) := by decide +kernel
theorem d_TM_undo_49 : decode prog_12_method_70_code 49 = .ok (.aload_n 0, 1) := by decide +kernel
theorem d_TM_undo_50 : decode prog_12_method_70_code 50 = .ok (.getfield 7, 3) := by decide +kernel
theorem d_TM_undo_53 : decode prog_12_method_70_code 53 = .ok (.iload_n 1, 1) := by decide +kernel
theorem d_TM_undo_54 : decode prog_12_method_70_code 54 = .ok (.iconst 1, 1) := by decide +kernel
theorem d_TM_undo_55 : decode prog_12_method_70_code 55 = .ok (.iadd, 1) := by decide +kernel
theorem d_TM_undo_56 : decode prog_12_method_70_code 56 = .ok (.iload_n 2, 1) := by decide +kernel
theorem d_TM_undo_57 : decode prog_12_method_70_code 57 = .ok (.iadd, 1) := by decide +kernel
theorem d_TM_undo_58 : decode prog_12_method_70_code 58 = .ok (.iaload, 1) := by decide +kernel
theorem d_TM_undo_59 : decode prog_12_method_70_code 59 = .ok (.iastore, 1) := by decide +kernel
theorem d_TM_undo_60 : decode prog_12_method_70_code 60 = .ok (.iinc 2 1, 3) := by decide +kernel
theorem d_TM_undo_63 : decode prog_12_method_70_code 63 = .ok (.goto (-27), 3) := by decide +kernel
theorem d_TM_undo_66 : decode prog_12_method_70_code 66 = .ok (.aload_n 0, 1) := by decide +kernel
theorem d_TM_undo_67 : decode prog_12_method_70_code 67 = .ok (.getfield 7, 3) := by decide +kernel
theorem d_TM_undo_70 : decode prog_12_method_70_code 70 = .ok (.iload_n 1, 1) := by decide +kernel
theorem d_TM_undo_71 : decode prog_12_method_70_code 71 = .ok (.iaload, 1) := by decide +kernel
theorem d_TM_undo_72 : decode prog_12_method_70_code 72 = .ok (.istore_n 2, 1) := by decide +kernel
theorem d_TM_undo_73 : decode prog_12_method_70_code 73 = .ok (.iload_n 2, 1) := by decide +kernel
theorem d_TM_undo_74 : decode prog_12_method_70_code 74 = .ok (.aload_n 0, 1) := by decide +kernel
theorem d_TM_undo_75 : decode prog_12_method_70_code 75 = .ok (.getfield 7, 3) := by decide +kernel
theorem d_TM_undo_78 : decode prog_12_method_70_code 78 = .ok (.iconst 0, 1) := by decide +kernel
theorem d_TM_undo_79 : decode prog_12_method_70_code 79 = .ok (.iaload, 1) := by decide +kernel
theorem d_TM_undo_80 : decode prog_12_method_70_code 80 = .ok (.if_icmp .ge 27, 3) := by decide +kernel
theorem d_TM_undo_83 : decode prog_12_method_70_code 83 = .ok (.aload_n 0, 1) := by decide +kernel
theorem d_TM_undo_84 : decode prog_12_method_70_code 84 = .ok (.getfield 7, 3) := by decide +kernel
theorem d_TM_undo_87 : decode prog_12_method_70_code 87 = .ok (.bipush 10, 2) := by decide +kernel
theorem d_TM_undo_89 : decode prog_12_method_70_code 89 = .ok (.iload_n 2, 1) := by decide +kernel
theorem d_TM_undo_90 : decode prog_12_method_70_code 90 = .ok (.iadd, 1) := by decide +kernel
theorem d_TM_undo_91 : decode prog_12_method_70_code 91 = .ok (.aload_n 0, 1) := by decide +kernel
theorem d_TM_undo_92 : decode prog_12_method_70_code 92 = .ok (.getfield 7, 3) := by decide +kernel
theorem d_TM_undo_95 : decode prog_12_method_70_code 95 = .ok (.bipush 26, 2) := by decide +kernel
theorem d_TM_undo_97 : decode prog_12_method_70_code 97 = .ok (.iload_n 2, 1) := by decide +kernel
theorem d_TM_undo_98 : decode prog_12_method_70_code 98 = .ok (.iadd, 1) := by decide +kernel
theorem d_TM_undo_99 : decode prog_12_method_70_code 99 = .ok (.iaload, 1) := by decide +kernel
theorem d_TM_undo_100 : decode prog_12_method_70_code 100 = .ok (.iastore, 1) := by decide +kernel
theorem d_TM_undo_101 : decode prog_12_method_70_code 101 = .ok (.iinc 2 1, 3) := by decide +kernel
theorem d_TM_undo_104 : decode prog_12_method_70_code 104 = .ok (.goto (-31), 3) := by decide +kernel
theorem d_TM_undo_107 : decode prog_12_method_70_code 107 = .ok (.iconst 0, 1) := by decide +kernel
theorem d_TM_undo_108 : decode prog_12_method_70_code 108 = .ok (.istore_n 2, 1) := by decide +kernel
theorem d_TM_undo_109 : decode prog_12_method_70_code 109 = .ok (.iload_n 2, 1) := by decide +kernel
theorem d_TM_undo_110 : decode prog_12_method_70_code 110 = .ok (.bipush 30, 2) := by decide +kernel
theorem d_TM_undo_112 : decode prog_12_method_70_code 112 = .ok (.if_icmp .ge 32, 3) := by decide +kernel
theorem d_TM_undo_115 : decode prog_12_method_70_code 115 = .ok (.aload_n 0, 1) := by decide +kernel
theorem d_TM_undo_116 : decode prog_12_method_70_code 116 = .ok (.getfield 7, 3) := by decide +kernel
theorem d_TM_undo_119 : decode prog_12_method_70_code 119 = .ok (.sipush 1405, 3) := by decide +kernel
theorem d_TM_undo_122 : decode prog_12_method_70_code 122 = .ok (.iload_n 2, 1) := by decide +kernel
theorem d_TM_undo_123 : decode prog_12_method_70_code 123 = .ok (.iadd, 1) := by decide +kernel
theorem d_TM_undo_124 : decode prog_12_method_70_code 124 = .ok (.aload_n 0, 1) := by decide +kernel
theorem d_TM_undo_125 : decode prog_12_method_70_code 125 = .ok (.getfield 7, 3) := by decide +kernel
theorem d_TM_undo_128 : decode prog_12_method_70_code 128 = .ok (.iload_n 1, 1) := by decide +kernel
theorem d_TM_undo_129 : decode prog_12_method_70_code 129 = .ok (.iconst 1, 1) := by decide +kernel
theorem d_TM_undo_130 : decode prog_12_method_70_code 130 = .ok (.iadd, 1) := by decide +kernel
theorem d_TM_undo_131 : decode prog_12_method_70_code 131 = .ok (.bipush 13, 2) := by decide +kernel
theorem d_TM_undo_133 : decode prog_12_method_70_code 133 = .ok (.iadd, 1) := by decide +kernel
theorem d_TM_undo_134 : decode prog_12_method_70_code 134 = .ok (.iload_n 2, 1) := by decide +kernel
theorem d_TM_undo_135 : decode prog_12_method_70_code 135 = .ok (.iadd, 1) := by decide +kernel
theorem d_TM_undo_136 : decode prog_12_method_70_code 136 = .ok (.iaload, 1) := by decide +kernel
theorem d_TM_undo_137 : decode prog_12_method_70_code 137 = .ok (.iastore, 1) := by decide +kernel
theorem d_TM_undo_138 : decode prog_12_method_70_code 138 = .ok (.iinc 2 1, 3) := by decide +kernel
theorem d_TM_undo_141 : decode prog_12_method_70_code 141 = .ok (.goto (-32), 3) := by decide +kernel
theorem d_TM_undo_144 : decode prog_12_method_70_code 144 = .ok (.aload_n 0, 1) := by decide +kernel
theorem d_TM_undo_145 : decode prog_12_method_70_code 145 = .ok (.getfield 7, 3) := by decide +kernel
theorem d_TM_undo_148 : decode prog_12_method_70_code 148 = .ok (.iconst 3, 1) := by decide +kernel
theorem d_TM_undo_149 : decode prog_12_method_70_code 149 = .ok (.iaload, 1) := by decide +kernel
theorem d_TM_undo_150 : decode prog_12_method_70_code 150 = .ok (.ireturn, 1) := by decide +kernel
theorem d_TM_tell_0 : decode prog_12_method_71_code 0 = .ok (.aload_n 0, 1) := by decide +kernel
theorem d_TM_tell_1 : decode prog_12_method_71_code 1 = .ok (.iload_n 1, 1) := by decide +kernel
theorem d_TM_tell_2 : decode prog_12_method_71_code 2 = .ok (.invokevirtual 311, 3) := by decide +kernel
theorem d_TM_tell_5 : decode prog_12_method_71_code 5 = .ok (.ifCond .eq 15, 3) := by decide +kernel
theorem d_TM_tell_8 : decode prog_12_method_71_code 8 = .ok (.aload_n 0, 1) := by decide +kernel
theorem d_TM_tell_9 : decode prog_12_method_71_code 9 = .ok (.getfield 7, 3) := by decide +kernel
theorem d_TM_tell_12 : decode prog_12_method_71_code 12 = .ok (.iconst 5, 1) := by decide +kernel
theorem d_TM_tell_13 : decode prog_12_method_71_code 13 = .ok (.iaload, 1) := by decide +kernel
theorem d_TM_tell_14 : decode prog_12_method_71_code 14 = .ok (.sipush 9999, 3) := by decide +kernel
theorem d_TM_tell_17 : decode prog_12_method_71_code 17 = .ok (.if_icmp .ne 5, 3) := by decide +kernel
theorem d_TM_tell_20 : decode prog_12_method_71_code 20 = .ok (.iconst (-1), 1) := by decide +kernel
theorem d_TM_tell_21 : decode prog_12_method_71_code 21 = .ok (.ireturn, 1) := by decide +kernel
theorem d_TM_tell_22 : decode prog_12_method_71_code 22 = .ok (.aload_n 0, 1) := by decide +kernel
theorem d_TM_tell_23 : decode prog_12_method_71_code 23 = .ok (.invokevirtual 314, 3) := by decide +kernel
theorem d_TM_tell_26 : decode prog_12_method_71_code 26 = .ok (.aload_n 0, 1) := by decide +kernel
theorem d_TM_tell_27 : decode prog_12_method_71_code 27 = .ok (.iload_n 1, 1) := by decide +kernel
theorem d_TM_tell_28 : decode prog_12_method_71_code 28 = .ok (.invokevirtual 317, 3) := by decide +kernel
theorem d_TM_tell_31 : decode prog_12_method_71_code 31 = .ok (.aload_n 0, 1) := by decide +kernel
theorem d_TM_tell_32 : decode prog_12_method_71_code 32 = .ok (.getfield 7, 3) := by decide +kernel
theorem d_TM_tell_35 : decode prog_12_method_71_code 35 = .ok (.bipush 7, 2) := by decide +kernel
theorem d_TM_tell_37 : decode prog_12_method_71_code 37 = .ok (.iaload, 1) := by decide +kernel
theorem d_TM_tell_38 : decode prog_12_method_71_code 38 = .ok (.ireturn, 1) := by decide +kernel
theorem d_TM_canBeTold_0 : decode prog_12_method_8_code 0 = .ok (.iload_n 1, 1) := by decide +kernel
theorem d_TM_canBeTold_1 : decode prog_12_method_8_code 1 = .ok (.iconst 0, 1) := by decide +kernel
theorem d_TM_canBeTold_2 : decode prog_12_method_8_code 2 = .ok (.aload_n 0, 1) := by decide +kernel
theorem d_TM_canBeTold_3 : decode prog_12_method_8_code 3 = .ok (.getfield 7, 3) := by decide +kernel
theorem d_TM_canBeTold_6 : decode prog_12_method_8_code 6 = .ok (.iconst 0, 1) := by decide +kernel
theorem d_TM_canBeTold_7 : decode prog_12_method_8_code 7 = .ok (.iaload, 1) := by decide +kernel
theorem d_TM_canBeTold_8 : decode prog_12_method_8_code 8 = .ok (.invokestatic 69, 3) := by decide +kernel
theorem d_TM_canBeTold_11 : decode prog_12_method_8_code 11 = .ok (.ireturn, 1) := by decide +kernel
theorem d_TM_keep_0 : decode prog_12_method_69_code 0 = .ok (.aload_n 0, 1) := by decide +kernel
theorem d_TM_keep_1 : decode prog_12_method_69_code 1 = .ok (.getfield 7, 3) := by decide +kernel
theorem d_TM_keep_4 : decode prog_12_method_69_code 4 = .ok (.iconst 3, 1) := by decide +kernel
theorem d_TM_keep_5 : decode prog_12_method_69_code 5 = .ok (.iaload, 1) := by decide +kernel
theorem d_TM_keep_6 : decode prog_12_method_69_code 6 = .ok (.bipush 30, 2) := by decide +kernel
theorem d_TM_keep_8 : decode prog_12_method_69_code 8 = .ok (.if_icmp .ne 47, 3) := by decide +kernel
theorem d_TM_keep_11 : decode prog_12_method_69_code 11 = .ok (.iconst 0, 1) := by decide +kernel
theorem d_TM_keep_12 : decode prog_12_method_69_code 12 = .ok (.istore_n 1, 1) := by decide +kernel
theorem d_TM_keep_13 : decode prog_12_method_69_code 13 = .ok (.iload_n 1, 1) := by decide +kernel
theorem d_TM_keep_14 : decode prog_12_method_69_code 14 = .ok (.sipush 1276, 3) := by decide +kernel
theorem d_TM_keep_17 : decode prog_12_method_69_code 17 = .ok (.if_icmp .ge 28, 3) := by decide +kernel
theorem d_TM_keep_20 : decode prog_12_method_69_code 20 = .ok (.aload_n 0, 1) := by decide +kernel
theorem d_TM_keep_21 : decode prog_12_method_69_code 21 = .ok (.getfield 7, 3) := by decide +kernel
theorem d_TM_keep_24 : decode prog_12_method_69_code 24 = .ok (.bipush 85, 2) := by decide +kernel
theorem d_TM_keep_26 : decode prog_12_method_69_code 26 = .ok (.iload_n 1, 1) := by decide +kernel
theorem d_TM_keep_27 : decode prog_12_method_69_code 27 = .ok (.iadd, 1) := by decide +kernel
theorem d_TM_keep_28 : decode prog_12_method_69_code 28 = .ok (.aload_n 0, 1) := by decide +kernel
theorem d_TM_keep_29 : decode prog_12_method_69_code 29 = .ok (.getfield 7, 3) := by decide +kernel
theorem d_TM_keep_32 : decode prog_12_method_69_code 32 = .ok (.sipush 129, 3) := by decide +kernel
theorem d_TM_keep_35 : decode prog_12_method_69_code 35 = .ok (.iload_n 1, 1) := by decide +kernel
theorem d_TM_keep_36 : decode prog_12_method_69_code 36 = .ok (.iadd, 1) := by decide +kernel
theorem d_TM_keep_37 : decode prog_12_method_69_code 37 = .ok (.iaload, 1) := by decide +kernel
theorem d_TM_keep_38 : decode prog_12_method_69_code 38 = .ok (.iastore, 1) := by decide +kernel
theorem d_TM_keep_39 : decode prog_12_method_69_code 39 = .ok (.iinc 1 1, 3) := by decide +kernel
theorem d_TM_keep_42 : decode prog_12_method_69_code 42 = .ok (.goto (-29), 3) := by decide +kernel
theorem d_TM_keep_45 : decode prog_12_method_69_code 45 = .ok (.aload_n 0, 1) := by decide +kernel
theorem d_TM_keep_46 : decode prog_12_method_69_code 46 = .ok (.getfield 7, 3) := by decide +kernel
theorem d_TM_keep_49 : decode prog_12_method_69_code 49 = .ok (.iconst 3, 1) := by decide +kernel
theorem d_TM_keep_50 : decode prog_12_method_69_code 50 = .ok (.dup2, 1) := by decide +kernel
theorem d_TM_keep_51 : decode prog_12_method_69_code 51 = .ok (.iaload, 1) := by decide +kernel
theorem d_TM_keep_52 : decode prog_12_method_69_code 52 = .ok (.iconst 1, 1) := by decide +kernel
theorem d_TM_keep_53 : decode prog_12_method_69_code 53 = .ok (.isub, 1) := by decide +kernel
theorem d_TM_keep_54 : decode prog_12_method_69_code 54 = .ok (.iastore, 1) := by decide +kernel
theorem d_TM_keep_55 : decode prog_12_method_69_code 55 = .ok (.bipush 85, 2) := by decide +kernel
theorem d_TM_keep_57 : decode prog_12_method_69_code 57 = .ok (.bipush 44, 2) := by decide +kernel
theorem d_TM_keep_59 : decode prog_12_method_69_code 59 = .ok (.aload_n 0, 1) := by decide +kernel
theorem d_TM_keep_60 : decode prog_12_method_69_code 60 = .ok (.getfield 7, 3) := by decide +kernel
theorem d_TM_keep_63 : decode prog_12_method_69_code 63 = .ok (.iconst 3, 1) := by decide +kernel
theorem d_TM_keep_64 : decode prog_12_method_69_code 64 = .ok (.iaload, 1) := by decide +kernel
theorem d_TM_keep_65 : decode prog_12_method_69_code 65 = .ok (.imul, 1) := by decide +kernel
theorem d_TM_keep_66 : decode prog_12_method_69_code 66 = .ok (.iadd, 1) := by decide +kernel
theorem d_TM_keep_67 : decode prog_12_method_69_code 67 = .ok (.istore_n 1, 1) := by decide +kernel
theorem d_TM_keep_68 : decode prog_12_method_69_code 68 = .ok (.aload_n 0, 1) := by decide +kernel
theorem d_TM_keep_69 : decode prog_12_method_69_code 69 = .ok (.getfield 7, 3) := by decide +kernel
theorem d_TM_keep_72 : decode prog_12_method_69_code 72 = .ok (.iload_n 1, 1) := by decide +kernel
theorem d_TM_keep_73 : decode prog_12_method_69_code 73 = .ok (.aload_n 0, 1) := by decide +kernel
theorem d_TM_keep_74 : decode prog_12_method_69_code 74 = .ok (.getfield 7, 3) := by decide +kernel
theorem d_TM_keep_77 : decode prog_12_method_69_code 77 = .ok (.iconst 0, 1) := by decide +kernel
theorem d_TM_keep_78 : decode prog_12_method_69_code 78 = .ok (.iaload, 1) := by decide +kernel
theorem d_TM_keep_79 : decode prog_12_method_69_code 79 = .ok (.iastore, 1) := by decide +kernel
theorem d_TM_keep_80 : decode prog_12_method_69_code 80 = .ok (.iconst 0, 1) := by decide +kernel
theorem d_TM_keep_81 : decode prog_12_method_69_code 81 = .ok (.istore_n 2, 1) := by decide +kernel
theorem d_TM_keep_82 : decode prog_12_method_69_code 82 = .ok (.iload_n 2, 1) := by decide +kernel
theorem d_TM_keep_83 : decode prog_12_method_69_code 83 = .ok (.bipush 13, 2) := by decide +kernel
theorem d_TM_keep_85 : decode prog_12_method_69_code 85 = .ok (.if_icmp .ge 27, 3) := by decide +kernel
theorem d_TM_keep_88 : decode prog_12_method_69_code 88 = .ok (.aload_n 0, 1) := by decide +kernel
theorem d_TM_keep_89 : decode prog_12_method_69_code 89 = .ok (.getfield 7, 3) := by decide +kernel
theorem d_TM_keep_92 : decode prog_12_method_69_code 92 = .ok (.iload_n 1, 1) := by decide +kernel
theorem d_TM_keep_93 : decode prog_12_method_69_code 93 = .ok (.iconst 1, 1) := by decide +kernel
theorem d_TM_keep_94 : decode prog_12_method_69_code 94 = .ok (.iadd, 1) := by decide +kernel
theorem d_TM_keep_95 : decode prog_12_method_69_code 95 = .ok (.iload_n 2, 1) := by decide +kernel
theorem d_TM_keep_96 : decode prog_12_method_69_code 96 = .ok (.iadd, 1) := by decide +kernel
theorem d_TM_keep_97 : decode prog_12_method_69_code 97 = .ok (.aload_n 0, 1) := by decide +kernel
theorem d_TM_keep_98 : decode prog_12_method_69_code 98 = .ok (.getfield 7, 3) := by decide +kernel
theorem d_TM_keep_101 : decode prog_12_method_69_code 101 = .ok (.iconst 5, 1) := by decide +kernel
theorem d_TM_keep_102 : decode prog_12_method_69_code 102 = .ok (.iload_n 2, 1) := by decide +kernel
theorem d_TM_keep_103 : decode prog_12_method_69_code 103 = .ok (.iadd, 1) := by decide +kernel
theorem d_TM_keep_104 : decode prog_12_method_69_code 104 = .ok (.iaload, 1) := by decide +kernel
theorem d_TM_keep_105 : decode prog_12_method_69_code 105 = .ok (.iastore, 1) := by decide +kernel
theorem d_TM_keep_106 : decode prog_12_method_69_code 106 = .ok (.iinc 2 1, 3) := by decide +kernel
theorem d_TM_keep_109 : decode prog_12_method_69_code 109 = .ok (.goto (-27), 3) := by decide +kernel
theorem d_TM_keep_112 : decode prog_12_method_69_code 112 = .ok (.iconst 0, 1) := by decide +kernel
theorem d_TM_keep_113 : decode prog_12_method_69_code 113 = .ok (.istore_n 2, 1) := by decide +kernel
theorem d_TM_keep_114 : decode prog_12_method_69_code 114 = .ok (.iload_n 2, 1) := by decide +kernel
theorem d_TM_keep_115 : decode prog_12_method_69_code 115 = .ok (.bipush 30, 2) := by decide +kernel
theorem d_TM_keep_117 : decode prog_12_method_69_code 117 = .ok (.if_icmp .ge 32, 3) := by decide +kernel
theorem d_TM_keep_120 : decode prog_12_method_69_code 120 = .ok (.aload_n 0, 1) := by decide +kernel
theorem d_TM_keep_121 : decode prog_12_method_69_code 121 = .ok (.getfield 7, 3) := by decide +kernel
theorem d_TM_keep_124 : decode prog_12_method_69_code 124 = .ok (.iload_n 1, 1) := by decide +kernel
theorem d_TM_keep_125 : decode prog_12_method_69_code 125 = .ok (.iconst 1, 1) := by decide +kernel
theorem d_TM_keep_126 : decode prog_12_method_69_code 126 = .ok (.iadd, 1) := by decide +kernel
theorem d_TM_keep_127 : decode prog_12_method_69_code 127 = .ok (.bipush 13, 2) := by decide +kernel
theorem d_TM_keep_129 : decode prog_12_method_69_code 129 = .ok (.iadd, 1) := by decide +kernel
theorem d_TM_keep_130 : decode prog_12_method_69_code 130 = .ok (.iload_n 2, 1) := by decide +kernel
theorem d_TM_keep_131 : decode prog_12_method_69_code 131 = .ok (.iadd, 1) := by decide +kernel
theorem d_TM_keep_132 : decode prog_12_method_69_code 132 = .ok (.aload_n 0, 1) := by decide +kernel
theorem d_TM_keep_133 : decode prog_12_method_69_code 133 = .ok (.getfield 7, 3) := by decide +kernel
theorem d_TM_keep_136 : decode prog_12_method_69_code 136 = .ok (.sipush 1405, 3) := by decide +kernel
theorem d_TM_keep_139 : decode prog_12_method_69_code 139 = .ok (.iload_n 2, 1) := by decide +kernel
theorem d_TM_keep_140 : decode prog_12_method_69_code 140 = .ok (.iadd, 1) := by decide +kernel
theorem d_TM_keep_141 : decode prog_12_method_69_code 141 = .ok (.iaload, 1) := by decide +kernel
theorem d_TM_keep_142 : decode prog_12_method_69_code 142 = .ok (.iastore, 1) := by decide +kernel
theorem d_TM_keep_143 : decode prog_12_method_69_code 143 = .ok (.iinc 2 1, 3) := by decide +kernel
theorem d_TM_keep_146 : decode prog_12_method_69_code 146 = .ok (.goto (-32), 3) := by decide +kernel
theorem d_TM_keep_149 : decode prog_12_method_69_code 149 = .ok (.aload_n 0, 1) := by decide +kernel
theorem d_TM_keep_150 : decode prog_12_method_69_code 150 = .ok (.getfield 7, 3) := by decide +kernel
theorem d_TM_keep_153 : decode prog_12_method_69_code 153 = .ok (.iconst 3, 1) := by decide +kernel
theorem d_TM_keep_154 : decode prog_12_method_69_code 154 = .ok (.dup2, 1) := by decide +kernel
theorem d_TM_keep_155 : decode prog_12_method_69_code 155 = .ok (.iaload, 1) := by decide +kernel
theorem d_TM_keep_156 : decode prog_12_method_69_code 156 = .ok (.iconst 1, 1) := by decide +kernel
theorem d_TM_keep_157 : decode prog_12_method_69_code 157 = .ok (.iadd, 1) := by decide +kernel
theorem d_TM_keep_158 : decode prog_12_method_69_code 158 = .ok (.iastore, 1) := by decide +kernel
theorem d_TM_keep_159 : decode prog_12_method_69_code 159 = .ok (.return_, 1) := by decide +kernel
theorem d_TM_pass_0 : decode prog_12_method_67_code 0 = .ok (.iconst 0, 1) := by decide +kernel
theorem d_TM_pass_1 : decode prog_12_method_67_code 1 = .ok (.istore_n 2, 1) := by decide +kernel
theorem d_TM_pass_2 : decode prog_12_method_67_code 2 = .ok (.iconst 0, 1) := by decide +kernel
theorem d_TM_pass_3 : decode prog_12_method_67_code 3 = .ok (.istore_n 3, 1) := by decide +kernel
theorem d_TM_pass_4 : decode prog_12_method_67_code 4 = .ok (.iload_n 3, 1) := by decide +kernel
theorem d_TM_pass_5 : decode prog_12_method_67_code 5 = .ok (.aload_n 0, 1) := by decide +kernel
theorem d_TM_pass_6 : decode prog_12_method_67_code 6 = .ok (.getfield 7, 3) := by decide +kernel
theorem d_TM_pass_9 : decode prog_12_method_67_code 9 = .ok (.iconst 0, 1) := by decide +kernel
theorem d_TM_pass_10 : decode prog_12_method_67_code 10 = .ok (.iaload, 1) := by decide +kernel
theorem d_TM_pass_11 : decode prog_12_method_67_code 11 = .ok (.if_icmp .ge 53, 3) := by decide +kernel
theorem d_TM_pass_14 : decode prog_12_method_67_code 14 = .ok (.aload_n 0, 1) := by decide +kernel
theorem d_TM_pass_15 : decode prog_12_method_67_code 15 = .ok (.iload_n 3, 1) := by decide +kernel
theorem d_TM_pass_16 : decode prog_12_method_67_code 16 = .ok (.iload_n 1, 1) := by decide +kernel
theorem d_TM_pass_17 : decode prog_12_method_67_code 17 = .ok (.invokevirtual 299, 3) := by decide +kernel
theorem d_TM_pass_20 : decode prog_12_method_67_code 20 = .ok (.istore 4, 2) := by decide +kernel
theorem d_TM_pass_22 : decode prog_12_method_67_code 22 = .ok (.aload_n 0, 1) := by decide +kernel
theorem d_TM_pass_23 : decode prog_12_method_67_code 23 = .ok (.bipush 20, 2) := by decide +kernel
theorem d_TM_pass_25 : decode prog_12_method_67_code 25 = .ok (.invokevirtual 302, 3) := by decide +kernel
theorem d_TM_pass_28 : decode prog_12_method_67_code 28 = .ok (.ifCond .ne 15, 3) := by decide +kernel
theorem d_TM_pass_31 : decode prog_12_method_67_code 31 = .ok (.iload 4, 2) := by decide +kernel
theorem d_TM_pass_33 : decode prog_12_method_67_code 33 = .ok (.ifCond .ne 7, 3) := by decide +kernel
theorem d_TM_pass_36 : decode prog_12_method_67_code 36 = .ok (.iconst 1, 1) := by decide +kernel
theorem d_TM_pass_37 : decode prog_12_method_67_code 37 = .ok (.goto 4, 3) := by decide +kernel
theorem d_TM_pass_40 : decode prog_12_method_67_code 40 = .ok (.iconst 0, 1) := by decide +kernel
theorem d_TM_pass_41 : decode prog_12_method_67_code 41 = .ok (.istore 4, 2) := by decide +kernel
theorem d_TM_pass_43 : decode prog_12_method_67_code 43 = .ok (.iload_n 2, 1) := by decide +kernel
theorem d_TM_pass_44 : decode prog_12_method_67_code 44 = .ok (.iload 4, 2) := by decide +kernel
theorem d_TM_pass_46 : decode prog_12_method_67_code 46 = .ok (.ifCond .eq 9, 3) := by decide +kernel
theorem d_TM_pass_49 : decode prog_12_method_67_code 49 = .ok (.iconst 1, 1) := by decide +kernel
theorem d_TM_pass_50 : decode prog_12_method_67_code 50 = .ok (.iload_n 3, 1) := by decide +kernel
theorem d_TM_pass_51 : decode prog_12_method_67_code 51 = .ok (.ishl, 1) := by decide +kernel
theorem d_TM_pass_52 : decode prog_12_method_67_code 52 = .ok (.goto 4, 3) := by decide +kernel
theorem d_TM_pass_55 : decode prog_12_method_67_code 55 = .ok (.iconst 0, 1) := by decide +kernel
theorem d_TM_pass_56 : decode prog_12_method_67_code 56 = .ok (.ior, 1) := by decide +kernel
theorem d_TM_pass_57 : decode prog_12_method_67_code 57 = .ok (.istore_n 2, 1) := by decide +kernel
theorem d_TM_pass_58 : decode prog_12_method_67_code 58 = .ok (.iinc 3 1, 3) := by decide +kernel
theorem d_TM_pass_61 : decode prog_12_method_67_code 61 = .ok (.goto (-57), 3) := by decide +kernel
theorem d_TM_pass_64 : decode prog_12_method_67_code 64 = .ok (.iconst 0, 1) := by decide +kernel
theorem d_TM_pass_65 : decode prog_12_method_67_code 65 = .ok (.istore_n 3, 1) := by decide +kernel
theorem d_TM_pass_66 : decode prog_12_method_67_code 66 = .ok (.iload_n 3, 1) := by decide +kernel
theorem d_TM_pass_67 : decode prog_12_method_67_code 67 = .ok (.aload_n 0, 1) := by decide +kernel
theorem d_TM_pass_68 : decode prog_12_method_67_code 68 = .ok (.getfield 7, 3) := by decide +kernel
theorem d_TM_pass_71 : decode prog_12_method_67_code 71 = .ok (.iconst 0, 1) := by decide +kernel
theorem d_TM_pass_72 : decode prog_12_method_67_code 72 = .ok (.iaload, 1) := by decide +kernel
theorem d_TM_pass_73 : decode prog_12_method_67_code 73 = .ok (.if_icmp .ge 43, 3) := by decide +kernel
theorem d_TM_pass_76 : decode prog_12_method_67_code 76 = .ok (.aload_n 0, 1) := by decide +kernel
theorem d_TM_pass_77 : decode prog_12_method_67_code 77 = .ok (.getfield 47, 3) := by decide +kernel
theorem d_TM_pass_80 : decode prog_12_method_67_code 80 = .ok (.iload_n 3, 1) := by decide +kernel
theorem d_TM_pass_81 : decode prog_12_method_67_code 81 = .ok (.aload_n 0, 1) := by decide +kernel
theorem d_TM_pass_82 : decode prog_12_method_67_code 82 = .ok (.getfield 7, 3) := by decide +kernel
theorem d_TM_pass_85 : decode prog_12_method_67_code 85 = .ok (.bipush 10, 2) := by decide +kernel
theorem d_TM_pass_87 : decode prog_12_method_67_code 87 = .ok (.iload_n 3, 1) := by decide +kernel
theorem d_TM_pass_88 : decode prog_12_method_67_code 88 = .ok (.iadd, 1) := by decide +kernel
theorem d_TM_pass_89 : decode prog_12_method_67_code 89 = .ok (.iaload, 1) := by decide +kernel
theorem d_TM_pass_90 : decode prog_12_method_67_code 90 = .ok (.aload_n 0, 1) := by decide +kernel
theorem d_TM_pass_91 : decode prog_12_method_67_code 91 = .ok (.iload_n 3, 1) := by decide +kernel
theorem d_TM_pass_92 : decode prog_12_method_67_code 92 = .ok (.iload_n 1, 1) := by decide +kernel
theorem d_TM_pass_93 : decode prog_12_method_67_code 93 = .ok (.iload_n 2, 1) := by decide +kernel
theorem d_TM_pass_94 : decode prog_12_method_67_code 94 = .ok (.iload_n 3, 1) := by decide +kernel
theorem d_TM_pass_95 : decode prog_12_method_67_code 95 = .ok (.ishr, 1) := by decide +kernel
theorem d_TM_pass_96 : decode prog_12_method_67_code 96 = .ok (.iconst 1, 1) := by decide +kernel
theorem d_TM_pass_97 : decode prog_12_method_67_code 97 = .ok (.iand, 1) := by decide +kernel
theorem d_TM_pass_98 : decode prog_12_method_67_code 98 = .ok (.invokevirtual 305, 3) := by decide +kernel
theorem d_TM_pass_101 : decode prog_12_method_67_code 101 = .ok (.iadd, 1) := by decide +kernel
theorem d_TM_pass_102 : decode prog_12_method_67_code 102 = .ok (.i2l, 1) := by decide +kernel
theorem d_TM_pass_103 : decode prog_12_method_67_code 103 = .ok (.iconst 0, 1) := by decide +kernel
theorem d_TM_pass_104 : decode prog_12_method_67_code 104 = .ok (.bipush 9, 2) := by decide +kernel
theorem d_TM_pass_106 : decode prog_12_method_67_code 106 = .ok (.invokestatic 286, 3) := by decide +kernel
theorem d_TM_pass_109 : decode prog_12_method_67_code 109 = .ok (.iastore, 1) := by decide +kernel
theorem d_TM_pass_110 : decode prog_12_method_67_code 110 = .ok (.iinc 3 1, 3) := by decide +kernel
theorem d_TM_pass_113 : decode prog_12_method_67_code 113 = .ok (.goto (-47), 3) := by decide +kernel
theorem d_TM_pass_116 : decode prog_12_method_67_code 116 = .ok (.iconst 0, 1) := by decide +kernel
theorem d_TM_pass_117 : decode prog_12_method_67_code 117 = .ok (.istore_n 3, 1) := by decide +kernel
theorem d_TM_pass_118 : decode prog_12_method_67_code 118 = .ok (.iload_n 3, 1) := by decide +kernel
theorem d_TM_pass_119 : decode prog_12_method_67_code 119 = .ok (.aload_n 0, 1) := by decide +kernel
theorem d_TM_pass_120 : decode prog_12_method_67_code 120 = .ok (.getfield 7, 3) := by decide +kernel
theorem d_TM_pass_123 : decode prog_12_method_67_code 123 = .ok (.iconst 0, 1) := by decide +kernel
theorem d_TM_pass_124 : decode prog_12_method_67_code 124 = .ok (.iaload, 1) := by decide +kernel
theorem d_TM_pass_125 : decode prog_12_method_67_code 125 = .ok (.if_icmp .ge 24, 3) := by decide +kernel
theorem d_TM_pass_128 : decode prog_12_method_67_code 128 = .ok (.aload_n 0, 1) := by decide +kernel
theorem d_TM_pass_129 : decode prog_12_method_67_code 129 = .ok (.getfield 7, 3) := by decide +kernel
theorem d_TM_pass_132 : decode prog_12_method_67_code 132 = .ok (.bipush 10, 2) := by decide +kernel
theorem d_TM_pass_134 : decode prog_12_method_67_code 134 = .ok (.iload_n 3, 1) := by decide +kernel
theorem d_TM_pass_135 : decode prog_12_method_67_code 135 = .ok (.iadd, 1) := by decide +kernel
theorem d_TM_pass_136 : decode prog_12_method_67_code 136 = .ok (.aload_n 0, 1) := by decide +kernel
theorem d_TM_pass_137 : decode prog_12_method_67_code 137 = .ok (.getfield 47, 3) := by decide +kernel
theorem d_TM_pass_140 : decode prog_12_method_67_code 140 = .ok (.iload_n 3, 1) := by decide +kernel
theorem d_TM_pass_141 : decode prog_12_method_67_code 141 = .ok (.iaload, 1) := by decide +kernel
theorem d_TM_pass_142 : decode prog_12_method_67_code 142 = .ok (.iastore, 1) := by decide +kernel
theorem d_TM_pass_143 : decode prog_12_method_67_code 143 = .ok (.iinc 3 1, 3) := by decide +kernel
theorem d_TM_pass_146 : decode prog_12_method_67_code 146 = .ok (.goto (-28), 3) := by decide +kernel
theorem d_TM_pass_149 : decode prog_12_method_67_code 149 = .ok (.aload_n 0, 1) := by decide +kernel
theorem d_TM_pass_150 : decode prog_12_method_67_code 150 = .ok (.getfield 7, 3) := by decide +kernel
theorem d_TM_pass_153 : decode prog_12_method_67_code 153 = .ok (.bipush 9, 2) := by decide +kernel
theorem d_TM_pass_155 : decode prog_12_method_67_code 155 = .ok (.iload_n 2, 1) := by decide +kernel
theorem d_TM_pass_156 : decode prog_12_method_67_code 156 = .ok (.iastore, 1) := by decide +kernel
theorem d_TM_pass_157 : decode prog_12_method_67_code 157 = .ok (.aload_n 0, 1) := by decide +kernel
theorem d_TM_pass_158 : decode prog_12_method_67_code 158 = .ok (.getfield 7, 3) := by decide +kernel
theorem d_TM_pass_161 : decode prog_12_method_67_code 161 = .ok (.bipush 7, 2) := by decide +kernel
theorem d_TM_pass_163 : decode prog_12_method_67_code 163 = .ok (.iload_n 2, 1) := by decide +kernel
theorem d_TM_pass_164 : decode prog_12_method_67_code 164 = .ok (.invokestatic 267, 3) := by decide +kernel
theorem d_TM_pass_167 : decode prog_12_method_67_code 167 = .ok (.iastore, 1) := by decide +kernel
theorem d_TM_pass_168 : decode prog_12_method_67_code 168 = .ok (.aload_n 0, 1) := by decide +kernel
theorem d_TM_pass_169 : decode prog_12_method_67_code 169 = .ok (.aload_n 0, 1) := by decide +kernel
theorem d_TM_pass_170 : decode prog_12_method_67_code 170 = .ok (.getfield 7, 3) := by decide +kernel
theorem d_TM_pass_173 : decode prog_12_method_67_code 173 = .ok (.iconst 5, 1) := by decide +kernel
theorem d_TM_pass_174 : decode prog_12_method_67_code 174 = .ok (.iaload, 1) := by decide +kernel
theorem d_TM_pass_175 : decode prog_12_method_67_code 175 = .ok (.iload_n 1, 1) := by decide +kernel
theorem d_TM_pass_176 : decode prog_12_method_67_code 176 = .ok (.invokevirtual 308, 3) := by decide +kernel
theorem d_TM_pass_179 : decode prog_12_method_67_code 179 = .ok (.aload_n 0, 1) := by decide +kernel
theorem d_TM_pass_180 : decode prog_12_method_67_code 180 = .ok (.getfield 7, 3) := by decide +kernel
theorem d_TM_pass_183 : decode prog_12_method_67_code 183 = .ok (.iconst 5, 1) := by decide +kernel
theorem d_TM_pass_184 : decode prog_12_method_67_code 184 = .ok (.dup2, 1) := by decide +kernel
theorem d_TM_pass_185 : decode prog_12_method_67_code 185 = .ok (.iaload, 1) := by decide +kernel
theorem d_TM_pass_186 : decode prog_12_method_67_code 186 = .ok (.iconst 1, 1) := by decide +kernel
theorem d_TM_pass_187 : decode prog_12_method_67_code 187 = .ok (.iadd, 1) := by decide +kernel
theorem d_TM_pass_188 : decode prog_12_method_67_code 188 = .ok (.iastore, 1) := by decide +kernel
theorem d_TM_pass_189 : decode prog_12_method_67_code 189 = .ok (.return_, 1) := by decide +kernel
theorem d_TM_isYes_0 : decode prog_12_method_62_code 0 = .ok (.aload_n 0, 1) := by decide +kernel
theorem d_TM_isYes_1 : decode prog_12_method_62_code 1 = .ok (.aload_n 0, 1) := by decide +kernel
theorem d_TM_isYes_2 : decode prog_12_method_62_code 2 = .ok (.getfield 7, 3) := by decide +kernel
theorem d_TM_isYes_5 : decode prog_12_method_62_code 5 = .ok (.iconst 2, 1) := by decide +kernel
theorem d_TM_isYes_6 : decode prog_12_method_62_code 6 = .ok (.iaload, 1) := by decide +kernel
theorem d_TM_isYes_7 : decode prog_12_method_62_code 7 = .ok (.iload_n 1, 1) := by decide +kernel
theorem d_TM_isYes_8 : decode prog_12_method_62_code 8 = .ok (.iload_n 2, 1) := by decide +kernel
theorem d_TM_isYes_9 : decode prog_12_method_62_code 9 = .ok (.invokevirtual 283, 3) := by decide +kernel
theorem d_TM_isYes_12 : decode prog_12_method_62_code 12 = .ok (.ireturn, 1) := by decide +kernel
theorem d_TM_isYesBy_0 : decode prog_12_method_61_code 0 = .ok (.aload_n 0, 1) := by decide +kernel
theorem d_TM_isYesBy_1 : decode prog_12_method_61_code 1 = .ok (.iload_n 1, 1) := by decide +kernel
theorem d_TM_isYesBy_2 : decode prog_12_method_61_code 2 = .ok (.iconst 0, 1) := by decide +kernel
theorem d_TM_isYesBy_3 : decode prog_12_method_61_code 3 = .ok (.invokevirtual 270, 3) := by decide +kernel
theorem d_TM_isYesBy_6 : decode prog_12_method_61_code 6 = .ok (.istore 4, 2) := by decide +kernel
theorem d_TM_isYesBy_8 : decode prog_12_method_61_code 8 = .ok (.aload_n 0, 1) := by decide +kernel
theorem d_TM_isYesBy_9 : decode prog_12_method_61_code 9 = .ok (.iload_n 2, 1) := by decide +kernel
theorem d_TM_isYesBy_10 : decode prog_12_method_61_code 10 = .ok (.iload_n 3, 1) := by decide +kernel
theorem d_TM_isYesBy_11 : decode prog_12_method_61_code 11 = .ok (.iconst 0, 1) := by decide +kernel
theorem d_TM_isYesBy_12 : decode prog_12_method_61_code 12 = .ok (.invokevirtual 273, 3) := by decide +kernel
theorem d_TM_isYesBy_15 : decode prog_12_method_61_code 15 = .ok (.iload 4, 2) := by decide +kernel
theorem d_TM_isYesBy_17 : decode prog_12_method_61_code 17 = .ok (.iconst (-1), 1) := by decide +kernel
theorem d_TM_isYesBy_18 : decode prog_12_method_61_code 18 = .ok (.if_icmp .ne 12, 3) := by decide +kernel
theorem d_TM_isYesBy_21 : decode prog_12_method_61_code 21 = .ok (.aload_n 0, 1) := by decide +kernel
theorem d_TM_isYesBy_22 : decode prog_12_method_61_code 22 = .ok (.iload_n 2, 1) := by decide +kernel
theorem d_TM_isYesBy_23 : decode prog_12_method_61_code 23 = .ok (.iload_n 3, 1) := by decide +kernel
theorem d_TM_isYesBy_24 : decode prog_12_method_61_code 24 = .ok (.invokevirtual 277, 3) := by decide +kernel
theorem d_TM_isYesBy_27 : decode prog_12_method_61_code 27 = .ok (.goto 20, 3) := by decide +kernel
theorem d_TM_isYesBy_30 : decode prog_12_method_61_code 30 = .ok (.aload_n 0, 1) := by decide +kernel
theorem d_TM_isYesBy_31 : decode prog_12_method_61_code 31 = .ok (.iload_n 1, 1) := by decide +kernel
theorem d_TM_isYesBy_32 : decode prog_12_method_61_code 32 = .ok (.iload 4, 2) := by decide +kernel
theorem d_TM_isYesBy_34 : decode prog_12_method_61_code 34 = .ok (.invokevirtual 280, 3) := by decide +kernel
theorem d_TM_isYesBy_37 : decode prog_12_method_61_code 37 = .ok (.lconst 0, 1) := by decide +kernel
theorem d_TM_isYesBy_38 : decode prog_12_method_61_code 38 = .ok (.lcmp, 1) := by decide +kernel
theorem d_TM_isYesBy_39 : decode prog_12_method_61_code 39 = .ok (.ifCond .le 7, 3) := by decide +kernel
theorem d_TM_isYesBy_42 : decode prog_12_method_61_code 42 = .ok (.iconst 1, 1) := by decide +kernel
theorem d_TM_isYesBy_43 : decode prog_12_method_61_code 43 = .ok (.goto 4, 3) := by decide +kernel
theorem d_TM_isYesBy_46 : decode prog_12_method_61_code 46 = .ok (.iconst 0, 1) := by decide +kernel
theorem d_TM_isYesBy_47 : decode prog_12_method_61_code 47 = .ok (.ireturn, 1) := by decide +kernel
theorem d_TM_clauseOf_0 : decode prog_12_method_58_code 0 = .ok (.iconst 0, 1) := by decide +kernel
theorem d_TM_clauseOf_1 : decode prog_12_method_58_code 1 = .ok (.istore_n 3, 1) := by decide +kernel
theorem d_TM_clauseOf_2 : decode prog_12_method_58_code 2 = .ok (.iload_n 1, 1) := by decide +kernel
theorem d_TM_clauseOf_3 : decode prog_12_method_58_code 3 = .ok (.ifCond .lt 45, 3) := by decide +kernel
theorem d_TM_clauseOf_6 : decode prog_12_method_58_code 6 = .ok (.iload_n 3, 1) := by decide +kernel
theorem d_TM_clauseOf_7 : decode prog_12_method_58_code 7 = .ok (.aload_n 0, 1) := by decide +kernel
theorem d_TM_clauseOf_8 : decode prog_12_method_58_code 8 = .ok (.getfield 16, 3) := by decide +kernel
theorem d_TM_clauseOf_11 : decode prog_12_method_58_code 11 = .ok (.sipush 681, 3) := by decide +kernel
theorem d_TM_clauseOf_14 : decode prog_12_method_58_code 14 = .ok (.iload_n 1, 1) := by decide +kernel
theorem d_TM_clauseOf_15 : decode prog_12_method_58_code 15 = .ok (.imul, 1) := by decide +kernel
theorem d_TM_clauseOf_16 : decode prog_12_method_58_code 16 = .ok (.iaload, 1) := by decide +kernel
theorem d_TM_clauseOf_17 : decode prog_12_method_58_code 17 = .ok (.if_icmp .ge 31, 3) := by decide +kernel
theorem d_TM_clauseOf_20 : decode prog_12_method_58_code 20 = .ok (.aload_n 0, 1) := by decide +kernel
theorem d_TM_clauseOf_21 : decode prog_12_method_58_code 21 = .ok (.getfield 16, 3) := by decide +kernel
theorem d_TM_clauseOf_24 : decode prog_12_method_58_code 24 = .ok (.sipush 681, 3) := by decide +kernel
theorem d_TM_clauseOf_27 : decode prog_12_method_58_code 27 = .ok (.iload_n 1, 1) := by decide +kernel
theorem d_TM_clauseOf_28 : decode prog_12_method_58_code 28 = .ok (.imul, 1) := by decide +kernel
theorem d_TM_clauseOf_29 : decode prog_12_method_58_code 29 = .ok (.iconst 1, 1) := by decide +kernel
theorem d_TM_clauseOf_30 : decode prog_12_method_58_code 30 = .ok (.iadd, 1) := by decide +kernel
theorem d_TM_clauseOf_31 : decode prog_12_method_58_code 31 = .ok (.iconst 3, 1) := by decide +kernel
theorem d_TM_clauseOf_32 : decode prog_12_method_58_code 32 = .ok (.iload_n 3, 1) := by decide +kernel
theorem d_TM_clauseOf_33 : decode prog_12_method_58_code 33 = .ok (.imul, 1) := by decide +kernel
theorem d_TM_clauseOf_34 : decode prog_12_method_58_code 34 = .ok (.iadd, 1) := by decide +kernel
theorem d_TM_clauseOf_35 : decode prog_12_method_58_code 35 = .ok (.iaload, 1) := by decide +kernel
theorem d_TM_clauseOf_36 : decode prog_12_method_58_code 36 = .ok (.iload_n 2, 1) := by decide +kernel
theorem d_TM_clauseOf_37 : decode prog_12_method_58_code 37 = .ok (.if_icmp .ne 5, 3) := by decide +kernel
theorem d_TM_clauseOf_40 : decode prog_12_method_58_code 40 = .ok (.iload_n 3, 1) := by decide +kernel
theorem d_TM_clauseOf_41 : decode prog_12_method_58_code 41 = .ok (.ireturn, 1) := by decide +kernel
theorem d_TM_clauseOf_42 : decode prog_12_method_58_code 42 = .ok (.iinc 3 1, 3) := by decide +kernel
theorem d_TM_clauseOf_45 : decode prog_12_method_58_code 45 = .ok (.goto (-43), 3) := by decide +kernel
theorem d_TM_clauseOf_48 : decode prog_12_method_58_code 48 = .ok (.iconst (-1), 1) := by decide +kernel
theorem d_TM_clauseOf_49 : decode prog_12_method_58_code 49 = .ok (.ireturn, 1) := by decide +kernel
theorem d_TM_name_0 : decode prog_12_method_59_code 0 = .ok (.aload_n 0, 1) := by decide +kernel
theorem d_TM_name_1 : decode prog_12_method_59_code 1 = .ok (.getfield 32, 3) := by decide +kernel
theorem d_TM_name_4 : decode prog_12_method_59_code 4 = .ok (.iconst 0, 1) := by decide +kernel
theorem d_TM_name_5 : decode prog_12_method_59_code 5 = .ok (.aload_n 0, 1) := by decide +kernel
theorem d_TM_name_6 : decode prog_12_method_59_code 6 = .ok (.getfield 7, 3) := by decide +kernel
theorem d_TM_name_9 : decode prog_12_method_59_code 9 = .ok (.iconst 5, 1) := by decide +kernel
theorem d_TM_name_10 : decode prog_12_method_59_code 10 = .ok (.iaload, 1) := by decide +kernel
theorem d_TM_name_11 : decode prog_12_method_59_code 11 = .ok (.iastore, 1) := by decide +kernel
theorem d_TM_name_12 : decode prog_12_method_59_code 12 = .ok (.aload_n 0, 1) := by decide +kernel
theorem d_TM_name_13 : decode prog_12_method_59_code 13 = .ok (.getfield 32, 3) := by decide +kernel
theorem d_TM_name_16 : decode prog_12_method_59_code 16 = .ok (.iconst 1, 1) := by decide +kernel
theorem d_TM_name_17 : decode prog_12_method_59_code 17 = .ok (.iload_n 1, 1) := by decide +kernel
theorem d_TM_name_18 : decode prog_12_method_59_code 18 = .ok (.iastore, 1) := by decide +kernel
theorem d_TM_name_19 : decode prog_12_method_59_code 19 = .ok (.aload_n 0, 1) := by decide +kernel
theorem d_TM_name_20 : decode prog_12_method_59_code 20 = .ok (.getfield 32, 3) := by decide +kernel
theorem d_TM_name_23 : decode prog_12_method_59_code 23 = .ok (.iconst 2, 1) := by decide +kernel
theorem d_TM_name_24 : decode prog_12_method_59_code 24 = .ok (.aload_n 0, 1) := by decide +kernel
theorem d_TM_name_25 : decode prog_12_method_59_code 25 = .ok (.getfield 7, 3) := by decide +kernel
theorem d_TM_name_28 : decode prog_12_method_59_code 28 = .ok (.bipush 10, 2) := by decide +kernel
theorem d_TM_name_30 : decode prog_12_method_59_code 30 = .ok (.iload_n 1, 1) := by decide +kernel
theorem d_TM_name_31 : decode prog_12_method_59_code 31 = .ok (.iadd, 1) := by decide +kernel
theorem d_TM_name_32 : decode prog_12_method_59_code 32 = .ok (.iaload, 1) := by decide +kernel
theorem d_TM_name_33 : decode prog_12_method_59_code 33 = .ok (.iastore, 1) := by decide +kernel
theorem d_TM_name_34 : decode prog_12_method_59_code 34 = .ok (.aload_n 0, 1) := by decide +kernel
theorem d_TM_name_35 : decode prog_12_method_59_code 35 = .ok (.getfield 32, 3) := by decide +kernel
theorem d_TM_name_38 : decode prog_12_method_59_code 38 = .ok (.iconst 3, 1) := by decide +kernel
theorem d_TM_name_39 : decode prog_12_method_59_code 39 = .ok (.aload_n 0, 1) := by decide +kernel
theorem d_TM_name_40 : decode prog_12_method_59_code 40 = .ok (.getfield 7, 3) := by decide +kernel
theorem d_TM_name_43 : decode prog_12_method_59_code 43 = .ok (.bipush 18, 2) := by decide +kernel
theorem d_TM_name_45 : decode prog_12_method_59_code 45 = .ok (.iload_n 1, 1) := by decide +kernel
theorem d_TM_name_46 : decode prog_12_method_59_code 46 = .ok (.iadd, 1) := by decide +kernel
theorem d_TM_name_47 : decode prog_12_method_59_code 47 = .ok (.iaload, 1) := by decide +kernel
theorem d_TM_name_48 : decode prog_12_method_59_code 48 = .ok (.iastore, 1) := by decide +kernel
theorem d_TM_name_49 : decode prog_12_method_59_code 49 = .ok (.aload_n 0, 1) := by decide +kernel
theorem d_TM_name_50 : decode prog_12_method_59_code 50 = .ok (.getfield 32, 3) := by decide +kernel
theorem d_TM_name_53 : decode prog_12_method_59_code 53 = .ok (.iconst 4, 1) := by decide +kernel
theorem d_TM_name_54 : decode prog_12_method_59_code 54 = .ok (.aload_n 0, 1) := by decide +kernel
theorem d_TM_name_55 : decode prog_12_method_59_code 55 = .ok (.getfield 7, 3) := by decide +kernel
theorem d_TM_name_58 : decode prog_12_method_59_code 58 = .ok (.iconst 0, 1) := by decide +kernel
theorem d_TM_name_59 : decode prog_12_method_59_code 59 = .ok (.iaload, 1) := by decide +kernel
theorem d_TM_name_60 : decode prog_12_method_59_code 60 = .ok (.iastore, 1) := by decide +kernel
theorem d_TM_name_61 : decode prog_12_method_59_code 61 = .ok (.aload_n 0, 1) := by decide +kernel
theorem d_TM_name_62 : decode prog_12_method_59_code 62 = .ok (.getfield 32, 3) := by decide +kernel
theorem d_TM_name_65 : decode prog_12_method_59_code 65 = .ok (.iconst 5, 1) := by decide +kernel
theorem d_TM_name_66 : decode prog_12_method_59_code 66 = .ok (.aload_n 0, 1) := by decide +kernel
theorem d_TM_name_67 : decode prog_12_method_59_code 67 = .ok (.getfield 7, 3) := by decide +kernel
theorem d_TM_name_70 : decode prog_12_method_59_code 70 = .ok (.bipush 34, 2) := by decide +kernel
theorem d_TM_name_72 : decode prog_12_method_59_code 72 = .ok (.iload_n 1, 1) := by decide +kernel
theorem d_TM_name_73 : decode prog_12_method_59_code 73 = .ok (.iadd, 1) := by decide +kernel
theorem d_TM_name_74 : decode prog_12_method_59_code 74 = .ok (.iaload, 1) := by decide +kernel
theorem d_TM_name_75 : decode prog_12_method_59_code 75 = .ok (.aload_n 0, 1) := by decide +kernel
theorem d_TM_name_76 : decode prog_12_method_59_code 76 = .ok (.getfield 7, 3) := by decide +kernel
theorem d_TM_name_79 : decode prog_12_method_59_code 79 = .ok (.bipush 9, 2) := by decide +kernel
theorem d_TM_name_81 : decode prog_12_method_59_code 81 = .ok (.iaload, 1) := by decide +kernel
theorem d_TM_name_82 : decode prog_12_method_59_code 82 = .ok (.iand, 1) := by decide +kernel
theorem d_TM_name_83 : decode prog_12_method_59_code 83 = .ok (.invokestatic 267, 3) := by decide +kernel
theorem d_TM_name_86 : decode prog_12_method_59_code 86 = .ok (.iastore, 1) := by decide +kernel
theorem d_TM_name_87 : decode prog_12_method_59_code 87 = .ok (.aload_n 0, 1) := by decide +kernel
theorem d_TM_name_88 : decode prog_12_method_59_code 88 = .ok (.getfield 32, 3) := by decide +kernel
theorem d_TM_name_91 : decode prog_12_method_59_code 91 = .ok (.bipush 6, 2) := by decide +kernel
theorem d_TM_name_93 : decode prog_12_method_59_code 93 = .ok (.iload_n 2, 1) := by decide +kernel
theorem d_TM_name_94 : decode prog_12_method_59_code 94 = .ok (.iastore, 1) := by decide +kernel
theorem d_TM_name_95 : decode prog_12_method_59_code 95 = .ok (.aload_n 0, 1) := by decide +kernel
theorem d_TM_name_96 : decode prog_12_method_59_code 96 = .ok (.getfield 32, 3) := by decide +kernel
theorem d_TM_name_99 : decode prog_12_method_59_code 99 = .ok (.bipush 7, 2) := by decide +kernel
theorem d_TM_name_101 : decode prog_12_method_59_code 101 = .ok (.iload_n 3, 1) := by decide +kernel
theorem d_TM_name_102 : decode prog_12_method_59_code 102 = .ok (.iastore, 1) := by decide +kernel
theorem d_TM_name_103 : decode prog_12_method_59_code 103 = .ok (.return_, 1) := by decide +kernel
theorem d_TM_bits_0 : decode prog_12_method_6_code 0 = .ok (.iconst 0, 1) := by decide +kernel
theorem d_TM_bits_1 : decode prog_12_method_6_code 1 = .ok (.istore_n 1, 1) := by decide +kernel
theorem d_TM_bits_2 : decode prog_12_method_6_code 2 = .ok (.iload_n 0, 1) := by decide +kernel
theorem d_TM_bits_3 : decode prog_12_method_6_code 3 = .ok (.istore_n 2, 1) := by decide +kernel
theorem d_TM_bits_4 : decode prog_12_method_6_code 4 = .ok (.iload_n 2, 1) := by decide +kernel
theorem d_TM_bits_5 : decode prog_12_method_6_code 5 = .ok (.ifCond .eq 15, 3) := by decide +kernel
theorem d_TM_bits_8 : decode prog_12_method_6_code 8 = .ok (.iinc 1 1, 3) := by decide +kernel
theorem d_TM_bits_11 : decode prog_12_method_6_code 11 = .ok (.iload_n 2, 1) := by decide +kernel
theorem d_TM_bits_12 : decode prog_12_method_6_code 12 = .ok (.iload_n 2, 1) := by decide +kernel
theorem d_TM_bits_13 : decode prog_12_method_6_code 13 = .ok (.iconst 1, 1) := by decide +kernel
theorem d_TM_bits_14 : decode prog_12_method_6_code 14 = .ok (.isub, 1) := by decide +kernel
theorem d_TM_bits_15 : decode prog_12_method_6_code 15 = .ok (.iand, 1) := by decide +kernel
theorem d_TM_bits_16 : decode prog_12_method_6_code 16 = .ok (.istore_n 2, 1) := by decide +kernel
theorem d_TM_bits_17 : decode prog_12_method_6_code 17 = .ok (.goto (-13), 3) := by decide +kernel
theorem d_TM_bits_20 : decode prog_12_method_6_code 20 = .ok (.iload_n 1, 1) := by decide +kernel
theorem d_TM_bits_21 : decode prog_12_method_6_code 21 = .ok (.ireturn, 1) := by decide +kernel
theorem d_TM_isYesBySort_0 : decode prog_12_method_60_code 0 = .ok (.aload_n 0, 1) := by decide +kernel
theorem d_TM_isYesBySort_1 : decode prog_12_method_60_code 1 = .ok (.getfield 7, 3) := by decide +kernel
theorem d_TM_isYesBySort_4 : decode prog_12_method_60_code 4 = .ok (.bipush 10, 2) := by decide +kernel
theorem d_TM_isYesBySort_6 : decode prog_12_method_60_code 6 = .ok (.iload_n 1, 1) := by decide +kernel
theorem d_TM_isYesBySort_7 : decode prog_12_method_60_code 7 = .ok (.iadd, 1) := by decide +kernel
theorem d_TM_isYesBySort_8 : decode prog_12_method_60_code 8 = .ok (.iaload, 1) := by decide +kernel
theorem d_TM_isYesBySort_9 : decode prog_12_method_60_code 9 = .ok (.istore_n 3, 1) := by decide +kernel
theorem d_TM_isYesBySort_10 : decode prog_12_method_60_code 10 = .ok (.aload_n 0, 1) := by decide +kernel
theorem d_TM_isYesBySort_11 : decode prog_12_method_60_code 11 = .ok (.getfield 7, 3) := by decide +kernel
theorem d_TM_isYesBySort_14 : decode prog_12_method_60_code 14 = .ok (.bipush 18, 2) := by decide +kernel
theorem d_TM_isYesBySort_16 : decode prog_12_method_60_code 16 = .ok (.iload_n 1, 1) := by decide +kernel
theorem d_TM_isYesBySort_17 : decode prog_12_method_60_code 17 = .ok (.iadd, 1) := by decide +kernel
theorem d_TM_isYesBySort_18 : decode prog_12_method_60_code 18 = .ok (.iaload, 1) := by decide +kernel
theorem d_TM_isYesBySort_19 : decode prog_12_method_60_code 19 = .ok (.tableswitch 72 0 2 #[25, 36, 54], 25) := by decide +kernel
theorem d_TM_isYesBySort_44 : decode prog_12_method_60_code 44 = .ok (.iload_n 3, 1) := by decide +kernel
theorem d_TM_isYesBySort_45 : decode prog_12_method_60_code 45 = .ok (.iconst 4, 1) := by decide +kernel
theorem d_TM_isYesBySort_46 : decode prog_12_method_60_code 46 = .ok (.if_icmp .le 7, 3) := by decide +kernel
theorem d_TM_isYesBySort_49 : decode prog_12_method_60_code 49 = .ok (.iconst 1, 1) := by decide +kernel
theorem d_TM_isYesBySort_50 : decode prog_12_method_60_code 50 = .ok (.goto 4, 3) := by decide +kernel
theorem d_TM_isYesBySort_53 : decode prog_12_method_60_code 53 = .ok (.iconst 0, 1) := by decide +kernel
theorem d_TM_isYesBySort_54 : decode prog_12_method_60_code 54 = .ok (.ireturn, 1) := by decide +kernel
theorem d_TM_isYesBySort_55 : decode prog_12_method_60_code 55 = .ok (.iconst 2, 1) := by decide +kernel
theorem d_TM_isYesBySort_56 : decode prog_12_method_60_code 56 = .ok (.iload_n 2, 1) := by decide +kernel
theorem d_TM_isYesBySort_57 : decode prog_12_method_60_code 57 = .ok (.imul, 1) := by decide +kernel
theorem d_TM_isYesBySort_58 : decode prog_12_method_60_code 58 = .ok (.aload_n 0, 1) := by decide +kernel
theorem d_TM_isYesBySort_59 : decode prog_12_method_60_code 59 = .ok (.getfield 7, 3) := by decide +kernel
theorem d_TM_isYesBySort_62 : decode prog_12_method_60_code 62 = .ok (.iconst 0, 1) := by decide +kernel
theorem d_TM_isYesBySort_63 : decode prog_12_method_60_code 63 = .ok (.iaload, 1) := by decide +kernel
theorem d_TM_isYesBySort_64 : decode prog_12_method_60_code 64 = .ok (.if_icmp .lt 7, 3) := by decide +kernel
theorem d_TM_isYesBySort_67 : decode prog_12_method_60_code 67 = .ok (.iconst 1, 1) := by decide +kernel
theorem d_TM_isYesBySort_68 : decode prog_12_method_60_code 68 = .ok (.goto 4, 3) := by decide +kernel
theorem d_TM_isYesBySort_71 : decode prog_12_method_60_code 71 = .ok (.iconst 0, 1) := by decide +kernel
theorem d_TM_isYesBySort_72 : decode prog_12_method_60_code 72 = .ok (.ireturn, 1) := by decide +kernel
theorem d_TM_isYesBySort_73 : decode prog_12_method_60_code 73 = .ok (.iconst 2, 1) := by decide +kernel
theorem d_TM_isYesBySort_74 : decode prog_12_method_60_code 74 = .ok (.iload_n 2, 1) := by decide +kernel
theorem d_TM_isYesBySort_75 : decode prog_12_method_60_code 75 = .ok (.imul, 1) := by decide +kernel
theorem d_TM_isYesBySort_76 : decode prog_12_method_60_code 76 = .ok (.aload_n 0, 1) := by decide +kernel
theorem d_TM_isYesBySort_77 : decode prog_12_method_60_code 77 = .ok (.getfield 7, 3) := by decide +kernel
theorem d_TM_isYesBySort_80 : decode prog_12_method_60_code 80 = .ok (.iconst 0, 1) := by decide +kernel
theorem d_TM_isYesBySort_81 : decode prog_12_method_60_code 81 = .ok (.iaload, 1) := by decide +kernel
theorem d_TM_isYesBySort_82 : decode prog_12_method_60_code 82 = .ok (.if_icmp .ge 7, 3) := by decide +kernel
theorem d_TM_isYesBySort_85 : decode prog_12_method_60_code 85 = .ok (.iconst 1, 1) := by decide +kernel
theorem d_TM_isYesBySort_86 : decode prog_12_method_60_code 86 = .ok (.goto 4, 3) := by decide +kernel
theorem d_TM_isYesBySort_89 : decode prog_12_method_60_code 89 = .ok (.iconst 0, 1) := by decide +kernel
theorem d_TM_isYesBySort_90 : decode prog_12_method_60_code 90 = .ok (.ireturn, 1) := by decide +kernel
theorem d_TM_isYesBySort_91 : decode prog_12_method_60_code 91 = .ok (.iload_n 2, 1) := by decide +kernel
theorem d_TM_isYesBySort_92 : decode prog_12_method_60_code 92 = .ok (.iload_n 3, 1) := by decide +kernel
theorem d_TM_isYesBySort_93 : decode prog_12_method_60_code 93 = .ok (.isub, 1) := by decide +kernel
theorem d_TM_isYesBySort_94 : decode prog_12_method_60_code 94 = .ok (.bipush (-2), 2) := by decide +kernel
theorem d_TM_isYesBySort_96 : decode prog_12_method_60_code 96 = .ok (.iconst 2, 1) := by decide +kernel
theorem d_TM_isYesBySort_97 : decode prog_12_method_60_code 97 = .ok (.invokestatic 69, 3) := by decide +kernel
theorem d_TM_isYesBySort_100 : decode prog_12_method_60_code 100 = .ok (.ireturn, 1) := by decide +kernel
theorem d_TM_summedUp_0 : decode prog_12_method_57_code 0 = .ok (.sipush 681, 3) := by decide +kernel
theorem d_TM_summedUp_3 : decode prog_12_method_57_code 3 = .ok (.iload_n 1, 1) := by decide +kernel
theorem d_TM_summedUp_4 : decode prog_12_method_57_code 4 = .ok (.imul, 1) := by decide +kernel
theorem d_TM_summedUp_5 : decode prog_12_method_57_code 5 = .ok (.iconst 1, 1) := by decide +kernel
theorem d_TM_summedUp_6 : decode prog_12_method_57_code 6 = .ok (.iadd, 1) := by decide +kernel
theorem d_TM_summedUp_7 : decode prog_12_method_57_code 7 = .ok (.iconst 3, 1) := by decide +kernel
theorem d_TM_summedUp_8 : decode prog_12_method_57_code 8 = .ok (.iload_n 2, 1) := by decide +kernel
theorem d_TM_summedUp_9 : decode prog_12_method_57_code 9 = .ok (.imul, 1) := by decide +kernel
theorem d_TM_summedUp_10 : decode prog_12_method_57_code 10 = .ok (.iadd, 1) := by decide +kernel
theorem d_TM_summedUp_11 : decode prog_12_method_57_code 11 = .ok (.istore_n 3, 1) := by decide +kernel
theorem d_TM_summedUp_12 : decode prog_12_method_57_code 12 = .ok (.sipush 681, 3) := by decide +kernel
theorem d_TM_summedUp_15 : decode prog_12_method_57_code 15 = .ok (.iload_n 1, 1) := by decide +kernel
theorem d_TM_summedUp_16 : decode prog_12_method_57_code 16 = .ok (.imul, 1) := by decide +kernel
theorem d_TM_summedUp_17 : decode prog_12_method_57_code 17 = .ok (.bipush 73, 2) := by decide +kernel
theorem d_TM_summedUp_19 : decode prog_12_method_57_code 19 = .ok (.iadd, 1) := by decide +kernel
theorem d_TM_summedUp_20 : decode prog_12_method_57_code 20 = .ok (.istore 4, 2) := by decide +kernel
theorem d_TM_summedUp_22 : decode prog_12_method_57_code 22 = .ok (.iconst 0, 1) := by decide +kernel
theorem d_TM_summedUp_23 : decode prog_12_method_57_code 23 = .ok (.istore 5, 2) := by decide +kernel
theorem d_TM_summedUp_25 : decode prog_12_method_57_code 25 = .ok (.iconst 0, 1) := by decide +kernel
theorem d_TM_summedUp_26 : decode prog_12_method_57_code 26 = .ok (.istore 6, 2) := by decide +kernel
theorem d_TM_summedUp_28 : decode prog_12_method_57_code 28 = .ok (.aload_n 0, 1) := by decide +kernel
theorem d_TM_summedUp_29 : decode prog_12_method_57_code 29 = .ok (.getfield 16, 3) := by decide +kernel
theorem d_TM_summedUp_32 : decode prog_12_method_57_code 32 = .ok (.iload_n 3, 1) := by decide +kernel
theorem d_TM_summedUp_33 : decode prog_12_method_57_code 33 = .ok (.iconst 1, 1) := by decide +kernel
theorem d_TM_summedUp_34 : decode prog_12_method_57_code 34 = .ok (.iadd, 1) := by decide +kernel
theorem d_TM_summedUp_35 : decode prog_12_method_57_code 35 = .ok (.iaload, 1) := by decide +kernel
theorem d_TM_summedUp_36 : decode prog_12_method_57_code 36 = .ok (.istore 7, 2) := by decide +kernel
theorem d_TM_summedUp_38 : decode prog_12_method_57_code 38 = .ok (.iload 7, 2) := by decide +kernel
theorem d_TM_summedUp_40 : decode prog_12_method_57_code 40 = .ok (.aload_n 0, 1) := by decide +kernel
theorem d_TM_summedUp_41 : decode prog_12_method_57_code 41 = .ok (.getfield 16, 3) := by decide +kernel
theorem d_TM_summedUp_44 : decode prog_12_method_57_code 44 = .ok (.iload_n 3, 1) := by decide +kernel
theorem d_TM_summedUp_45 : decode prog_12_method_57_code 45 = .ok (.iconst 2, 1) := by decide +kernel
theorem d_TM_summedUp_46 : decode prog_12_method_57_code 46 = .ok (.iadd, 1) := by decide +kernel
theorem d_TM_summedUp_47 : decode prog_12_method_57_code 47 = .ok (.iaload, 1) := by decide +kernel
theorem d_TM_summedUp_48 : decode prog_12_method_57_code 48 = .ok (.if_icmp .ge 307, 3) := by decide +kernel
theorem d_TM_summedUp_51 : decode prog_12_method_57_code 51 = .ok (.aload_n 0, 1) := by decide +kernel
theorem d_TM_summedUp_52 : decode prog_12_method_57_code 52 = .ok (.getfield 16, 3) := by decide +kernel
theorem d_TM_summedUp_55 : decode prog_12_method_57_code 55 = .ok (.iload 4, 2) := by decide +kernel
theorem d_TM_summedUp_57 : decode prog_12_method_57_code 57 = .ok (.iconst 2, 1) := by decide +kernel
theorem d_TM_summedUp_58 : decode prog_12_method_57_code 58 = .ok (.iload 7, 2) := by decide +kernel
theorem d_TM_summedUp_60 : decode prog_12_method_57_code 60 = .ok (.imul, 1) := by decide +kernel
theorem d_TM_summedUp_61 : decode prog_12_method_57_code 61 = .ok (.iadd, 1) := by decide +kernel
theorem d_TM_summedUp_62 : decode prog_12_method_57_code 62 = .ok (.iaload, 1) := by decide +kernel
theorem d_TM_summedUp_63 : decode prog_12_method_57_code 63 = .ok (.istore 8, 2) := by decide +kernel
theorem d_TM_summedUp_65 : decode prog_12_method_57_code 65 = .ok (.aload_n 0, 1) := by decide +kernel
theorem d_TM_summedUp_66 : decode prog_12_method_57_code 66 = .ok (.getfield 16, 3) := by decide +kernel
theorem d_TM_summedUp_69 : decode prog_12_method_57_code 69 = .ok (.iload 4, 2) := by decide +kernel
theorem d_TM_summedUp_71 : decode prog_12_method_57_code 71 = .ok (.iconst 2, 1) := by decide +kernel
theorem d_TM_summedUp_72 : decode prog_12_method_57_code 72 = .ok (.iload 7, 2) := by decide +kernel
theorem d_TM_summedUp_74 : decode prog_12_method_57_code 74 = .ok (.imul, 1) := by decide +kernel
theorem d_TM_summedUp_75 : decode prog_12_method_57_code 75 = .ok (.iadd, 1) := by decide +kernel
theorem d_TM_summedUp_76 : decode prog_12_method_57_code 76 = .ok (.iconst 1, 1) := by decide +kernel
theorem d_TM_summedUp_77 : decode prog_12_method_57_code 77 = .ok (.iadd, 1) := by decide +kernel
theorem d_TM_summedUp_78 : decode prog_12_method_57_code 78 = .ok (.iaload, 1) := by decide +kernel
theorem d_TM_summedUp_79 : decode prog_12_method_57_code 79 = .ok (.istore 9, 2) := by decide +kernel
theorem d_TM_summedUp_81 : decode prog_12_method_57_code 81 = .ok (.iload 8, 2) := by decide +kernel
theorem d_TM_summedUp_83 : decode prog_12_method_57_code 83 = .ok (.iconst 1, 1) := by decide +kernel
theorem d_TM_summedUp_84 : decode prog_12_method_57_code 84 = .ok (.if_icmp .gt 35, 3) := by decide +kernel
theorem d_TM_summedUp_87 : decode prog_12_method_57_code 87 = .ok (.aload_n 0, 1) := by decide +kernel
theorem d_TM_summedUp_88 : decode prog_12_method_57_code 88 = .ok (.getfield 35, 3) := by decide +kernel
theorem d_TM_summedUp_91 : decode prog_12_method_57_code 91 = .ok (.iload 5, 2) := by decide +kernel
theorem d_TM_summedUp_93 : decode prog_12_method_57_code 93 = .ok (.iload 8, 2) := by decide +kernel
theorem d_TM_summedUp_95 : decode prog_12_method_57_code 95 = .ok (.ifCond .ne 9, 3) := by decide +kernel
theorem d_TM_summedUp_98 : decode prog_12_method_57_code 98 = .ok (.iload 9, 2) := by decide +kernel
theorem d_TM_summedUp_100 : decode prog_12_method_57_code 100 = .ok (.i2l, 1) := by decide +kernel
theorem d_TM_summedUp_101 : decode prog_12_method_57_code 101 = .ok (.goto 11, 3) := by decide +kernel
theorem d_TM_summedUp_104 : decode prog_12_method_57_code 104 = .ok (.aload_n 0, 1) := by decide +kernel
theorem d_TM_summedUp_105 : decode prog_12_method_57_code 105 = .ok (.getfield 32, 3) := by decide +kernel
theorem d_TM_summedUp_108 : decode prog_12_method_57_code 108 = .ok (.iload 9, 2) := by decide +kernel
theorem d_TM_summedUp_110 : decode prog_12_method_57_code 110 = .ok (.iaload, 1) := by decide +kernel
theorem d_TM_summedUp_111 : decode prog_12_method_57_code 111 = .ok (.i2l, 1) := by decide +kernel
theorem d_TM_summedUp_112 : decode prog_12_method_57_code 112 = .ok (.lastore, 1) := by decide +kernel
theorem d_TM_summedUp_113 : decode prog_12_method_57_code 113 = .ok (.iinc 5 1, 3) := by decide +kernel
theorem d_TM_summedUp_116 : decode prog_12_method_57_code 116 = .ok (.goto 233, 3) := by decide +kernel
theorem d_TM_summedUp_119 : decode prog_12_method_57_code 119 = .ok (.iload 8, 2) := by decide +kernel
theorem d_TM_summedUp_121 : decode prog_12_method_57_code 121 = .ok (.iconst 3, 1) := by decide +kernel
theorem d_TM_summedUp_122 : decode prog_12_method_57_code 122 = .ok (.if_icmp .ne 38, 3) := by decide +kernel
theorem d_TM_summedUp_125 : decode prog_12_method_57_code 125 = .ok (.iinc 5 (-1), 3) := by decide +kernel
theorem d_TM_summedUp_128 : decode prog_12_method_57_code 128 = .ok (.iinc 6 (-1), 3) := by decide +kernel
theorem d_TM_summedUp_131 : decode prog_12_method_57_code 131 = .ok (.aload_n 0, 1) := by decide +kernel
theorem d_TM_summedUp_132 : decode prog_12_method_57_code 132 = .ok (.getfield 39, 3) := by decide +kernel
theorem d_TM_summedUp_135 : decode prog_12_method_57_code 135 = .ok (.iload 6, 2) := by decide +kernel
theorem d_TM_summedUp_137 : decode prog_12_method_57_code 137 = .ok (.baload, 1) := by decide +kernel
theorem d_TM_summedUp_138 : decode prog_12_method_57_code 138 = .ok (.ifCond .ne 211, 3) := by decide +kernel
theorem d_TM_summedUp_141 : decode prog_12_method_57_code 141 = .ok (.aload_n 0, 1) := by decide +kernel
theorem d_TM_summedUp_142 : decode prog_12_method_57_code 142 = .ok (.getfield 35, 3) := by decide +kernel
theorem d_TM_summedUp_145 : decode prog_12_method_57_code 145 = .ok (.iload 5, 2) := by decide +kernel
theorem d_TM_summedUp_147 : decode prog_12_method_57_code 147 = .ok (.iconst 1, 1) := by decide +kernel
theorem d_TM_summedUp_148 : decode prog_12_method_57_code 148 = .ok (.isub, 1) := by decide +kernel
theorem d_TM_summedUp_149 : decode prog_12_method_57_code 149 = .ok (.aload_n 0, 1) := by decide +kernel
theorem d_TM_summedUp_150 : decode prog_12_method_57_code 150 = .ok (.getfield 35, 3) := by decide +kernel
theorem d_TM_summedUp_153 : decode prog_12_method_57_code 153 = .ok (.iload 5, 2) := by decide +kernel
theorem d_TM_summedUp_155 : decode prog_12_method_57_code 155 = .ok (.laload, 1) := by decide +kernel
theorem d_TM_summedUp_156 : decode prog_12_method_57_code 156 = .ok (.lastore, 1) := by decide +kernel
theorem d_TM_summedUp_157 : decode prog_12_method_57_code 157 = .ok (.goto 192, 3) := by decide +kernel
theorem d_TM_summedUp_160 : decode prog_12_method_57_code 160 = .ok (.iload 8, 2) := by decide +kernel
theorem d_TM_summedUp_162 : decode prog_12_method_57_code 162 = .ok (.iconst 5, 1) := by decide +kernel
theorem d_TM_summedUp_163 : decode prog_12_method_57_code 163 = .ok (.if_icmp .gt 30, 3) := by decide +kernel
theorem d_TM_summedUp_166 : decode prog_12_method_57_code 166 = .ok (.aload_n 0, 1) := by decide +kernel
theorem d_TM_summedUp_167 : decode prog_12_method_57_code 167 = .ok (.getfield 35, 3) := by decide +kernel
theorem d_TM_summedUp_170 : decode prog_12_method_57_code 170 = .ok (.iload 5, 2) := by decide +kernel
theorem d_TM_summedUp_172 : decode prog_12_method_57_code 172 = .ok (.iconst 1, 1) := by decide +kernel
theorem d_TM_summedUp_173 : decode prog_12_method_57_code 173 = .ok (.isub, 1) := by decide +kernel
theorem d_TM_summedUp_174 : decode prog_12_method_57_code 174 = .ok (.aload_n 0, 1) := by decide +kernel
theorem d_TM_summedUp_175 : decode prog_12_method_57_code 175 = .ok (.iload 8, 2) := by decide +kernel
theorem d_TM_summedUp_177 : decode prog_12_method_57_code 177 = .ok (.aload_n 0, 1) := by decide +kernel
theorem d_TM_summedUp_178 : decode prog_12_method_57_code 178 = .ok (.getfield 35, 3) := by decide +kernel
theorem d_TM_summedUp_181 : decode prog_12_method_57_code 181 = .ok (.iload 5, 2) := by decide +kernel
theorem d_TM_summedUp_183 : decode prog_12_method_57_code 183 = .ok (.iconst 1, 1) := by decide +kernel
theorem d_TM_summedUp_184 : decode prog_12_method_57_code 184 = .ok (.isub, 1) := by decide +kernel
theorem d_TM_summedUp_185 : decode prog_12_method_57_code 185 = .ok (.laload, 1) := by decide +kernel
theorem d_TM_summedUp_186 : decode prog_12_method_57_code 186 = .ok (.invokevirtual 251, 3) := by decide +kernel
theorem d_TM_summedUp_189 : decode prog_12_method_57_code 189 = .ok (.lastore, 1) := by decide +kernel
theorem d_TM_summedUp_190 : decode prog_12_method_57_code 190 = .ok (.goto 159, 3) := by decide +kernel
theorem d_TM_summedUp_193 : decode prog_12_method_57_code 193 = .ok (.iload 8, 2) := by decide +kernel
theorem d_TM_summedUp_195 : decode prog_12_method_57_code 195 = .ok (.bipush 10, 2) := by decide +kernel
theorem d_TM_summedUp_197 : decode prog_12_method_57_code 197 = .ok (.if_icmp .ge 39, 3) := by decide +kernel
theorem d_TM_summedUp_200 : decode prog_12_method_57_code 200 = .ok (.iinc 5 (-1), 3) := by decide +kernel
theorem d_TM_summedUp_203 : decode prog_12_method_57_code 203 = .ok (.aload_n 0, 1) := by decide +kernel
theorem d_TM_summedUp_204 : decode prog_12_method_57_code 204 = .ok (.getfield 35, 3) := by decide +kernel
theorem d_TM_summedUp_207 : decode prog_12_method_57_code 207 = .ok (.iload 5, 2) := by decide +kernel
theorem d_TM_summedUp_209 : decode prog_12_method_57_code 209 = .ok (.iconst 1, 1) := by decide +kernel
theorem d_TM_summedUp_210 : decode prog_12_method_57_code 210 = .ok (.isub, 1) := by decide +kernel
theorem d_TM_summedUp_211 : decode prog_12_method_57_code 211 = .ok (.iload 8, 2) := by decide +kernel
theorem d_TM_summedUp_213 : decode prog_12_method_57_code 213 = .ok (.aload_n 0, 1) := by decide +kernel
theorem d_TM_summedUp_214 : decode prog_12_method_57_code 214 = .ok (.getfield 35, 3) := by decide +kernel
theorem d_TM_summedUp_217 : decode prog_12_method_57_code 217 = .ok (.iload 5, 2) := by decide +kernel
theorem d_TM_summedUp_219 : decode prog_12_method_57_code 219 = .ok (.iconst 1, 1) := by decide +kernel
theorem d_TM_summedUp_220 : decode prog_12_method_57_code 220 = .ok (.isub, 1) := by decide +kernel
theorem d_TM_summedUp_221 : decode prog_12_method_57_code 221 = .ok (.laload, 1) := by decide +kernel
theorem d_TM_summedUp_222 : decode prog_12_method_57_code 222 = .ok (.aload_n 0, 1) := by decide +kernel
theorem d_TM_summedUp_223 : decode prog_12_method_57_code 223 = .ok (.getfield 35, 3) := by decide +kernel
theorem d_TM_summedUp_226 : decode prog_12_method_57_code 226 = .ok (.iload 5, 2) := by decide +kernel
theorem d_TM_summedUp_228 : decode prog_12_method_57_code 228 = .ok (.laload, 1) := by decide +kernel
theorem d_TM_summedUp_229 : decode prog_12_method_57_code 229 = .ok (.invokestatic 255, 3) := by decide +kernel
theorem d_TM_summedUp_232 : decode prog_12_method_57_code 232 = .ok (.lastore, 1) := by decide +kernel
theorem d_TM_summedUp_233 : decode prog_12_method_57_code 233 = .ok (.goto 116, 3) := by decide +kernel
theorem d_TM_summedUp_236 : decode prog_12_method_57_code 236 = .ok (.iload 8, 2) := by decide +kernel
theorem d_TM_summedUp_238 : decode prog_12_method_57_code 238 = .ok (.bipush 20, 2) := by decide +kernel
theorem d_TM_summedUp_240 : decode prog_12_method_57_code 240 = .ok (.if_icmp .ge 40, 3) := by decide +kernel
theorem d_TM_summedUp_243 : decode prog_12_method_57_code 243 = .ok (.iinc 5 (-2), 3) := by decide +kernel
theorem d_TM_summedUp_246 : decode prog_12_method_57_code 246 = .ok (.aload_n 0, 1) := by decide +kernel
theorem d_TM_summedUp_247 : decode prog_12_method_57_code 247 = .ok (.getfield 39, 3) := by decide +kernel
theorem d_TM_summedUp_250 : decode prog_12_method_57_code 250 = .ok (.iload 6, 2) := by decide +kernel
theorem d_TM_summedUp_252 : decode prog_12_method_57_code 252 = .ok (.iload 8, 2) := by decide +kernel
theorem d_TM_summedUp_254 : decode prog_12_method_57_code 254 = .ok (.aload_n 0, 1) := by decide +kernel
theorem d_TM_summedUp_255 : decode prog_12_method_57_code 255 = .ok (.getfield 35, 3) := by decide +kernel
theorem d_TM_summedUp_258 : decode prog_12_method_57_code 258 = .ok (.iload 5, 2) := by decide +kernel
theorem d_TM_summedUp_260 : decode prog_12_method_57_code 260 = .ok (.laload, 1) := by decide +kernel
theorem d_TM_summedUp_261 : decode prog_12_method_57_code 261 = .ok (.aload_n 0, 1) := by decide +kernel
theorem d_TM_summedUp_262 : decode prog_12_method_57_code 262 = .ok (.getfield 35, 3) := by decide +kernel
theorem d_TM_summedUp_265 : decode prog_12_method_57_code 265 = .ok (.iload 5, 2) := by decide +kernel
theorem d_TM_summedUp_267 : decode prog_12_method_57_code 267 = .ok (.iconst 1, 1) := by decide +kernel
theorem d_TM_summedUp_268 : decode prog_12_method_57_code 268 = .ok (.iadd, 1) := by decide +kernel
theorem d_TM_summedUp_269 : decode prog_12_method_57_code 269 = .ok (.laload, 1) := by decide +kernel
theorem d_TM_summedUp_270 : decode prog_12_method_57_code 270 = .ok (.invokestatic 259, 3) := by decide +kernel
theorem d_TM_summedUp_273 : decode prog_12_method_57_code 273 = .ok (.bastore, 1) := by decide +kernel
theorem d_TM_summedUp_274 : decode prog_12_method_57_code 274 = .ok (.iinc 6 1, 3) := by decide +kernel
theorem d_TM_summedUp_277 : decode prog_12_method_57_code 277 = .ok (.goto 72, 3) := by decide +kernel
theorem d_TM_summedUp_280 : decode prog_12_method_57_code 280 = .ok (.iload 8, 2) := by decide +kernel
theorem d_TM_summedUp_282 : decode prog_12_method_57_code 282 = .ok (.bipush 20, 2) := by decide +kernel
theorem d_TM_summedUp_284 : decode prog_12_method_57_code 284 = .ok (.if_icmp .ne 32, 3) := by decide +kernel
theorem d_TM_summedUp_287 : decode prog_12_method_57_code 287 = .ok (.aload_n 0, 1) := by decide +kernel
theorem d_TM_summedUp_288 : decode prog_12_method_57_code 288 = .ok (.getfield 39, 3) := by decide +kernel
theorem d_TM_summedUp_291 : decode prog_12_method_57_code 291 = .ok (.iload 6, 2) := by decide +kernel
theorem d_TM_summedUp_293 : decode prog_12_method_57_code 293 = .ok (.iconst 1, 1) := by decide +kernel
theorem d_TM_summedUp_294 : decode prog_12_method_57_code 294 = .ok (.isub, 1) := by decide +kernel
theorem d_TM_summedUp_295 : decode prog_12_method_57_code 295 = .ok (.aload_n 0, 1) := by decide +kernel
theorem d_TM_summedUp_296 : decode prog_12_method_57_code 296 = .ok (.getfield 39, 3) := by decide +kernel
theorem d_TM_summedUp_299 : decode prog_12_method_57_code 299 = .ok (.iload 6, 2) := by decide +kernel
theorem d_TM_summedUp_301 : decode prog_12_method_57_code 301 = .ok (.iconst 1, 1) := by decide +kernel
theorem d_TM_summedUp_302 : decode prog_12_method_57_code 302 = .ok (.isub, 1) := by decide +kernel
theorem d_TM_summedUp_303 : decode prog_12_method_57_code 303 = .ok (.baload, 1) := by decide +kernel
theorem d_TM_summedUp_304 : decode prog_12_method_57_code 304 = .ok (.ifCond .ne 7, 3) := by decide +kernel
theorem d_TM_summedUp_307 : decode prog_12_method_57_code 307 = .ok (.iconst 1, 1) := by decide +kernel
theorem d_TM_summedUp_308 : decode prog_12_method_57_code 308 = .ok (.goto 4, 3) := by decide +kernel
theorem d_TM_summedUp_311 : decode prog_12_method_57_code 311 = .ok (.iconst 0, 1) := by decide +kernel
theorem d_TM_summedUp_312 : decode prog_12_method_57_code 312 = .ok (.bastore, 1) := by decide +kernel
theorem d_TM_summedUp_313 : decode prog_12_method_57_code 313 = .ok (.goto 36, 3) := by decide +kernel
theorem d_TM_summedUp_316 : decode prog_12_method_57_code 316 = .ok (.iinc 6 (-1), 3) := by decide +kernel
theorem d_TM_summedUp_319 : decode prog_12_method_57_code 319 = .ok (.aload_n 0, 1) := by decide +kernel
theorem d_TM_summedUp_320 : decode prog_12_method_57_code 320 = .ok (.getfield 39, 3) := by decide +kernel
theorem d_TM_summedUp_323 : decode prog_12_method_57_code 323 = .ok (.iload 6, 2) := by decide +kernel
theorem d_TM_summedUp_325 : decode prog_12_method_57_code 325 = .ok (.iconst 1, 1) := by decide +kernel
theorem d_TM_summedUp_326 : decode prog_12_method_57_code 326 = .ok (.isub, 1) := by decide +kernel
theorem d_TM_summedUp_327 : decode prog_12_method_57_code 327 = .ok (.iload 8, 2) := by decide +kernel
theorem d_TM_summedUp_329 : decode prog_12_method_57_code 329 = .ok (.aload_n 0, 1) := by decide +kernel
theorem d_TM_summedUp_330 : decode prog_12_method_57_code 330 = .ok (.getfield 39, 3) := by decide +kernel
theorem d_TM_summedUp_333 : decode prog_12_method_57_code 333 = .ok (.iload 6, 2) := by decide +kernel
theorem d_TM_summedUp_335 : decode prog_12_method_57_code 335 = .ok (.iconst 1, 1) := by decide +kernel
theorem d_TM_summedUp_336 : decode prog_12_method_57_code 336 = .ok (.isub, 1) := by decide +kernel
theorem d_TM_summedUp_337 : decode prog_12_method_57_code 337 = .ok (.baload, 1) := by decide +kernel
theorem d_TM_summedUp_338 : decode prog_12_method_57_code 338 = .ok (.aload_n 0, 1) := by decide +kernel
theorem d_TM_summedUp_339 : decode prog_12_method_57_code 339 = .ok (.getfield 39, 3) := by decide +kernel
theorem d_TM_summedUp_342 : decode prog_12_method_57_code 342 = .ok (.iload 6, 2) := by decide +kernel
theorem d_TM_summedUp_344 : decode prog_12_method_57_code 344 = .ok (.baload, 1) := by decide +kernel
theorem d_TM_summedUp_345 : decode prog_12_method_57_code 345 = .ok (.invokestatic 263, 3) := by decide +kernel
theorem d_TM_summedUp_348 : decode prog_12_method_57_code 348 = .ok (.bastore, 1) := by decide +kernel
theorem d_TM_summedUp_349 : decode prog_12_method_57_code 349 = .ok (.iinc 7 1, 3) := by decide +kernel
theorem d_TM_summedUp_352 : decode prog_12_method_57_code 352 = .ok (.goto (-314), 3) := by decide +kernel
theorem d_TM_summedUp_355 : decode prog_12_method_57_code 355 = .ok (.aload_n 0, 1) := by decide +kernel
theorem d_TM_summedUp_356 : decode prog_12_method_57_code 356 = .ok (.getfield 35, 3) := by decide +kernel
theorem d_TM_summedUp_359 : decode prog_12_method_57_code 359 = .ok (.iconst 0, 1) := by decide +kernel
theorem d_TM_summedUp_360 : decode prog_12_method_57_code 360 = .ok (.laload, 1) := by decide +kernel
theorem d_TM_summedUp_361 : decode prog_12_method_57_code 361 = .ok (.lreturn, 1) := by decide +kernel
theorem d_TM_ofOne_0 : decode prog_12_method_55_code 0 = .ok (.iload_n 1, 1) := by decide +kernel
theorem d_TM_ofOne_1 : decode prog_12_method_55_code 1 = .ok (.iconst 5, 1) := by decide +kernel
theorem d_TM_ofOne_2 : decode prog_12_method_55_code 2 = .ok (.if_icmp .ne 6, 3) := by decide +kernel
theorem d_TM_ofOne_5 : decode prog_12_method_55_code 5 = .ok (.lload_n 2, 1) := by decide +kernel
theorem d_TM_ofOne_6 : decode prog_12_method_55_code 6 = .ok (.lneg, 1) := by decide +kernel
theorem d_TM_ofOne_7 : decode prog_12_method_55_code 7 = .ok (.lreturn, 1) := by decide +kernel
theorem d_TM_ofOne_8 : decode prog_12_method_55_code 8 = .ok (.lload_n 2, 1) := by decide +kernel
theorem d_TM_ofOne_9 : decode prog_12_method_55_code 9 = .ok (.lconst 0, 1) := by decide +kernel
theorem d_TM_ofOne_10 : decode prog_12_method_55_code 10 = .ok (.lcmp, 1) := by decide +kernel
theorem d_TM_ofOne_11 : decode prog_12_method_55_code 11 = .ok (.ifCond .lt 15, 3) := by decide +kernel
theorem d_TM_ofOne_14 : decode prog_12_method_55_code 14 = .ok (.lload_n 2, 1) := by decide +kernel
theorem d_TM_ofOne_15 : decode prog_12_method_55_code 15 = .ok (.aload_n 0, 1) := by decide +kernel
theorem d_TM_ofOne_16 : decode prog_12_method_55_code 16 = .ok (.getfield 7, 3) := by decide +kernel
theorem d_TM_ofOne_19 : decode prog_12_method_55_code 19 = .ok (.iconst 0, 1) := by decide +kernel
theorem d_TM_ofOne_20 : decode prog_12_method_55_code 20 = .ok (.iaload, 1) := by decide +kernel
theorem d_TM_ofOne_21 : decode prog_12_method_55_code 21 = .ok (.i2l, 1) := by decide +kernel
theorem d_TM_ofOne_22 : decode prog_12_method_55_code 22 = .ok (.lcmp, 1) := by decide +kernel
theorem d_TM_ofOne_23 : decode prog_12_method_55_code 23 = .ok (.ifCond .lt 5, 3) := by decide +kernel
theorem d_TM_ofOne_26 : decode prog_12_method_55_code 26 = .ok (.lconst 0, 1) := by decide +kernel
theorem d_TM_ofOne_27 : decode prog_12_method_55_code 27 = .ok (.lreturn, 1) := by decide +kernel
theorem d_TM_ofOne_28 : decode prog_12_method_55_code 28 = .ok (.iload_n 1, 1) := by decide +kernel
theorem d_TM_ofOne_29 : decode prog_12_method_55_code 29 = .ok (.iconst 2, 1) := by decide +kernel
theorem d_TM_ofOne_30 : decode prog_12_method_55_code 30 = .ok (.if_icmp .ne 17, 3) := by decide +kernel
theorem d_TM_ofOne_33 : decode prog_12_method_55_code 33 = .ok (.aload_n 0, 1) := by decide +kernel
theorem d_TM_ofOne_34 : decode prog_12_method_55_code 34 = .ok (.getfield 7, 3) := by decide +kernel
theorem d_TM_ofOne_37 : decode prog_12_method_55_code 37 = .ok (.bipush 10, 2) := by decide +kernel
theorem d_TM_ofOne_39 : decode prog_12_method_55_code 39 = .ok (.lload_n 2, 1) := by decide +kernel
theorem d_TM_ofOne_40 : decode prog_12_method_55_code 40 = .ok (.l2i, 1) := by decide +kernel
theorem d_TM_ofOne_41 : decode prog_12_method_55_code 41 = .ok (.iadd, 1) := by decide +kernel
theorem d_TM_ofOne_42 : decode prog_12_method_55_code 42 = .ok (.iaload, 1) := by decide +kernel
theorem d_TM_ofOne_43 : decode prog_12_method_55_code 43 = .ok (.i2l, 1) := by decide +kernel
theorem d_TM_ofOne_44 : decode prog_12_method_55_code 44 = .ok (.goto 16, 3) := by decide +kernel
theorem d_TM_ofOne_47 : decode prog_12_method_55_code 47 = .ok (.aload_n 0, 1) := by decide +kernel
theorem d_TM_ofOne_48 : decode prog_12_method_55_code 48 = .ok (.getfield 7, 3) := by decide +kernel
theorem d_TM_ofOne_51 : decode prog_12_method_55_code 51 = .ok (.bipush 9, 2) := by decide +kernel
theorem d_TM_ofOne_53 : decode prog_12_method_55_code 53 = .ok (.iaload, 1) := by decide +kernel
theorem d_TM_ofOne_54 : decode prog_12_method_55_code 54 = .ok (.lload_n 2, 1) := by decide +kernel
theorem d_TM_ofOne_55 : decode prog_12_method_55_code 55 = .ok (.l2i, 1) := by decide +kernel
theorem d_TM_ofOne_56 : decode prog_12_method_55_code 56 = .ok (.ishr, 1) := by decide +kernel
theorem d_TM_ofOne_57 : decode prog_12_method_55_code 57 = .ok (.iconst 1, 1) := by decide +kernel
theorem d_TM_ofOne_58 : decode prog_12_method_55_code 58 = .ok (.iand, 1) := by decide +kernel
theorem d_TM_ofOne_59 : decode prog_12_method_55_code 59 = .ok (.i2l, 1) := by decide +kernel
theorem d_TM_ofOne_60 : decode prog_12_method_55_code 60 = .ok (.lreturn, 1) := by decide +kernel
theorem d_TM_twoBy_0 : decode prog_12_method_53_code 0 = .ok (.iload_n 0, 1) := by decide +kernel
theorem d_TM_twoBy_1 : decode prog_12_method_53_code 1 = .ok (.tableswitch 48 6 8 #[27, 34, 41], 27) := by decide +kernel
theorem d_TM_twoBy_28 : decode prog_12_method_53_code 28 = .ok (.lload_n 1, 1) := by decide +kernel
theorem d_TM_twoBy_29 : decode prog_12_method_53_code 29 = .ok (.lload_n 3, 1) := by decide +kernel
theorem d_TM_twoBy_30 : decode prog_12_method_53_code 30 = .ok (.ladd, 1) := by decide +kernel
theorem d_TM_twoBy_31 : decode prog_12_method_53_code 31 = .ok (.invokestatic 247, 3) := by decide +kernel
theorem d_TM_twoBy_34 : decode prog_12_method_53_code 34 = .ok (.lreturn, 1) := by decide +kernel
theorem d_TM_twoBy_35 : decode prog_12_method_53_code 35 = .ok (.lload_n 1, 1) := by decide +kernel
theorem d_TM_twoBy_36 : decode prog_12_method_53_code 36 = .ok (.lload_n 3, 1) := by decide +kernel
theorem d_TM_twoBy_37 : decode prog_12_method_53_code 37 = .ok (.lsub, 1) := by decide +kernel
theorem d_TM_twoBy_38 : decode prog_12_method_53_code 38 = .ok (.invokestatic 247, 3) := by decide +kernel
theorem d_TM_twoBy_41 : decode prog_12_method_53_code 41 = .ok (.lreturn, 1) := by decide +kernel
theorem d_TM_twoBy_42 : decode prog_12_method_53_code 42 = .ok (.lload_n 1, 1) := by decide +kernel
theorem d_TM_twoBy_43 : decode prog_12_method_53_code 43 = .ok (.lload_n 3, 1) := by decide +kernel
theorem d_TM_twoBy_44 : decode prog_12_method_53_code 44 = .ok (.lmul, 1) := by decide +kernel
theorem d_TM_twoBy_45 : decode prog_12_method_53_code 45 = .ok (.invokestatic 247, 3) := by decide +kernel
theorem d_TM_twoBy_48 : decode prog_12_method_53_code 48 = .ok (.lreturn, 1) := by decide +kernel
theorem d_TM_twoBy_49 : decode prog_12_method_53_code 49 = .ok (.lload_n 3, 1) := by decide +kernel
theorem d_TM_twoBy_50 : decode prog_12_method_53_code 50 = .ok (.lconst 0, 1) := by decide +kernel
theorem d_TM_twoBy_51 : decode prog_12_method_53_code 51 = .ok (.lcmp, 1) := by decide +kernel
theorem d_TM_twoBy_52 : decode prog_12_method_53_code 52 = .ok (.ifCond .ne 7, 3) := by decide +kernel
theorem d_TM_twoBy_55 : decode prog_12_method_53_code 55 = .ok (.lconst 0, 1) := by decide +kernel
theorem d_TM_twoBy_56 : decode prog_12_method_53_code 56 = .ok (.goto 9, 3) := by decide +kernel
theorem d_TM_twoBy_59 : decode prog_12_method_53_code 59 = .ok (.lload_n 1, 1) := by decide +kernel
theorem d_TM_twoBy_60 : decode prog_12_method_53_code 60 = .ok (.lload_n 3, 1) := by decide +kernel
theorem d_TM_twoBy_61 : decode prog_12_method_53_code 61 = .ok (.ldiv, 1) := by decide +kernel
theorem d_TM_twoBy_62 : decode prog_12_method_53_code 62 = .ok (.invokestatic 247, 3) := by decide +kernel
theorem d_TM_twoBy_65 : decode prog_12_method_53_code 65 = .ok (.lreturn, 1) := by decide +kernel
theorem d_TM_clip_0 : decode prog_12_method_52_code 0 = .ok (.lload_n 0, 1) := by decide +kernel
theorem d_TM_clip_1 : decode prog_12_method_52_code 1 = .ok (.ldc2_w 243, 3) := by decide +kernel
theorem d_TM_clip_4 : decode prog_12_method_52_code 4 = .ok (.lcmp, 1) := by decide +kernel
theorem d_TM_clip_5 : decode prog_12_method_52_code 5 = .ok (.ifCond .le 9, 3) := by decide +kernel
theorem d_TM_clip_8 : decode prog_12_method_52_code 8 = .ok (.ldc2_w 243, 3) := by decide +kernel
theorem d_TM_clip_11 : decode prog_12_method_52_code 11 = .ok (.goto 18, 3) := by decide +kernel
theorem d_TM_clip_14 : decode prog_12_method_52_code 14 = .ok (.lload_n 0, 1) := by decide +kernel
theorem d_TM_clip_15 : decode prog_12_method_52_code 15 = .ok (.ldc2_w 245, 3) := by decide +kernel
theorem d_TM_clip_18 : decode prog_12_method_52_code 18 = .ok (.lcmp, 1) := by decide +kernel
theorem d_TM_clip_19 : decode prog_12_method_52_code 19 = .ok (.ifCond .ge 9, 3) := by decide +kernel
theorem d_TM_clip_22 : decode prog_12_method_52_code 22 = .ok (.ldc2_w 245, 3) := by decide +kernel
theorem d_TM_clip_25 : decode prog_12_method_52_code 25 = .ok (.goto 4, 3) := by decide +kernel
theorem d_TM_clip_28 : decode prog_12_method_52_code 28 = .ok (.lload_n 0, 1) := by decide +kernel
theorem d_TM_clip_29 : decode prog_12_method_52_code 29 = .ok (.lreturn, 1) := by decide +kernel
theorem d_TM_isAsked_0 : decode prog_12_method_54_code 0 = .ok (.iload_n 0, 1) := by decide +kernel
theorem d_TM_isAsked_1 : decode prog_12_method_54_code 1 = .ok (.bipush 10, 2) := by decide +kernel
theorem d_TM_isAsked_3 : decode prog_12_method_54_code 3 = .ok (.if_icmp .ne 17, 3) := by decide +kernel
theorem d_TM_isAsked_6 : decode prog_12_method_54_code 6 = .ok (.lload_n 1, 1) := by decide +kernel
theorem d_TM_isAsked_7 : decode prog_12_method_54_code 7 = .ok (.lload_n 3, 1) := by decide +kernel
theorem d_TM_isAsked_8 : decode prog_12_method_54_code 8 = .ok (.lcmp, 1) := by decide +kernel
theorem d_TM_isAsked_9 : decode prog_12_method_54_code 9 = .ok (.ifCond .ge 7, 3) := by decide +kernel
theorem d_TM_isAsked_12 : decode prog_12_method_54_code 12 = .ok (.iconst 1, 1) := by decide +kernel
theorem d_TM_isAsked_13 : decode prog_12_method_54_code 13 = .ok (.goto 98, 3) := by decide +kernel
theorem d_TM_isAsked_16 : decode prog_12_method_54_code 16 = .ok (.iconst 0, 1) := by decide +kernel
theorem d_TM_isAsked_17 : decode prog_12_method_54_code 17 = .ok (.goto 94, 3) := by decide +kernel
theorem d_TM_isAsked_20 : decode prog_12_method_54_code 20 = .ok (.iload_n 0, 1) := by decide +kernel
theorem d_TM_isAsked_21 : decode prog_12_method_54_code 21 = .ok (.bipush 11, 2) := by decide +kernel
theorem d_TM_isAsked_23 : decode prog_12_method_54_code 23 = .ok (.if_icmp .ne 17, 3) := by decide +kernel
theorem d_TM_isAsked_26 : decode prog_12_method_54_code 26 = .ok (.lload_n 1, 1) := by decide +kernel
theorem d_TM_isAsked_27 : decode prog_12_method_54_code 27 = .ok (.lload_n 3, 1) := by decide +kernel
theorem d_TM_isAsked_28 : decode prog_12_method_54_code 28 = .ok (.lcmp, 1) := by decide +kernel
theorem d_TM_isAsked_29 : decode prog_12_method_54_code 29 = .ok (.ifCond .gt 7, 3) := by decide +kernel
theorem d_TM_isAsked_32 : decode prog_12_method_54_code 32 = .ok (.iconst 1, 1) := by decide +kernel
theorem d_TM_isAsked_33 : decode prog_12_method_54_code 33 = .ok (.goto 78, 3) := by decide +kernel
theorem d_TM_isAsked_36 : decode prog_12_method_54_code 36 = .ok (.iconst 0, 1) := by decide +kernel
theorem d_TM_isAsked_37 : decode prog_12_method_54_code 37 = .ok (.goto 74, 3) := by decide +kernel
theorem d_TM_isAsked_40 : decode prog_12_method_54_code 40 = .ok (.iload_n 0, 1) := by decide +kernel
theorem d_TM_isAsked_41 : decode prog_12_method_54_code 41 = .ok (.bipush 12, 2) := by decide +kernel
theorem d_TM_isAsked_43 : decode prog_12_method_54_code 43 = .ok (.if_icmp .ne 17, 3) := by decide +kernel
theorem d_TM_isAsked_46 : decode prog_12_method_54_code 46 = .ok (.lload_n 1, 1) := by decide +kernel
theorem d_TM_isAsked_47 : decode prog_12_method_54_code 47 = .ok (.lload_n 3, 1) := by decide +kernel
theorem d_TM_isAsked_48 : decode prog_12_method_54_code 48 = .ok (.lcmp, 1) := by decide +kernel
theorem d_TM_isAsked_49 : decode prog_12_method_54_code 49 = .ok (.ifCond .le 7, 3) := by decide +kernel
theorem d_TM_isAsked_52 : decode prog_12_method_54_code 52 = .ok (.iconst 1, 1) := by decide +kernel
theorem d_TM_isAsked_53 : decode prog_12_method_54_code 53 = .ok (.goto 58, 3) := by decide +kernel
theorem d_TM_isAsked_56 : decode prog_12_method_54_code 56 = .ok (.iconst 0, 1) := by decide +kernel
theorem d_TM_isAsked_57 : decode prog_12_method_54_code 57 = .ok (.goto 54, 3) := by decide +kernel
theorem d_TM_isAsked_60 : decode prog_12_method_54_code 60 = .ok (.iload_n 0, 1) := by decide +kernel
theorem d_TM_isAsked_61 : decode prog_12_method_54_code 61 = .ok (.bipush 13, 2) := by decide +kernel
theorem d_TM_isAsked_63 : decode prog_12_method_54_code 63 = .ok (.if_icmp .ne 17, 3) := by decide +kernel
theorem d_TM_isAsked_66 : decode prog_12_method_54_code 66 = .ok (.lload_n 1, 1) := by decide +kernel
theorem d_TM_isAsked_67 : decode prog_12_method_54_code 67 = .ok (.lload_n 3, 1) := by decide +kernel
theorem d_TM_isAsked_68 : decode prog_12_method_54_code 68 = .ok (.lcmp, 1) := by decide +kernel
theorem d_TM_isAsked_69 : decode prog_12_method_54_code 69 = .ok (.ifCond .lt 7, 3) := by decide +kernel
theorem d_TM_isAsked_72 : decode prog_12_method_54_code 72 = .ok (.iconst 1, 1) := by decide +kernel
theorem d_TM_isAsked_73 : decode prog_12_method_54_code 73 = .ok (.goto 38, 3) := by decide +kernel
theorem d_TM_isAsked_76 : decode prog_12_method_54_code 76 = .ok (.iconst 0, 1) := by decide +kernel
theorem d_TM_isAsked_77 : decode prog_12_method_54_code 77 = .ok (.goto 34, 3) := by decide +kernel
theorem d_TM_isAsked_80 : decode prog_12_method_54_code 80 = .ok (.iload_n 0, 1) := by decide +kernel
theorem d_TM_isAsked_81 : decode prog_12_method_54_code 81 = .ok (.bipush 14, 2) := by decide +kernel
theorem d_TM_isAsked_83 : decode prog_12_method_54_code 83 = .ok (.if_icmp .ne 17, 3) := by decide +kernel
theorem d_TM_isAsked_86 : decode prog_12_method_54_code 86 = .ok (.lload_n 1, 1) := by decide +kernel
theorem d_TM_isAsked_87 : decode prog_12_method_54_code 87 = .ok (.lload_n 3, 1) := by decide +kernel
theorem d_TM_isAsked_88 : decode prog_12_method_54_code 88 = .ok (.lcmp, 1) := by decide +kernel
theorem d_TM_isAsked_89 : decode prog_12_method_54_code 89 = .ok (.ifCond .ne 7, 3) := by decide +kernel
theorem d_TM_isAsked_92 : decode prog_12_method_54_code 92 = .ok (.iconst 1, 1) := by decide +kernel
theorem d_TM_isAsked_93 : decode prog_12_method_54_code 93 = .ok (.goto 18, 3) := by decide +kernel
theorem d_TM_isAsked_96 : decode prog_12_method_54_code 96 = .ok (.iconst 0, 1) := by decide +kernel
theorem d_TM_isAsked_97 : decode prog_12_method_54_code 97 = .ok (.goto 14, 3) := by decide +kernel
theorem d_TM_isAsked_100 : decode prog_12_method_54_code 100 = .ok (.lload_n 1, 1) := by decide +kernel
theorem d_TM_isAsked_101 : decode prog_12_method_54_code 101 = .ok (.lload_n 3, 1) := by decide +kernel
theorem d_TM_isAsked_102 : decode prog_12_method_54_code 102 = .ok (.lcmp, 1) := by decide +kernel
theorem d_TM_isAsked_103 : decode prog_12_method_54_code 103 = .ok (.ifCond .eq 7, 3) := by decide +kernel
theorem d_TM_isAsked_106 : decode prog_12_method_54_code 106 = .ok (.iconst 1, 1) := by decide +kernel
theorem d_TM_isAsked_107 : decode prog_12_method_54_code 107 = .ok (.goto 4, 3) := by decide +kernel
theorem d_TM_isAsked_110 : decode prog_12_method_54_code 110 = .ok (.iconst 0, 1) := by decide +kernel
theorem d_TM_isAsked_111 : decode prog_12_method_54_code 111 = .ok (.ireturn, 1) := by decide +kernel
theorem d_TM_joined_0 : decode prog_12_method_56_code 0 = .ok (.iload_n 0, 1) := by decide +kernel
theorem d_TM_joined_1 : decode prog_12_method_56_code 1 = .ok (.bipush 21, 2) := by decide +kernel
theorem d_TM_joined_3 : decode prog_12_method_56_code 3 = .ok (.if_icmp .ne 19, 3) := by decide +kernel
theorem d_TM_joined_6 : decode prog_12_method_56_code 6 = .ok (.iload_n 1, 1) := by decide +kernel
theorem d_TM_joined_7 : decode prog_12_method_56_code 7 = .ok (.ifCond .eq 11, 3) := by decide +kernel
theorem d_TM_joined_10 : decode prog_12_method_56_code 10 = .ok (.iload_n 2, 1) := by decide +kernel
theorem d_TM_joined_11 : decode prog_12_method_56_code 11 = .ok (.ifCond .eq 7, 3) := by decide +kernel
theorem d_TM_joined_14 : decode prog_12_method_56_code 14 = .ok (.iconst 1, 1) := by decide +kernel
theorem d_TM_joined_15 : decode prog_12_method_56_code 15 = .ok (.goto 20, 3) := by decide +kernel
theorem d_TM_joined_18 : decode prog_12_method_56_code 18 = .ok (.iconst 0, 1) := by decide +kernel
theorem d_TM_joined_19 : decode prog_12_method_56_code 19 = .ok (.goto 16, 3) := by decide +kernel
theorem d_TM_joined_22 : decode prog_12_method_56_code 22 = .ok (.iload_n 1, 1) := by decide +kernel
theorem d_TM_joined_23 : decode prog_12_method_56_code 23 = .ok (.ifCond .ne 7, 3) := by decide +kernel
theorem d_TM_joined_26 : decode prog_12_method_56_code 26 = .ok (.iload_n 2, 1) := by decide +kernel
theorem d_TM_joined_27 : decode prog_12_method_56_code 27 = .ok (.ifCond .eq 7, 3) := by decide +kernel
theorem d_TM_joined_30 : decode prog_12_method_56_code 30 = .ok (.iconst 1, 1) := by decide +kernel
theorem d_TM_joined_31 : decode prog_12_method_56_code 31 = .ok (.goto 4, 3) := by decide +kernel
theorem d_TM_joined_34 : decode prog_12_method_56_code 34 = .ok (.iconst 0, 1) := by decide +kernel
theorem d_TM_joined_35 : decode prog_12_method_56_code 35 = .ok (.ireturn, 1) := by decide +kernel
theorem d_TM_drawnBy_0 : decode prog_12_method_65_code 0 = .ok (.aload_n 0, 1) := by decide +kernel
theorem d_TM_drawnBy_1 : decode prog_12_method_65_code 1 = .ok (.getfield 7, 3) := by decide +kernel
theorem d_TM_drawnBy_4 : decode prog_12_method_65_code 4 = .ok (.bipush 6, 2) := by decide +kernel
theorem d_TM_drawnBy_6 : decode prog_12_method_65_code 6 = .ok (.iaload, 1) := by decide +kernel
theorem d_TM_drawnBy_7 : decode prog_12_method_65_code 7 = .ok (.iload_n 1, 1) := by decide +kernel
theorem d_TM_drawnBy_8 : decode prog_12_method_65_code 8 = .ok (.irem, 1) := by decide +kernel
theorem d_TM_drawnBy_9 : decode prog_12_method_65_code 9 = .ok (.istore_n 2, 1) := by decide +kernel
theorem d_TM_drawnBy_10 : decode prog_12_method_65_code 10 = .ok (.aload_n 0, 1) := by decide +kernel
theorem d_TM_drawnBy_11 : decode prog_12_method_65_code 11 = .ok (.invokevirtual 290, 3) := by decide +kernel
theorem d_TM_drawnBy_14 : decode prog_12_method_65_code 14 = .ok (.iload_n 2, 1) := by decide +kernel
theorem d_TM_drawnBy_15 : decode prog_12_method_65_code 15 = .ok (.ireturn, 1) := by decide +kernel
theorem d_TM_anew_0 : decode prog_12_method_66_code 0 = .ok (.aload_n 0, 1) := by decide +kernel
theorem d_TM_anew_1 : decode prog_12_method_66_code 1 = .ok (.getfield 7, 3) := by decide +kernel
theorem d_TM_anew_4 : decode prog_12_method_66_code 4 = .ok (.bipush 6, 2) := by decide +kernel
theorem d_TM_anew_6 : decode prog_12_method_66_code 6 = .ok (.aload_n 0, 1) := by decide +kernel
theorem d_TM_anew_7 : decode prog_12_method_66_code 7 = .ok (.getfield 7, 3) := by decide +kernel
theorem d_TM_anew_10 : decode prog_12_method_66_code 10 = .ok (.bipush 6, 2) := by decide +kernel
theorem d_TM_anew_12 : decode prog_12_method_66_code 12 = .ok (.iaload, 1) := by decide +kernel
theorem d_TM_anew_13 : decode prog_12_method_66_code 13 = .ok (.i2l, 1) := by decide +kernel
theorem d_TM_anew_14 : decode prog_12_method_66_code 14 = .ok (.ldc2_w 293, 3) := by decide +kernel
theorem d_TM_anew_17 : decode prog_12_method_66_code 17 = .ok (.lmul, 1) := by decide +kernel
theorem d_TM_anew_18 : decode prog_12_method_66_code 18 = .ok (.ldc2_w 295, 3) := by decide +kernel
theorem d_TM_anew_21 : decode prog_12_method_66_code 21 = .ok (.ladd, 1) := by decide +kernel
theorem d_TM_anew_22 : decode prog_12_method_66_code 22 = .ok (.ldc2_w 297, 3) := by decide +kernel
theorem d_TM_anew_25 : decode prog_12_method_66_code 25 = .ok (.lrem, 1) := by decide +kernel
theorem d_TM_anew_26 : decode prog_12_method_66_code 26 = .ok (.l2i, 1) := by decide +kernel
theorem d_TM_anew_27 : decode prog_12_method_66_code 27 = .ok (.iastore, 1) := by decide +kernel
theorem d_TM_anew_28 : decode prog_12_method_66_code 28 = .ok (.return_, 1) := by decide +kernel
theorem d_TM_swaysOf_0 : decode prog_12_method_63_code 0 = .ok (.aload_n 0, 1) := by decide +kernel
theorem d_TM_swaysOf_1 : decode prog_12_method_63_code 1 = .ok (.aload_n 0, 1) := by decide +kernel
theorem d_TM_swaysOf_2 : decode prog_12_method_63_code 2 = .ok (.getfield 7, 3) := by decide +kernel
theorem d_TM_swaysOf_5 : decode prog_12_method_63_code 5 = .ok (.iconst 2, 1) := by decide +kernel
theorem d_TM_swaysOf_6 : decode prog_12_method_63_code 6 = .ok (.iaload, 1) := by decide +kernel
theorem d_TM_swaysOf_7 : decode prog_12_method_63_code 7 = .ok (.iconst 1, 1) := by decide +kernel
theorem d_TM_swaysOf_8 : decode prog_12_method_63_code 8 = .ok (.invokevirtual 270, 3) := by decide +kernel
theorem d_TM_swaysOf_11 : decode prog_12_method_63_code 11 = .ok (.istore 4, 2) := by decide +kernel
theorem d_TM_swaysOf_13 : decode prog_12_method_63_code 13 = .ok (.aload_n 0, 1) := by decide +kernel
theorem d_TM_swaysOf_14 : decode prog_12_method_63_code 14 = .ok (.iload_n 1, 1) := by decide +kernel
theorem d_TM_swaysOf_15 : decode prog_12_method_63_code 15 = .ok (.iload_n 2, 1) := by decide +kernel
theorem d_TM_swaysOf_16 : decode prog_12_method_63_code 16 = .ok (.iload_n 3, 1) := by decide +kernel
theorem d_TM_swaysOf_17 : decode prog_12_method_63_code 17 = .ok (.invokevirtual 273, 3) := by decide +kernel
theorem d_TM_swaysOf_20 : decode prog_12_method_63_code 20 = .ok (.iload 4, 2) := by decide +kernel
theorem d_TM_swaysOf_22 : decode prog_12_method_63_code 22 = .ok (.iconst (-1), 1) := by decide +kernel
theorem d_TM_swaysOf_23 : decode prog_12_method_63_code 23 = .ok (.if_icmp .ne 7, 3) := by decide +kernel
theorem d_TM_swaysOf_26 : decode prog_12_method_63_code 26 = .ok (.iconst 0, 1) := by decide +kernel
theorem d_TM_swaysOf_27 : decode prog_12_method_63_code 27 = .ok (.goto 21, 3) := by decide +kernel
theorem d_TM_swaysOf_30 : decode prog_12_method_63_code 30 = .ok (.aload_n 0, 1) := by decide +kernel
theorem d_TM_swaysOf_31 : decode prog_12_method_63_code 31 = .ok (.aload_n 0, 1) := by decide +kernel
theorem d_TM_swaysOf_32 : decode prog_12_method_63_code 32 = .ok (.getfield 7, 3) := by decide +kernel
theorem d_TM_swaysOf_35 : decode prog_12_method_63_code 35 = .ok (.iconst 2, 1) := by decide +kernel
theorem d_TM_swaysOf_36 : decode prog_12_method_63_code 36 = .ok (.iaload, 1) := by decide +kernel
theorem d_TM_swaysOf_37 : decode prog_12_method_63_code 37 = .ok (.iload 4, 2) := by decide +kernel
theorem d_TM_swaysOf_39 : decode prog_12_method_63_code 39 = .ok (.invokevirtual 280, 3) := by decide +kernel
theorem d_TM_swaysOf_42 : decode prog_12_method_63_code 42 = .ok (.bipush (-2), 2) := by decide +kernel
theorem d_TM_swaysOf_44 : decode prog_12_method_63_code 44 = .ok (.iconst 2, 1) := by decide +kernel
theorem d_TM_swaysOf_45 : decode prog_12_method_63_code 45 = .ok (.invokestatic 286, 3) := by decide +kernel
theorem d_TM_swaysOf_48 : decode prog_12_method_63_code 48 = .ok (.ireturn, 1) := by decide +kernel
theorem d_TM_held_0 : decode prog_12_method_4_code 0 = .ok (.lload_n 0, 1) := by decide +kernel
theorem d_TM_held_1 : decode prog_12_method_4_code 1 = .ok (.iload_n 2, 1) := by decide +kernel
theorem d_TM_held_2 : decode prog_12_method_4_code 2 = .ok (.i2l, 1) := by decide +kernel
theorem d_TM_held_3 : decode prog_12_method_4_code 3 = .ok (.lcmp, 1) := by decide +kernel
theorem d_TM_held_4 : decode prog_12_method_4_code 4 = .ok (.ifCond .ge 7, 3) := by decide +kernel
theorem d_TM_held_7 : decode prog_12_method_4_code 7 = .ok (.iload_n 2, 1) := by decide +kernel
theorem d_TM_held_8 : decode prog_12_method_4_code 8 = .ok (.goto 16, 3) := by decide +kernel
theorem d_TM_held_11 : decode prog_12_method_4_code 11 = .ok (.lload_n 0, 1) := by decide +kernel
theorem d_TM_held_12 : decode prog_12_method_4_code 12 = .ok (.iload_n 3, 1) := by decide +kernel
theorem d_TM_held_13 : decode prog_12_method_4_code 13 = .ok (.i2l, 1) := by decide +kernel
theorem d_TM_held_14 : decode prog_12_method_4_code 14 = .ok (.lcmp, 1) := by decide +kernel
theorem d_TM_held_15 : decode prog_12_method_4_code 15 = .ok (.ifCond .le 7, 3) := by decide +kernel
theorem d_TM_held_18 : decode prog_12_method_4_code 18 = .ok (.iload_n 3, 1) := by decide +kernel
theorem d_TM_held_19 : decode prog_12_method_4_code 19 = .ok (.goto 5, 3) := by decide +kernel
theorem d_TM_held_22 : decode prog_12_method_4_code 22 = .ok (.lload_n 0, 1) := by decide +kernel
theorem d_TM_held_23 : decode prog_12_method_4_code 23 = .ok (.l2i, 1) := by decide +kernel
theorem d_TM_held_24 : decode prog_12_method_4_code 24 = .ok (.ireturn, 1) := by decide +kernel
theorem d_TM_write_0 : decode prog_12_method_64_code 0 = .ok (.aload_n 0, 1) := by decide +kernel
theorem d_TM_write_1 : decode prog_12_method_64_code 1 = .ok (.getfield 43, 3) := by decide +kernel
theorem d_TM_write_4 : decode prog_12_method_64_code 4 = .ok (.ifCond .ne 4, 3) := by decide +kernel
theorem d_TM_write_7 : decode prog_12_method_64_code 7 = .ok (.return_, 1) := by decide +kernel
theorem d_TM_write_8 : decode prog_12_method_64_code 8 = .ok (.aload_n 0, 1) := by decide +kernel
theorem d_TM_write_9 : decode prog_12_method_64_code 9 = .ok (.getfield 7, 3) := by decide +kernel
theorem d_TM_write_12 : decode prog_12_method_64_code 12 = .ok (.bipush 8, 2) := by decide +kernel
theorem d_TM_write_14 : decode prog_12_method_64_code 14 = .ok (.iaload, 1) := by decide +kernel
theorem d_TM_write_15 : decode prog_12_method_64_code 15 = .ok (.bipush 30, 2) := by decide +kernel
theorem d_TM_write_17 : decode prog_12_method_64_code 17 = .ok (.if_icmp .ne 50, 3) := by decide +kernel
theorem d_TM_write_20 : decode prog_12_method_64_code 20 = .ok (.iconst 1, 1) := by decide +kernel
theorem d_TM_write_21 : decode prog_12_method_64_code 21 = .ok (.istore_n 3, 1) := by decide +kernel
theorem d_TM_write_22 : decode prog_12_method_64_code 22 = .ok (.iload_n 3, 1) := by decide +kernel
theorem d_TM_write_23 : decode prog_12_method_64_code 23 = .ok (.bipush 30, 2) := by decide +kernel
theorem d_TM_write_25 : decode prog_12_method_64_code 25 = .ok (.if_icmp .ge 31, 3) := by decide +kernel
theorem d_TM_write_28 : decode prog_12_method_64_code 28 = .ok (.aload_n 0, 1) := by decide +kernel
theorem d_TM_write_29 : decode prog_12_method_64_code 29 = .ok (.getfield 7, 3) := by decide +kernel
theorem d_TM_write_32 : decode prog_12_method_64_code 32 = .ok (.sipush 1405, 3) := by decide +kernel
theorem d_TM_write_35 : decode prog_12_method_64_code 35 = .ok (.iload_n 3, 1) := by decide +kernel
theorem d_TM_write_36 : decode prog_12_method_64_code 36 = .ok (.iadd, 1) := by decide +kernel
theorem d_TM_write_37 : decode prog_12_method_64_code 37 = .ok (.iconst 1, 1) := by decide +kernel
theorem d_TM_write_38 : decode prog_12_method_64_code 38 = .ok (.isub, 1) := by decide +kernel
theorem d_TM_write_39 : decode prog_12_method_64_code 39 = .ok (.aload_n 0, 1) := by decide +kernel
theorem d_TM_write_40 : decode prog_12_method_64_code 40 = .ok (.getfield 7, 3) := by decide +kernel
theorem d_TM_write_43 : decode prog_12_method_64_code 43 = .ok (.sipush 1405, 3) := by decide +kernel
theorem d_TM_write_46 : decode prog_12_method_64_code 46 = .ok (.iload_n 3, 1) := by decide +kernel
theorem d_TM_write_47 : decode prog_12_method_64_code 47 = .ok (.iadd, 1) := by decide +kernel
theorem d_TM_write_48 : decode prog_12_method_64_code 48 = .ok (.iaload, 1) := by decide +kernel
theorem d_TM_write_49 : decode prog_12_method_64_code 49 = .ok (.iastore, 1) := by decide +kernel
theorem d_TM_write_50 : decode prog_12_method_64_code 50 = .ok (.iinc 3 1, 3) := by decide +kernel
theorem d_TM_write_53 : decode prog_12_method_64_code 53 = .ok (.goto (-31), 3) := by decide +kernel
theorem d_TM_write_56 : decode prog_12_method_64_code 56 = .ok (.aload_n 0, 1) := by decide +kernel
theorem d_TM_write_57 : decode prog_12_method_64_code 57 = .ok (.getfield 7, 3) := by decide +kernel
theorem d_TM_write_60 : decode prog_12_method_64_code 60 = .ok (.bipush 8, 2) := by decide +kernel
theorem d_TM_write_62 : decode prog_12_method_64_code 62 = .ok (.dup2, 1) := by decide +kernel
theorem d_TM_write_63 : decode prog_12_method_64_code 63 = .ok (.iaload, 1) := by decide +kernel
theorem d_TM_write_64 : decode prog_12_method_64_code 64 = .ok (.iconst 1, 1) := by decide +kernel
theorem d_TM_write_65 : decode prog_12_method_64_code 65 = .ok (.isub, 1) := by decide +kernel
theorem d_TM_write_66 : decode prog_12_method_64_code 66 = .ok (.iastore, 1) := by decide +kernel
theorem d_TM_write_67 : decode prog_12_method_64_code 67 = .ok (.aload_n 0, 1) := by decide +kernel
theorem d_TM_write_68 : decode prog_12_method_64_code 68 = .ok (.getfield 7, 3) := by decide +kernel
theorem d_TM_write_71 : decode prog_12_method_64_code 71 = .ok (.sipush 1405, 3) := by decide +kernel
theorem d_TM_write_74 : decode prog_12_method_64_code 74 = .ok (.aload_n 0, 1) := by decide +kernel
theorem d_TM_write_75 : decode prog_12_method_64_code 75 = .ok (.getfield 7, 3) := by decide +kernel
theorem d_TM_write_78 : decode prog_12_method_64_code 78 = .ok (.bipush 8, 2) := by decide +kernel
theorem d_TM_write_80 : decode prog_12_method_64_code 80 = .ok (.iaload, 1) := by decide +kernel
theorem d_TM_write_81 : decode prog_12_method_64_code 81 = .ok (.iadd, 1) := by decide +kernel
theorem d_TM_write_82 : decode prog_12_method_64_code 82 = .ok (.iload_n 1, 1) := by decide +kernel
theorem d_TM_write_83 : decode prog_12_method_64_code 83 = .ok (.bipush 9, 2) := by decide +kernel
theorem d_TM_write_85 : decode prog_12_method_64_code 85 = .ok (.imul, 1) := by decide +kernel
theorem d_TM_write_86 : decode prog_12_method_64_code 86 = .ok (.iload_n 2, 1) := by decide +kernel
theorem d_TM_write_87 : decode prog_12_method_64_code 87 = .ok (.iadd, 1) := by decide +kernel
theorem d_TM_write_88 : decode prog_12_method_64_code 88 = .ok (.bipush 9, 2) := by decide +kernel
theorem d_TM_write_90 : decode prog_12_method_64_code 90 = .ok (.imul, 1) := by decide +kernel
theorem d_TM_write_91 : decode prog_12_method_64_code 91 = .ok (.aload_n 0, 1) := by decide +kernel
theorem d_TM_write_92 : decode prog_12_method_64_code 92 = .ok (.getfield 7, 3) := by decide +kernel
theorem d_TM_write_95 : decode prog_12_method_64_code 95 = .ok (.bipush 7, 2) := by decide +kernel
theorem d_TM_write_97 : decode prog_12_method_64_code 97 = .ok (.iaload, 1) := by decide +kernel
theorem d_TM_write_98 : decode prog_12_method_64_code 98 = .ok (.iadd, 1) := by decide +kernel
theorem d_TM_write_99 : decode prog_12_method_64_code 99 = .ok (.iastore, 1) := by decide +kernel
theorem d_TM_write_100 : decode prog_12_method_64_code 100 = .ok (.aload_n 0, 1) := by decide +kernel
theorem d_TM_write_101 : decode prog_12_method_64_code 101 = .ok (.getfield 7, 3) := by decide +kernel
theorem d_TM_write_104 : decode prog_12_method_64_code 104 = .ok (.bipush 8, 2) := by decide +kernel
theorem d_TM_write_106 : decode prog_12_method_64_code 106 = .ok (.dup2, 1) := by decide +kernel
theorem d_TM_write_107 : decode prog_12_method_64_code 107 = .ok (.iaload, 1) := by decide +kernel
theorem d_TM_write_108 : decode prog_12_method_64_code 108 = .ok (.iconst 1, 1) := by decide +kernel
theorem d_TM_write_109 : decode prog_12_method_64_code 109 = .ok (.iadd, 1) := by decide +kernel
theorem d_TM_write_110 : decode prog_12_method_64_code 110 = .ok (.iastore, 1) := by decide +kernel
theorem d_TM_write_111 : decode prog_12_method_64_code 111 = .ok (.return_, 1) := by decide +kernel
theorem d_TM_nudge_0 : decode prog_12_method_72_code 0 = .ok (.aload_n 0, 1) := by decide +kernel
theorem d_TM_nudge_1 : decode prog_12_method_72_code 1 = .ok (.iload_n 1, 1) := by decide +kernel
theorem d_TM_nudge_2 : decode prog_12_method_72_code 2 = .ok (.iload_n 2, 1) := by decide +kernel
theorem d_TM_nudge_3 : decode prog_12_method_72_code 3 = .ok (.invokevirtual 320, 3) := by decide +kernel
theorem d_TM_nudge_6 : decode prog_12_method_72_code 6 = .ok (.ifCond .ne 5, 3) := by decide +kernel
theorem d_TM_nudge_9 : decode prog_12_method_72_code 9 = .ok (.iconst 0, 1) := by decide +kernel
theorem d_TM_nudge_10 : decode prog_12_method_72_code 10 = .ok (.ireturn, 1) := by decide +kernel
theorem d_TM_nudge_11 : decode prog_12_method_72_code 11 = .ok (.aload_n 0, 1) := by decide +kernel
theorem d_TM_nudge_12 : decode prog_12_method_72_code 12 = .ok (.invokevirtual 314, 3) := by decide +kernel
theorem d_TM_nudge_15 : decode prog_12_method_72_code 15 = .ok (.aload_n 0, 1) := by decide +kernel
theorem d_TM_nudge_16 : decode prog_12_method_72_code 16 = .ok (.getfield 7, 3) := by decide +kernel
theorem d_TM_nudge_19 : decode prog_12_method_72_code 19 = .ok (.bipush 10, 2) := by decide +kernel
theorem d_TM_nudge_21 : decode prog_12_method_72_code 21 = .ok (.iload_n 1, 1) := by decide +kernel
theorem d_TM_nudge_22 : decode prog_12_method_72_code 22 = .ok (.iadd, 1) := by decide +kernel
theorem d_TM_nudge_23 : decode prog_12_method_72_code 23 = .ok (.dup2, 1) := by decide +kernel
theorem d_TM_nudge_24 : decode prog_12_method_72_code 24 = .ok (.iaload, 1) := by decide +kernel
theorem d_TM_nudge_25 : decode prog_12_method_72_code 25 = .ok (.iload_n 2, 1) := by decide +kernel
theorem d_TM_nudge_26 : decode prog_12_method_72_code 26 = .ok (.iadd, 1) := by decide +kernel
theorem d_TM_nudge_27 : decode prog_12_method_72_code 27 = .ok (.iastore, 1) := by decide +kernel
theorem d_TM_nudge_28 : decode prog_12_method_72_code 28 = .ok (.iconst 1, 1) := by decide +kernel
theorem d_TM_nudge_29 : decode prog_12_method_72_code 29 = .ok (.ireturn, 1) := by decide +kernel
theorem d_TM_canNudge_0 : decode prog_12_method_68_code 0 = .ok (.aload_n 0, 1) := by decide +kernel
theorem d_TM_canNudge_1 : decode prog_12_method_68_code 1 = .ok (.iload_n 1, 1) := by decide +kernel
theorem d_TM_canNudge_2 : decode prog_12_method_68_code 2 = .ok (.invokevirtual 73, 3) := by decide +kernel
theorem d_TM_canNudge_5 : decode prog_12_method_68_code 5 = .ok (.ifCond .eq 42, 3) := by decide +kernel
theorem d_TM_canNudge_8 : decode prog_12_method_68_code 8 = .ok (.iload_n 2, 1) := by decide +kernel
theorem d_TM_canNudge_9 : decode prog_12_method_68_code 9 = .ok (.bipush (-9), 2) := by decide +kernel
theorem d_TM_canNudge_11 : decode prog_12_method_68_code 11 = .ok (.bipush 9, 2) := by decide +kernel
theorem d_TM_canNudge_13 : decode prog_12_method_68_code 13 = .ok (.invokestatic 69, 3) := by decide +kernel
theorem d_TM_canNudge_16 : decode prog_12_method_68_code 16 = .ok (.ifCond .eq 31, 3) := by decide +kernel
theorem d_TM_canNudge_19 : decode prog_12_method_68_code 19 = .ok (.iload_n 2, 1) := by decide +kernel
theorem d_TM_canNudge_20 : decode prog_12_method_68_code 20 = .ok (.ifCond .eq 27, 3) := by decide +kernel
theorem d_TM_canNudge_23 : decode prog_12_method_68_code 23 = .ok (.aload_n 0, 1) := by decide +kernel
theorem d_TM_canNudge_24 : decode prog_12_method_68_code 24 = .ok (.getfield 7, 3) := by decide +kernel
theorem d_TM_canNudge_27 : decode prog_12_method_68_code 27 = .ok (.bipush 10, 2) := by decide +kernel
theorem d_TM_canNudge_29 : decode prog_12_method_68_code 29 = .ok (.iload_n 1, 1) := by decide +kernel
theorem d_TM_canNudge_30 : decode prog_12_method_68_code 30 = .ok (.iadd, 1) := by decide +kernel
theorem d_TM_canNudge_31 : decode prog_12_method_68_code 31 = .ok (.iaload, 1) := by decide +kernel
theorem d_TM_canNudge_32 : decode prog_12_method_68_code 32 = .ok (.iload_n 2, 1) := by decide +kernel
theorem d_TM_canNudge_33 : decode prog_12_method_68_code 33 = .ok (.iadd, 1) := by decide +kernel
theorem d_TM_canNudge_34 : decode prog_12_method_68_code 34 = .ok (.iconst 0, 1) := by decide +kernel
theorem d_TM_canNudge_35 : decode prog_12_method_68_code 35 = .ok (.bipush 9, 2) := by decide +kernel
theorem d_TM_canNudge_37 : decode prog_12_method_68_code 37 = .ok (.invokestatic 69, 3) := by decide +kernel
theorem d_TM_canNudge_40 : decode prog_12_method_68_code 40 = .ok (.ifCond .eq 7, 3) := by decide +kernel
theorem d_TM_canNudge_43 : decode prog_12_method_68_code 43 = .ok (.iconst 1, 1) := by decide +kernel
theorem d_TM_canNudge_44 : decode prog_12_method_68_code 44 = .ok (.goto 4, 3) := by decide +kernel
theorem d_TM_canNudge_47 : decode prog_12_method_68_code 47 = .ok (.iconst 0, 1) := by decide +kernel
theorem d_TM_canNudge_48 : decode prog_12_method_68_code 48 = .ok (.ireturn, 1) := by decide +kernel
theorem d_TM_day_0 : decode prog_12_method_74_code 0 = .ok (.iload_n 1, 1) := by decide +kernel
theorem d_TM_day_1 : decode prog_12_method_74_code 1 = .ok (.iconst 1, 1) := by decide +kernel
theorem d_TM_day_2 : decode prog_12_method_74_code 2 = .ok (.bipush 60, 2) := by decide +kernel
theorem d_TM_day_4 : decode prog_12_method_74_code 4 = .ok (.invokestatic 69, 3) := by decide +kernel
theorem d_TM_day_7 : decode prog_12_method_74_code 7 = .ok (.ifCond .eq 35, 3) := by decide +kernel
theorem d_TM_day_10 : decode prog_12_method_74_code 10 = .ok (.aload_n 0, 1) := by decide +kernel
theorem d_TM_day_11 : decode prog_12_method_74_code 11 = .ok (.getfield 7, 3) := by decide +kernel
theorem d_TM_day_14 : decode prog_12_method_74_code 14 = .ok (.iconst 5, 1) := by decide +kernel
theorem d_TM_day_15 : decode prog_12_method_74_code 15 = .ok (.iaload, 1) := by decide +kernel
theorem d_TM_day_16 : decode prog_12_method_74_code 16 = .ok (.iload_n 1, 1) := by decide +kernel
theorem d_TM_day_17 : decode prog_12_method_74_code 17 = .ok (.iadd, 1) := by decide +kernel
theorem d_TM_day_18 : decode prog_12_method_74_code 18 = .ok (.sipush 9999, 3) := by decide +kernel
theorem d_TM_day_21 : decode prog_12_method_74_code 21 = .ok (.if_icmp .gt 21, 3) := by decide +kernel
theorem d_TM_day_24 : decode prog_12_method_74_code 24 = .ok (.aload_n 0, 1) := by decide +kernel
theorem d_TM_day_25 : decode prog_12_method_74_code 25 = .ok (.iload_n 1, 1) := by decide +kernel
theorem d_TM_day_26 : decode prog_12_method_74_code 26 = .ok (.invokevirtual 326, 3) := by decide +kernel
theorem d_TM_day_29 : decode prog_12_method_74_code 29 = .ok (.ifCond .eq 13, 3) := by decide +kernel
theorem d_TM_day_32 : decode prog_12_method_74_code 32 = .ok (.aload_n 0, 1) := by decide +kernel
theorem d_TM_day_33 : decode prog_12_method_74_code 33 = .ok (.getfield 7, 3) := by decide +kernel
theorem d_TM_day_36 : decode prog_12_method_74_code 36 = .ok (.bipush 7, 2) := by decide +kernel
theorem d_TM_day_38 : decode prog_12_method_74_code 38 = .ok (.iaload, 1) := by decide +kernel
theorem d_TM_day_39 : decode prog_12_method_74_code 39 = .ok (.goto 4, 3) := by decide +kernel
theorem d_TM_day_42 : decode prog_12_method_74_code 42 = .ok (.iconst (-1), 1) := by decide +kernel
theorem d_TM_day_43 : decode prog_12_method_74_code 43 = .ok (.ireturn, 1) := by decide +kernel
theorem d_TM_arePassed_0 : decode prog_12_method_73_code 0 = .ok (.iconst 0, 1) := by decide +kernel
theorem d_TM_arePassed_1 : decode prog_12_method_73_code 1 = .ok (.istore_n 2, 1) := by decide +kernel
theorem d_TM_arePassed_2 : decode prog_12_method_73_code 2 = .ok (.iload_n 2, 1) := by decide +kernel
theorem d_TM_arePassed_3 : decode prog_12_method_73_code 3 = .ok (.iload_n 1, 1) := by decide +kernel
theorem d_TM_arePassed_4 : decode prog_12_method_73_code 4 = .ok (.if_icmp .ge 26, 3) := by decide +kernel
theorem d_TM_arePassed_7 : decode prog_12_method_73_code 7 = .ok (.aload_n 0, 1) := by decide +kernel
theorem d_TM_arePassed_8 : decode prog_12_method_73_code 8 = .ok (.aload_n 0, 1) := by decide +kernel
theorem d_TM_arePassed_9 : decode prog_12_method_73_code 9 = .ok (.getfield 7, 3) := by decide +kernel
theorem d_TM_arePassed_12 : decode prog_12_method_73_code 12 = .ok (.bipush 7, 2) := by decide +kernel
theorem d_TM_arePassed_14 : decode prog_12_method_73_code 14 = .ok (.iaload, 1) := by decide +kernel
theorem d_TM_arePassed_15 : decode prog_12_method_73_code 15 = .ok (.invokevirtual 323, 3) := by decide +kernel
theorem d_TM_arePassed_18 : decode prog_12_method_73_code 18 = .ok (.iconst (-1), 1) := by decide +kernel
theorem d_TM_arePassed_19 : decode prog_12_method_73_code 19 = .ok (.if_icmp .ne 5, 3) := by decide +kernel
theorem d_TM_arePassed_22 : decode prog_12_method_73_code 22 = .ok (.iconst 0, 1) := by decide +kernel
theorem d_TM_arePassed_23 : decode prog_12_method_73_code 23 = .ok (.ireturn, 1) := by decide +kernel
theorem d_TM_arePassed_24 : decode prog_12_method_73_code 24 = .ok (.iinc 2 1, 3) := by decide +kernel
theorem d_TM_arePassed_27 : decode prog_12_method_73_code 27 = .ok (.goto (-25), 3) := by decide +kernel
theorem d_TM_arePassed_30 : decode prog_12_method_73_code 30 = .ok (.iconst 1, 1) := by decide +kernel
theorem d_TM_arePassed_31 : decode prog_12_method_73_code 31 = .ok (.ireturn, 1) := by decide +kernel
theorem d_TM_played_0 : decode prog_12_method_76_code 0 = .ok (.iload_n 1, 1) := by decide +kernel
theorem d_TM_played_1 : decode prog_12_method_76_code 1 = .ok (.iconst 0, 1) := by decide +kernel
theorem d_TM_played_2 : decode prog_12_method_76_code 2 = .ok (.aload_n 0, 1) := by decide +kernel
theorem d_TM_played_3 : decode prog_12_method_76_code 3 = .ok (.getfield 7, 3) := by decide +kernel
theorem d_TM_played_6 : decode prog_12_method_76_code 6 = .ok (.iconst 1, 1) := by decide +kernel
theorem d_TM_played_7 : decode prog_12_method_76_code 7 = .ok (.iaload, 1) := by decide +kernel
theorem d_TM_played_8 : decode prog_12_method_76_code 8 = .ok (.iconst 1, 1) := by decide +kernel
theorem d_TM_played_9 : decode prog_12_method_76_code 9 = .ok (.isub, 1) := by decide +kernel
theorem d_TM_played_10 : decode prog_12_method_76_code 10 = .ok (.invokestatic 69, 3) := by decide +kernel
theorem d_TM_played_13 : decode prog_12_method_76_code 13 = .ok (.ifCond .ne 6, 3) := by decide +kernel
theorem d_TM_played_16 : decode prog_12_method_76_code 16 = .ok (.bipush (-2), 2) := by decide +kernel
theorem d_TM_played_18 : decode prog_12_method_76_code 18 = .ok (.ireturn, 1) := by decide +kernel
theorem d_TM_played_19 : decode prog_12_method_76_code 19 = .ok (.iconst 0, 1) := by decide +kernel
theorem d_TM_played_20 : decode prog_12_method_76_code 20 = .ok (.istore_n 2, 1) := by decide +kernel
theorem d_TM_played_21 : decode prog_12_method_76_code 21 = .ok (.iload_n 2, 1) := by decide +kernel
theorem d_TM_played_22 : decode prog_12_method_76_code 22 = .ok (.aload_n 0, 1) := by decide +kernel
theorem d_TM_played_23 : decode prog_12_method_76_code 23 = .ok (.getfield 16, 3) := by decide +kernel
theorem d_TM_played_26 : decode prog_12_method_76_code 26 = .ok (.sipush 681, 3) := by decide +kernel
theorem d_TM_played_29 : decode prog_12_method_76_code 29 = .ok (.iload_n 1, 1) := by decide +kernel
theorem d_TM_played_30 : decode prog_12_method_76_code 30 = .ok (.imul, 1) := by decide +kernel
theorem d_TM_played_31 : decode prog_12_method_76_code 31 = .ok (.iaload, 1) := by decide +kernel
theorem d_TM_played_32 : decode prog_12_method_76_code 32 = .ok (.if_icmp .ge 29, 3) := by decide +kernel
theorem d_TM_played_35 : decode prog_12_method_76_code 35 = .ok (.aload_n 0, 1) := by decide +kernel
theorem d_TM_played_36 : decode prog_12_method_76_code 36 = .ok (.sipush 681, 3) := by decide +kernel
theorem d_TM_played_39 : decode prog_12_method_76_code 39 = .ok (.iload_n 1, 1) := by decide +kernel
theorem d_TM_played_40 : decode prog_12_method_76_code 40 = .ok (.imul, 1) := by decide +kernel
theorem d_TM_played_41 : decode prog_12_method_76_code 41 = .ok (.iconst 1, 1) := by decide +kernel
theorem d_TM_played_42 : decode prog_12_method_76_code 42 = .ok (.iadd, 1) := by decide +kernel
theorem d_TM_played_43 : decode prog_12_method_76_code 43 = .ok (.iconst 3, 1) := by decide +kernel
theorem d_TM_played_44 : decode prog_12_method_76_code 44 = .ok (.iload_n 2, 1) := by decide +kernel
theorem d_TM_played_45 : decode prog_12_method_76_code 45 = .ok (.imul, 1) := by decide +kernel
theorem d_TM_played_46 : decode prog_12_method_76_code 46 = .ok (.iadd, 1) := by decide +kernel
theorem d_TM_played_47 : decode prog_12_method_76_code 47 = .ok (.invokevirtual 338, 3) := by decide +kernel
theorem d_TM_played_50 : decode prog_12_method_76_code 50 = .ok (.ifCond .ne 5, 3) := by decide +kernel
theorem d_TM_played_53 : decode prog_12_method_76_code 53 = .ok (.iload_n 2, 1) := by decide +kernel
theorem d_TM_played_54 : decode prog_12_method_76_code 54 = .ok (.ireturn, 1) := by decide +kernel
theorem d_TM_played_55 : decode prog_12_method_76_code 55 = .ok (.iinc 2 1, 3) := by decide +kernel
theorem d_TM_played_58 : decode prog_12_method_76_code 58 = .ok (.goto (-37), 3) := by decide +kernel
theorem d_TM_played_61 : decode prog_12_method_76_code 61 = .ok (.iconst (-1), 1) := by decide +kernel
theorem d_TM_played_62 : decode prog_12_method_76_code 62 = .ok (.ireturn, 1) := by decide +kernel
theorem d_TM_isPlayed_0 : decode prog_12_method_75_code 0 = .ok (.aload_n 0, 1) := by decide +kernel
theorem d_TM_isPlayed_1 : decode prog_12_method_75_code 1 = .ok (.getfield 16, 3) := by decide +kernel
theorem d_TM_isPlayed_4 : decode prog_12_method_75_code 4 = .ok (.iload_n 1, 1) := by decide +kernel
theorem d_TM_isPlayed_5 : decode prog_12_method_75_code 5 = .ok (.iconst 1, 1) := by decide +kernel
theorem d_TM_isPlayed_6 : decode prog_12_method_75_code 6 = .ok (.iadd, 1) := by decide +kernel
theorem d_TM_isPlayed_7 : decode prog_12_method_75_code 7 = .ok (.iaload, 1) := by decide +kernel
theorem d_TM_isPlayed_8 : decode prog_12_method_75_code 8 = .ok (.istore_n 2, 1) := by decide +kernel
theorem d_TM_isPlayed_9 : decode prog_12_method_75_code 9 = .ok (.aload_n 0, 1) := by decide +kernel
theorem d_TM_isPlayed_10 : decode prog_12_method_75_code 10 = .ok (.getfield 16, 3) := by decide +kernel
theorem d_TM_isPlayed_13 : decode prog_12_method_75_code 13 = .ok (.iload_n 1, 1) := by decide +kernel
theorem d_TM_isPlayed_14 : decode prog_12_method_75_code 14 = .ok (.iconst 2, 1) := by decide +kernel
theorem d_TM_isPlayed_15 : decode prog_12_method_75_code 15 = .ok (.iadd, 1) := by decide +kernel
theorem d_TM_isPlayed_16 : decode prog_12_method_75_code 16 = .ok (.iaload, 1) := by decide +kernel
theorem d_TM_isPlayed_17 : decode prog_12_method_75_code 17 = .ok (.istore_n 3, 1) := by decide +kernel
theorem d_TM_isPlayed_18 : decode prog_12_method_75_code 18 = .ok (.aload_n 0, 1) := by decide +kernel
theorem d_TM_isPlayed_19 : decode prog_12_method_75_code 19 = .ok (.getfield 16, 3) := by decide +kernel
theorem d_TM_isPlayed_22 : decode prog_12_method_75_code 22 = .ok (.iload_n 1, 1) := by decide +kernel
theorem d_TM_isPlayed_23 : decode prog_12_method_75_code 23 = .ok (.iaload, 1) := by decide +kernel
theorem d_TM_isPlayed_24 : decode prog_12_method_75_code 24 = .ok (.tableswitch 96 2 7 #[40, 55, 62, 76, 83, 90], 40) := by decide +kernel
theorem d_TM_isPlayed_64 : decode prog_12_method_75_code 64 = .ok (.aload_n 0, 1) := by decide +kernel
theorem d_TM_isPlayed_65 : decode prog_12_method_75_code 65 = .ok (.iload_n 2, 1) := by decide +kernel
theorem d_TM_isPlayed_66 : decode prog_12_method_75_code 66 = .ok (.iload_n 3, 1) := by decide +kernel
theorem d_TM_isPlayed_67 : decode prog_12_method_75_code 67 = .ok (.invokevirtual 329, 3) := by decide +kernel
theorem d_TM_isPlayed_70 : decode prog_12_method_75_code 70 = .ok (.ifCond .lt 7, 3) := by decide +kernel
theorem d_TM_isPlayed_73 : decode prog_12_method_75_code 73 = .ok (.iconst 1, 1) := by decide +kernel
theorem d_TM_isPlayed_74 : decode prog_12_method_75_code 74 = .ok (.goto 4, 3) := by decide +kernel
theorem d_TM_isPlayed_77 : decode prog_12_method_75_code 77 = .ok (.iconst 0, 1) := by decide +kernel
theorem d_TM_isPlayed_78 : decode prog_12_method_75_code 78 = .ok (.ireturn, 1) := by decide +kernel
theorem d_TM_isPlayed_79 : decode prog_12_method_75_code 79 = .ok (.aload_n 0, 1) := by decide +kernel
theorem d_TM_isPlayed_80 : decode prog_12_method_75_code 80 = .ok (.iload_n 2, 1) := by decide +kernel
theorem d_TM_isPlayed_81 : decode prog_12_method_75_code 81 = .ok (.iload_n 3, 1) := by decide +kernel
theorem d_TM_isPlayed_82 : decode prog_12_method_75_code 82 = .ok (.invokevirtual 332, 3) := by decide +kernel
theorem d_TM_isPlayed_85 : decode prog_12_method_75_code 85 = .ok (.ireturn, 1) := by decide +kernel
theorem d_TM_isPlayed_86 : decode prog_12_method_75_code 86 = .ok (.aload_n 0, 1) := by decide +kernel
theorem d_TM_isPlayed_87 : decode prog_12_method_75_code 87 = .ok (.iload_n 2, 1) := by decide +kernel
theorem d_TM_isPlayed_88 : decode prog_12_method_75_code 88 = .ok (.invokevirtual 323, 3) := by decide +kernel
theorem d_TM_isPlayed_91 : decode prog_12_method_75_code 91 = .ok (.ifCond .lt 7, 3) := by decide +kernel
theorem d_TM_isPlayed_94 : decode prog_12_method_75_code 94 = .ok (.iconst 1, 1) := by decide +kernel
theorem d_TM_isPlayed_95 : decode prog_12_method_75_code 95 = .ok (.goto 4, 3) := by decide +kernel
theorem d_TM_isPlayed_98 : decode prog_12_method_75_code 98 = .ok (.iconst 0, 1) := by decide +kernel
theorem d_TM_isPlayed_99 : decode prog_12_method_75_code 99 = .ok (.ireturn, 1) := by decide +kernel
theorem d_TM_isPlayed_100 : decode prog_12_method_75_code 100 = .ok (.aload_n 0, 1) := by decide +kernel
theorem d_TM_isPlayed_101 : decode prog_12_method_75_code 101 = .ok (.iload_n 2, 1) := by decide +kernel
theorem d_TM_isPlayed_102 : decode prog_12_method_75_code 102 = .ok (.iconst 1, 1) := by decide +kernel
theorem d_TM_isPlayed_103 : decode prog_12_method_75_code 103 = .ok (.invokevirtual 335, 3) := by decide +kernel
theorem d_TM_isPlayed_106 : decode prog_12_method_75_code 106 = .ok (.ireturn, 1) := by decide +kernel
theorem d_TM_isPlayed_107 : decode prog_12_method_75_code 107 = .ok (.aload_n 0, 1) := by decide +kernel
theorem d_TM_isPlayed_108 : decode prog_12_method_75_code 108 = .ok (.iload_n 2, 1) := by decide +kernel
theorem d_TM_isPlayed_109 : decode prog_12_method_75_code 109 = .ok (.iconst (-1), 1) := by decide +kernel
theorem d_TM_isPlayed_110 : decode prog_12_method_75_code 110 = .ok (.invokevirtual 335, 3) := by decide +kernel
theorem d_TM_isPlayed_113 : decode prog_12_method_75_code 113 = .ok (.ireturn, 1) := by decide +kernel
theorem d_TM_isPlayed_114 : decode prog_12_method_75_code 114 = .ok (.aload_n 0, 1) := by decide +kernel
theorem d_TM_isPlayed_115 : decode prog_12_method_75_code 115 = .ok (.iload_n 2, 1) := by decide +kernel
theorem d_TM_isPlayed_116 : decode prog_12_method_75_code 116 = .ok (.invokevirtual 326, 3) := by decide +kernel
theorem d_TM_isPlayed_119 : decode prog_12_method_75_code 119 = .ok (.ireturn, 1) := by decide +kernel
theorem d_TM_isPlayed_120 : decode prog_12_method_75_code 120 = .ok (.iconst 1, 1) := by decide +kernel
theorem d_TM_isPlayed_121 : decode prog_12_method_75_code 121 = .ok (.ireturn, 1) := by decide +kernel
theorem d_TM_years_0 : decode prog_12_method_78_code 0 = .ok (.iload_n 1, 1) := by decide +kernel
theorem d_TM_years_1 : decode prog_12_method_78_code 1 = .ok (.iconst 0, 1) := by decide +kernel
theorem d_TM_years_2 : decode prog_12_method_78_code 2 = .ok (.sipush 9999, 3) := by decide +kernel
theorem d_TM_years_5 : decode prog_12_method_78_code 5 = .ok (.invokestatic 69, 3) := by decide +kernel
theorem d_TM_years_8 : decode prog_12_method_78_code 8 = .ok (.ifCond .eq 13, 3) := by decide +kernel
theorem d_TM_years_11 : decode prog_12_method_78_code 11 = .ok (.iload_n 2, 1) := by decide +kernel
theorem d_TM_years_12 : decode prog_12_method_78_code 12 = .ok (.iconst 1, 1) := by decide +kernel
theorem d_TM_years_13 : decode prog_12_method_78_code 13 = .ok (.bipush 40, 2) := by decide +kernel
theorem d_TM_years_15 : decode prog_12_method_78_code 15 = .ok (.invokestatic 69, 3) := by decide +kernel
theorem d_TM_years_18 : decode prog_12_method_78_code 18 = .ok (.ifCond .ne 5, 3) := by decide +kernel
theorem d_TM_years_21 : decode prog_12_method_78_code 21 = .ok (.iconst (-1), 1) := by decide +kernel
theorem d_TM_years_22 : decode prog_12_method_78_code 22 = .ok (.ireturn, 1) := by decide +kernel
theorem d_TM_years_23 : decode prog_12_method_78_code 23 = .ok (.aload_n 0, 1) := by decide +kernel
theorem d_TM_years_24 : decode prog_12_method_78_code 24 = .ok (.invokevirtual 314, 3) := by decide +kernel
theorem d_TM_years_27 : decode prog_12_method_78_code 27 = .ok (.aload_n 0, 1) := by decide +kernel
theorem d_TM_years_28 : decode prog_12_method_78_code 28 = .ok (.getfield 7, 3) := by decide +kernel
theorem d_TM_years_31 : decode prog_12_method_78_code 31 = .ok (.bipush 6, 2) := by decide +kernel
theorem d_TM_years_33 : decode prog_12_method_78_code 33 = .ok (.iload_n 1, 1) := by decide +kernel
theorem d_TM_years_34 : decode prog_12_method_78_code 34 = .ok (.iconst 2, 1) := by decide +kernel
theorem d_TM_years_35 : decode prog_12_method_78_code 35 = .ok (.imul, 1) := by decide +kernel
theorem d_TM_years_36 : decode prog_12_method_78_code 36 = .ok (.sipush 449, 3) := by decide +kernel
theorem d_TM_years_39 : decode prog_12_method_78_code 39 = .ok (.iadd, 1) := by decide +kernel
theorem d_TM_years_40 : decode prog_12_method_78_code 40 = .ok (.iastore, 1) := by decide +kernel
theorem d_TM_years_41 : decode prog_12_method_78_code 41 = .ok (.iconst 0, 1) := by decide +kernel
theorem d_TM_years_42 : decode prog_12_method_78_code 42 = .ok (.istore_n 3, 1) := by decide +kernel
theorem d_TM_years_43 : decode prog_12_method_78_code 43 = .ok (.iload_n 3, 1) := by decide +kernel
theorem d_TM_years_44 : decode prog_12_method_78_code 44 = .ok (.iload_n 2, 1) := by decide +kernel
theorem d_TM_years_45 : decode prog_12_method_78_code 45 = .ok (.if_icmp .ge 28, 3) := by decide +kernel
theorem d_TM_years_48 : decode prog_12_method_78_code 48 = .ok (.aload_n 0, 1) := by decide +kernel
theorem d_TM_years_49 : decode prog_12_method_78_code 49 = .ok (.getfield 7, 3) := by decide +kernel
theorem d_TM_years_52 : decode prog_12_method_78_code 52 = .ok (.bipush 6, 2) := by decide +kernel
theorem d_TM_years_54 : decode prog_12_method_78_code 54 = .ok (.iaload, 1) := by decide +kernel
theorem d_TM_years_55 : decode prog_12_method_78_code 55 = .ok (.istore 4, 2) := by decide +kernel
theorem d_TM_years_57 : decode prog_12_method_78_code 57 = .ok (.aload_n 0, 1) := by decide +kernel
theorem d_TM_years_58 : decode prog_12_method_78_code 58 = .ok (.invokevirtual 290, 3) := by decide +kernel
theorem d_TM_years_61 : decode prog_12_method_78_code 61 = .ok (.aload_n 0, 1) := by decide +kernel
theorem d_TM_years_62 : decode prog_12_method_78_code 62 = .ok (.iload 4, 2) := by decide +kernel
theorem d_TM_years_64 : decode prog_12_method_78_code 64 = .ok (.invokevirtual 341, 3) := by decide +kernel
theorem d_TM_years_67 : decode prog_12_method_78_code 67 = .ok (.iinc 3 1, 3) := by decide +kernel
theorem d_TM_years_70 : decode prog_12_method_78_code 70 = .ok (.goto (-27), 3) := by decide +kernel
theorem d_TM_years_73 : decode prog_12_method_78_code 73 = .ok (.aload_n 0, 1) := by decide +kernel
theorem d_TM_years_74 : decode prog_12_method_78_code 74 = .ok (.getfield 7, 3) := by decide +kernel
theorem d_TM_years_77 : decode prog_12_method_78_code 77 = .ok (.iconst 5, 1) := by decide +kernel
theorem d_TM_years_78 : decode prog_12_method_78_code 78 = .ok (.iaload, 1) := by decide +kernel
theorem d_TM_years_79 : decode prog_12_method_78_code 79 = .ok (.ireturn, 1) := by decide +kernel
theorem d_TM_happens_0 : decode prog_12_method_77_code 0 = .ok (.iload_n 1, 1) := by decide +kernel
theorem d_TM_happens_1 : decode prog_12_method_77_code 1 = .ok (.bipush 6, 2) := by decide +kernel
theorem d_TM_happens_3 : decode prog_12_method_77_code 3 = .ok (.idiv, 1) := by decide +kernel
theorem d_TM_happens_4 : decode prog_12_method_77_code 4 = .ok (.bipush 8, 2) := by decide +kernel
theorem d_TM_happens_6 : decode prog_12_method_77_code 6 = .ok (.irem, 1) := by decide +kernel
theorem d_TM_happens_7 : decode prog_12_method_77_code 7 = .ok (.istore_n 2, 1) := by decide +kernel
theorem d_TM_happens_8 : decode prog_12_method_77_code 8 = .ok (.iload_n 1, 1) := by decide +kernel
theorem d_TM_happens_9 : decode prog_12_method_77_code 9 = .ok (.bipush 6, 2) := by decide +kernel
theorem d_TM_happens_11 : decode prog_12_method_77_code 11 = .ok (.irem, 1) := by decide +kernel
theorem d_TM_happens_12 : decode prog_12_method_77_code 12 = .ok (.tableswitch 125 0 2 #[28, 53, 78], 28) := by decide +kernel
theorem d_TM_happens_40 : decode prog_12_method_77_code 40 = .ok (.aload_n 0, 1) := by decide +kernel
theorem d_TM_happens_41 : decode prog_12_method_77_code 41 = .ok (.iload_n 2, 1) := by decide +kernel
theorem d_TM_happens_42 : decode prog_12_method_77_code 42 = .ok (.iconst 1, 1) := by decide +kernel
theorem d_TM_happens_43 : decode prog_12_method_77_code 43 = .ok (.invokevirtual 320, 3) := by decide +kernel
theorem d_TM_happens_46 : decode prog_12_method_77_code 46 = .ok (.ifCond .eq 114, 3) := by decide +kernel
theorem d_TM_happens_49 : decode prog_12_method_77_code 49 = .ok (.aload_n 0, 1) := by decide +kernel
theorem d_TM_happens_50 : decode prog_12_method_77_code 50 = .ok (.getfield 7, 3) := by decide +kernel
theorem d_TM_happens_53 : decode prog_12_method_77_code 53 = .ok (.bipush 10, 2) := by decide +kernel
theorem d_TM_happens_55 : decode prog_12_method_77_code 55 = .ok (.iload_n 2, 1) := by decide +kernel
theorem d_TM_happens_56 : decode prog_12_method_77_code 56 = .ok (.iadd, 1) := by decide +kernel
theorem d_TM_happens_57 : decode prog_12_method_77_code 57 = .ok (.dup2, 1) := by decide +kernel
theorem d_TM_happens_58 : decode prog_12_method_77_code 58 = .ok (.iaload, 1) := by decide +kernel
theorem d_TM_happens_59 : decode prog_12_method_77_code 59 = .ok (.iconst 1, 1) := by decide +kernel
theorem d_TM_happens_60 : decode prog_12_method_77_code 60 = .ok (.iadd, 1) := by decide +kernel
theorem d_TM_happens_61 : decode prog_12_method_77_code 61 = .ok (.iastore, 1) := by decide +kernel
theorem d_TM_happens_62 : decode prog_12_method_77_code 62 = .ok (.goto 98, 3) := by decide +kernel
theorem d_TM_happens_65 : decode prog_12_method_77_code 65 = .ok (.aload_n 0, 1) := by decide +kernel
theorem d_TM_happens_66 : decode prog_12_method_77_code 66 = .ok (.iload_n 2, 1) := by decide +kernel
theorem d_TM_happens_67 : decode prog_12_method_77_code 67 = .ok (.iconst (-1), 1) := by decide +kernel
theorem d_TM_happens_68 : decode prog_12_method_77_code 68 = .ok (.invokevirtual 320, 3) := by decide +kernel
theorem d_TM_happens_71 : decode prog_12_method_77_code 71 = .ok (.ifCond .eq 89, 3) := by decide +kernel
theorem d_TM_happens_74 : decode prog_12_method_77_code 74 = .ok (.aload_n 0, 1) := by decide +kernel
theorem d_TM_happens_75 : decode prog_12_method_77_code 75 = .ok (.getfield 7, 3) := by decide +kernel
theorem d_TM_happens_78 : decode prog_12_method_77_code 78 = .ok (.bipush 10, 2) := by decide +kernel
theorem d_TM_happens_80 : decode prog_12_method_77_code 80 = .ok (.iload_n 2, 1) := by decide +kernel
theorem d_TM_happens_81 : decode prog_12_method_77_code 81 = .ok (.iadd, 1) := by decide +kernel
theorem d_TM_happens_82 : decode prog_12_method_77_code 82 = .ok (.dup2, 1) := by decide +kernel
theorem d_TM_happens_83 : decode prog_12_method_77_code 83 = .ok (.iaload, 1) := by decide +kernel
theorem d_TM_happens_84 : decode prog_12_method_77_code 84 = .ok (.iconst 1, 1) := by decide +kernel
theorem d_TM_happens_85 : decode prog_12_method_77_code 85 = .ok (.isub, 1) := by decide +kernel
theorem d_TM_happens_86 : decode prog_12_method_77_code 86 = .ok (.iastore, 1) := by decide +kernel
theorem d_TM_happens_87 : decode prog_12_method_77_code 87 = .ok (.goto 73, 3) := by decide +kernel
theorem d_TM_happens_90 : decode prog_12_method_77_code 90 = .ok (.iload_n 1, 1) := by decide +kernel
theorem d_TM_happens_91 : decode prog_12_method_77_code 91 = .ok (.iconst 4, 1) := by decide +kernel
theorem d_TM_happens_92 : decode prog_12_method_77_code 92 = .ok (.irem, 1) := by decide +kernel
theorem d_TM_happens_93 : decode prog_12_method_77_code 93 = .ok (.iconst 2, 1) := by decide +kernel
theorem d_TM_happens_94 : decode prog_12_method_77_code 94 = .ok (.if_icmp .ne 66, 3) := by decide +kernel
theorem d_TM_happens_97 : decode prog_12_method_77_code 97 = .ok (.aload_n 0, 1) := by decide +kernel
theorem d_TM_happens_98 : decode prog_12_method_77_code 98 = .ok (.iload_n 1, 1) := by decide +kernel
theorem d_TM_happens_99 : decode prog_12_method_77_code 99 = .ok (.bipush 6, 2) := by decide +kernel
theorem d_TM_happens_101 : decode prog_12_method_77_code 101 = .ok (.idiv, 1) := by decide +kernel
theorem d_TM_happens_102 : decode prog_12_method_77_code 102 = .ok (.bipush 9, 2) := by decide +kernel
theorem d_TM_happens_104 : decode prog_12_method_77_code 104 = .ok (.irem, 1) := by decide +kernel
theorem d_TM_happens_105 : decode prog_12_method_77_code 105 = .ok (.invokevirtual 311, 3) := by decide +kernel
theorem d_TM_happens_108 : decode prog_12_method_77_code 108 = .ok (.ifCond .eq 52, 3) := by decide +kernel
theorem d_TM_happens_111 : decode prog_12_method_77_code 111 = .ok (.aload_n 0, 1) := by decide +kernel
theorem d_TM_happens_112 : decode prog_12_method_77_code 112 = .ok (.getfield 7, 3) := by decide +kernel
theorem d_TM_happens_115 : decode prog_12_method_77_code 115 = .ok (.iconst 5, 1) := by decide +kernel
theorem d_TM_happens_116 : decode prog_12_method_77_code 116 = .ok (.iaload, 1) := by decide +kernel
theorem d_TM_happens_117 : decode prog_12_method_77_code 117 = .ok (.sipush 9999, 3) := by decide +kernel
theorem d_TM_happens_120 : decode prog_12_method_77_code 120 = .ok (.if_icmp .ge 40, 3) := by decide +kernel
theorem d_TM_happens_123 : decode prog_12_method_77_code 123 = .ok (.aload_n 0, 1) := by decide +kernel
theorem d_TM_happens_124 : decode prog_12_method_77_code 124 = .ok (.iload_n 1, 1) := by decide +kernel
theorem d_TM_happens_125 : decode prog_12_method_77_code 125 = .ok (.bipush 6, 2) := by decide +kernel
theorem d_TM_happens_127 : decode prog_12_method_77_code 127 = .ok (.idiv, 1) := by decide +kernel
theorem d_TM_happens_128 : decode prog_12_method_77_code 128 = .ok (.bipush 9, 2) := by decide +kernel
theorem d_TM_happens_130 : decode prog_12_method_77_code 130 = .ok (.irem, 1) := by decide +kernel
theorem d_TM_happens_131 : decode prog_12_method_77_code 131 = .ok (.invokevirtual 317, 3) := by decide +kernel
theorem d_TM_happens_134 : decode prog_12_method_77_code 134 = .ok (.goto 26, 3) := by decide +kernel
theorem d_TM_happens_137 : decode prog_12_method_77_code 137 = .ok (.aload_n 0, 1) := by decide +kernel
theorem d_TM_happens_138 : decode prog_12_method_77_code 138 = .ok (.getfield 7, 3) := by decide +kernel
theorem d_TM_happens_141 : decode prog_12_method_77_code 141 = .ok (.iconst 5, 1) := by decide +kernel
theorem d_TM_happens_142 : decode prog_12_method_77_code 142 = .ok (.iaload, 1) := by decide +kernel
theorem d_TM_happens_143 : decode prog_12_method_77_code 143 = .ok (.sipush 9999, 3) := by decide +kernel
theorem d_TM_happens_146 : decode prog_12_method_77_code 146 = .ok (.if_icmp .ge 14, 3) := by decide +kernel
theorem d_TM_happens_149 : decode prog_12_method_77_code 149 = .ok (.aload_n 0, 1) := by decide +kernel
theorem d_TM_happens_150 : decode prog_12_method_77_code 150 = .ok (.aload_n 0, 1) := by decide +kernel
theorem d_TM_happens_151 : decode prog_12_method_77_code 151 = .ok (.getfield 7, 3) := by decide +kernel
theorem d_TM_happens_154 : decode prog_12_method_77_code 154 = .ok (.bipush 7, 2) := by decide +kernel
theorem d_TM_happens_156 : decode prog_12_method_77_code 156 = .ok (.iaload, 1) := by decide +kernel
theorem d_TM_happens_157 : decode prog_12_method_77_code 157 = .ok (.invokevirtual 317, 3) := by decide +kernel
theorem d_TM_happens_160 : decode prog_12_method_77_code 160 = .ok (.return_, 1) := by decide +kernel
theorem d_TM_of_0 : decode prog_12_method_79_code 0 = .ok (.aload_n 0, 1) := by decide +kernel
theorem d_TM_of_1 : decode prog_12_method_79_code 1 = .ok (.iload_n 1, 1) := by decide +kernel
theorem d_TM_of_2 : decode prog_12_method_79_code 2 = .ok (.invokevirtual 73, 3) := by decide +kernel
theorem d_TM_of_5 : decode prog_12_method_79_code 5 = .ok (.ifCond .ne 6, 3) := by decide +kernel
theorem d_TM_of_8 : decode prog_12_method_79_code 8 = .ok (.bipush (-10), 2) := by decide +kernel
theorem d_TM_of_10 : decode prog_12_method_79_code 10 = .ok (.ireturn, 1) := by decide +kernel
theorem d_TM_of_11 : decode prog_12_method_79_code 11 = .ok (.iload_n 2, 1) := by decide +kernel
theorem d_TM_of_12 : decode prog_12_method_79_code 12 = .ok (.tableswitch 110 0 5 #[40, 50, 60, 70, 82, 96], 40) := by decide +kernel
theorem d_TM_of_52 : decode prog_12_method_79_code 52 = .ok (.aload_n 0, 1) := by decide +kernel
theorem d_TM_of_53 : decode prog_12_method_79_code 53 = .ok (.getfield 7, 3) := by decide +kernel
theorem d_TM_of_56 : decode prog_12_method_79_code 56 = .ok (.bipush 10, 2) := by decide +kernel
theorem d_TM_of_58 : decode prog_12_method_79_code 58 = .ok (.iload_n 1, 1) := by decide +kernel
theorem d_TM_of_59 : decode prog_12_method_79_code 59 = .ok (.iadd, 1) := by decide +kernel
theorem d_TM_of_60 : decode prog_12_method_79_code 60 = .ok (.iaload, 1) := by decide +kernel
theorem d_TM_of_61 : decode prog_12_method_79_code 61 = .ok (.ireturn, 1) := by decide +kernel
theorem d_TM_of_62 : decode prog_12_method_79_code 62 = .ok (.aload_n 0, 1) := by decide +kernel
theorem d_TM_of_63 : decode prog_12_method_79_code 63 = .ok (.getfield 7, 3) := by decide +kernel
theorem d_TM_of_66 : decode prog_12_method_79_code 66 = .ok (.bipush 18, 2) := by decide +kernel
theorem d_TM_of_68 : decode prog_12_method_79_code 68 = .ok (.iload_n 1, 1) := by decide +kernel
theorem d_TM_of_69 : decode prog_12_method_79_code 69 = .ok (.iadd, 1) := by decide +kernel
theorem d_TM_of_70 : decode prog_12_method_79_code 70 = .ok (.iaload, 1) := by decide +kernel
theorem d_TM_of_71 : decode prog_12_method_79_code 71 = .ok (.ireturn, 1) := by decide +kernel
theorem d_TM_of_72 : decode prog_12_method_79_code 72 = .ok (.aload_n 0, 1) := by decide +kernel
theorem d_TM_of_73 : decode prog_12_method_79_code 73 = .ok (.getfield 7, 3) := by decide +kernel
theorem d_TM_of_76 : decode prog_12_method_79_code 76 = .ok (.bipush 34, 2) := by decide +kernel
theorem d_TM_of_78 : decode prog_12_method_79_code 78 = .ok (.iload_n 1, 1) := by decide +kernel
theorem d_TM_of_79 : decode prog_12_method_79_code 79 = .ok (.iadd, 1) := by decide +kernel
theorem d_TM_of_80 : decode prog_12_method_79_code 80 = .ok (.iaload, 1) := by decide +kernel
theorem d_TM_of_81 : decode prog_12_method_79_code 81 = .ok (.ireturn, 1) := by decide +kernel
theorem d_TM_of_82 : decode prog_12_method_79_code 82 = .ok (.aload_n 0, 1) := by decide +kernel
theorem d_TM_of_83 : decode prog_12_method_79_code 83 = .ok (.getfield 7, 3) := by decide +kernel
theorem d_TM_of_86 : decode prog_12_method_79_code 86 = .ok (.bipush 9, 2) := by decide +kernel
theorem d_TM_of_88 : decode prog_12_method_79_code 88 = .ok (.iaload, 1) := by decide +kernel
theorem d_TM_of_89 : decode prog_12_method_79_code 89 = .ok (.iload_n 1, 1) := by decide +kernel
theorem d_TM_of_90 : decode prog_12_method_79_code 90 = .ok (.ishr, 1) := by decide +kernel
theorem d_TM_of_91 : decode prog_12_method_79_code 91 = .ok (.iconst 1, 1) := by decide +kernel
theorem d_TM_of_92 : decode prog_12_method_79_code 92 = .ok (.iand, 1) := by decide +kernel
theorem d_TM_of_93 : decode prog_12_method_79_code 93 = .ok (.ireturn, 1) := by decide +kernel
theorem d_TM_of_94 : decode prog_12_method_79_code 94 = .ok (.aload_n 0, 1) := by decide +kernel
theorem d_TM_of_95 : decode prog_12_method_79_code 95 = .ok (.iload_n 1, 1) := by decide +kernel
theorem d_TM_of_96 : decode prog_12_method_79_code 96 = .ok (.aload_n 0, 1) := by decide +kernel
theorem d_TM_of_97 : decode prog_12_method_79_code 97 = .ok (.getfield 7, 3) := by decide +kernel
theorem d_TM_of_100 : decode prog_12_method_79_code 100 = .ok (.bipush 7, 2) := by decide +kernel
theorem d_TM_of_102 : decode prog_12_method_79_code 102 = .ok (.iaload, 1) := by decide +kernel
theorem d_TM_of_103 : decode prog_12_method_79_code 103 = .ok (.iconst 1, 1) := by decide +kernel
theorem d_TM_of_104 : decode prog_12_method_79_code 104 = .ok (.invokevirtual 305, 3) := by decide +kernel
theorem d_TM_of_107 : decode prog_12_method_79_code 107 = .ok (.ireturn, 1) := by decide +kernel
theorem d_TM_of_108 : decode prog_12_method_79_code 108 = .ok (.aload_n 0, 1) := by decide +kernel
theorem d_TM_of_109 : decode prog_12_method_79_code 109 = .ok (.iload_n 1, 1) := by decide +kernel
theorem d_TM_of_110 : decode prog_12_method_79_code 110 = .ok (.aload_n 0, 1) := by decide +kernel
theorem d_TM_of_111 : decode prog_12_method_79_code 111 = .ok (.getfield 7, 3) := by decide +kernel
theorem d_TM_of_114 : decode prog_12_method_79_code 114 = .ok (.bipush 7, 2) := by decide +kernel
theorem d_TM_of_116 : decode prog_12_method_79_code 116 = .ok (.iaload, 1) := by decide +kernel
theorem d_TM_of_117 : decode prog_12_method_79_code 117 = .ok (.iconst 0, 1) := by decide +kernel
theorem d_TM_of_118 : decode prog_12_method_79_code 118 = .ok (.invokevirtual 305, 3) := by decide +kernel
theorem d_TM_of_121 : decode prog_12_method_79_code 121 = .ok (.ireturn, 1) := by decide +kernel
theorem d_TM_of_122 : decode prog_12_method_79_code 122 = .ok (.bipush (-10), 2) := by decide +kernel
theorem d_TM_of_124 : decode prog_12_method_79_code 124 = .ok (.ireturn, 1) := by decide +kernel
theorem d_TM_says_0 : decode prog_12_method_80_code 0 = .ok (.aload_n 0, 1) := by decide +kernel
theorem d_TM_says_1 : decode prog_12_method_80_code 1 = .ok (.iload_n 1, 1) := by decide +kernel
theorem d_TM_says_2 : decode prog_12_method_80_code 2 = .ok (.invokevirtual 73, 3) := by decide +kernel
theorem d_TM_says_5 : decode prog_12_method_80_code 5 = .ok (.ifCond .eq 26, 3) := by decide +kernel
theorem d_TM_says_8 : decode prog_12_method_80_code 8 = .ok (.iload_n 2, 1) := by decide +kernel
theorem d_TM_says_9 : decode prog_12_method_80_code 9 = .ok (.iconst 0, 1) := by decide +kernel
theorem d_TM_says_10 : decode prog_12_method_80_code 10 = .ok (.bipush 8, 2) := by decide +kernel
theorem d_TM_says_12 : decode prog_12_method_80_code 12 = .ok (.invokestatic 69, 3) := by decide +kernel
theorem d_TM_says_15 : decode prog_12_method_80_code 15 = .ok (.ifCond .eq 16, 3) := by decide +kernel
theorem d_TM_says_18 : decode prog_12_method_80_code 18 = .ok (.aload_n 0, 1) := by decide +kernel
theorem d_TM_says_19 : decode prog_12_method_80_code 19 = .ok (.iload_n 1, 1) := by decide +kernel
theorem d_TM_says_20 : decode prog_12_method_80_code 20 = .ok (.iload_n 2, 1) := by decide +kernel
theorem d_TM_says_21 : decode prog_12_method_80_code 21 = .ok (.invokevirtual 299, 3) := by decide +kernel
theorem d_TM_says_24 : decode prog_12_method_80_code 24 = .ok (.ifCond .eq 7, 3) := by decide +kernel
theorem d_TM_says_27 : decode prog_12_method_80_code 27 = .ok (.iconst 1, 1) := by decide +kernel
theorem d_TM_says_28 : decode prog_12_method_80_code 28 = .ok (.goto 4, 3) := by decide +kernel
theorem d_TM_says_31 : decode prog_12_method_80_code 31 = .ok (.iconst 0, 1) := by decide +kernel
theorem d_TM_says_32 : decode prog_12_method_80_code 32 = .ok (.ireturn, 1) := by decide +kernel
theorem d_TM_is_0 : decode prog_12_method_81_code 0 = .ok (.iload_n 1, 1) := by decide +kernel
theorem d_TM_is_1 : decode prog_12_method_81_code 1 = .ok (.iconst 0, 1) := by decide +kernel
theorem d_TM_is_2 : decode prog_12_method_81_code 2 = .ok (.iconst 2, 1) := by decide +kernel
theorem d_TM_is_3 : decode prog_12_method_81_code 3 = .ok (.invokestatic 69, 3) := by decide +kernel
theorem d_TM_is_6 : decode prog_12_method_81_code 6 = .ok (.ifCond .eq 12, 3) := by decide +kernel
theorem d_TM_is_9 : decode prog_12_method_81_code 9 = .ok (.aload_n 0, 1) := by decide +kernel
theorem d_TM_is_10 : decode prog_12_method_81_code 10 = .ok (.getfield 7, 3) := by decide +kernel
theorem d_TM_is_13 : decode prog_12_method_81_code 13 = .ok (.iconst 5, 1) := by decide +kernel
theorem d_TM_is_14 : decode prog_12_method_81_code 14 = .ok (.iload_n 1, 1) := by decide +kernel
theorem d_TM_is_15 : decode prog_12_method_81_code 15 = .ok (.iadd, 1) := by decide +kernel
theorem d_TM_is_16 : decode prog_12_method_81_code 16 = .ok (.iaload, 1) := by decide +kernel
theorem d_TM_is_17 : decode prog_12_method_81_code 17 = .ok (.ireturn, 1) := by decide +kernel
theorem d_TM_is_18 : decode prog_12_method_81_code 18 = .ok (.iconst 0, 1) := by decide +kernel
theorem d_TM_is_19 : decode prog_12_method_81_code 19 = .ok (.istore_n 2, 1) := by decide +kernel
theorem d_TM_is_20 : decode prog_12_method_81_code 20 = .ok (.iconst 0, 1) := by decide +kernel
theorem d_TM_is_21 : decode prog_12_method_81_code 21 = .ok (.istore_n 3, 1) := by decide +kernel
theorem d_TM_is_22 : decode prog_12_method_81_code 22 = .ok (.iload_n 3, 1) := by decide +kernel
theorem d_TM_is_23 : decode prog_12_method_81_code 23 = .ok (.aload_n 0, 1) := by decide +kernel
theorem d_TM_is_24 : decode prog_12_method_81_code 24 = .ok (.getfield 7, 3) := by decide +kernel
theorem d_TM_is_27 : decode prog_12_method_81_code 27 = .ok (.iconst 0, 1) := by decide +kernel
theorem d_TM_is_28 : decode prog_12_method_81_code 28 = .ok (.iaload, 1) := by decide +kernel
theorem d_TM_is_29 : decode prog_12_method_81_code 29 = .ok (.if_icmp .ge 21, 3) := by decide +kernel
theorem d_TM_is_32 : decode prog_12_method_81_code 32 = .ok (.iload_n 2, 1) := by decide +kernel
theorem d_TM_is_33 : decode prog_12_method_81_code 33 = .ok (.aload_n 0, 1) := by decide +kernel
theorem d_TM_is_34 : decode prog_12_method_81_code 34 = .ok (.getfield 7, 3) := by decide +kernel
theorem d_TM_is_37 : decode prog_12_method_81_code 37 = .ok (.bipush 10, 2) := by decide +kernel
theorem d_TM_is_39 : decode prog_12_method_81_code 39 = .ok (.iload_n 3, 1) := by decide +kernel
theorem d_TM_is_40 : decode prog_12_method_81_code 40 = .ok (.iadd, 1) := by decide +kernel
theorem d_TM_is_41 : decode prog_12_method_81_code 41 = .ok (.iaload, 1) := by decide +kernel
theorem d_TM_is_42 : decode prog_12_method_81_code 42 = .ok (.iadd, 1) := by decide +kernel
theorem d_TM_is_43 : decode prog_12_method_81_code 43 = .ok (.istore_n 2, 1) := by decide +kernel
theorem d_TM_is_44 : decode prog_12_method_81_code 44 = .ok (.iinc 3 1, 3) := by decide +kernel
theorem d_TM_is_47 : decode prog_12_method_81_code 47 = .ok (.goto (-25), 3) := by decide +kernel
theorem d_TM_is_50 : decode prog_12_method_81_code 50 = .ok (.iload_n 1, 1) := by decide +kernel
theorem d_TM_is_51 : decode prog_12_method_81_code 51 = .ok (.iconst 3, 1) := by decide +kernel
theorem d_TM_is_52 : decode prog_12_method_81_code 52 = .ok (.if_icmp .ne 13, 3) := by decide +kernel
theorem d_TM_is_55 : decode prog_12_method_81_code 55 = .ok (.aload_n 0, 1) := by decide +kernel
theorem d_TM_is_56 : decode prog_12_method_81_code 56 = .ok (.getfield 7, 3) := by decide +kernel
theorem d_TM_is_59 : decode prog_12_method_81_code 59 = .ok (.bipush 9, 2) := by decide +kernel
theorem d_TM_is_61 : decode prog_12_method_81_code 61 = .ok (.iaload, 1) := by decide +kernel
theorem d_TM_is_62 : decode prog_12_method_81_code 62 = .ok (.goto 14, 3) := by decide +kernel
theorem d_TM_is_65 : decode prog_12_method_81_code 65 = .ok (.iload_n 1, 1) := by decide +kernel
theorem d_TM_is_66 : decode prog_12_method_81_code 66 = .ok (.iconst 4, 1) := by decide +kernel
theorem d_TM_is_67 : decode prog_12_method_81_code 67 = .ok (.if_icmp .ne 7, 3) := by decide +kernel
theorem d_TM_is_70 : decode prog_12_method_81_code 70 = .ok (.iload_n 2, 1) := by decide +kernel
theorem d_TM_is_71 : decode prog_12_method_81_code 71 = .ok (.goto 5, 3) := by decide +kernel
theorem d_TM_is_74 : decode prog_12_method_81_code 74 = .ok (.bipush (-2), 2) := by decide +kernel
theorem d_TM_is_76 : decode prog_12_method_81_code 76 = .ok (.ireturn, 1) := by decide +kernel
theorem d_TM_book_0 : decode prog_12_method_83_code 0 = .ok (.iload_n 1, 1) := by decide +kernel
theorem d_TM_book_1 : decode prog_12_method_83_code 1 = .ok (.iconst (-1), 1) := by decide +kernel
theorem d_TM_book_2 : decode prog_12_method_83_code 2 = .ok (.if_icmp .ne 11, 3) := by decide +kernel
theorem d_TM_book_5 : decode prog_12_method_83_code 5 = .ok (.aload_n 0, 1) := by decide +kernel
theorem d_TM_book_6 : decode prog_12_method_83_code 6 = .ok (.getfield 7, 3) := by decide +kernel
theorem d_TM_book_9 : decode prog_12_method_83_code 9 = .ok (.bipush 8, 2) := by decide +kernel
theorem d_TM_book_11 : decode prog_12_method_83_code 11 = .ok (.iaload, 1) := by decide +kernel
theorem d_TM_book_12 : decode prog_12_method_83_code 12 = .ok (.ireturn, 1) := by decide +kernel
theorem d_TM_book_13 : decode prog_12_method_83_code 13 = .ok (.iload_n 1, 1) := by decide +kernel
theorem d_TM_book_14 : decode prog_12_method_83_code 14 = .ok (.iconst 0, 1) := by decide +kernel
theorem d_TM_book_15 : decode prog_12_method_83_code 15 = .ok (.aload_n 0, 1) := by decide +kernel
theorem d_TM_book_16 : decode prog_12_method_83_code 16 = .ok (.getfield 7, 3) := by decide +kernel
theorem d_TM_book_19 : decode prog_12_method_83_code 19 = .ok (.bipush 8, 2) := by decide +kernel
theorem d_TM_book_21 : decode prog_12_method_83_code 21 = .ok (.iaload, 1) := by decide +kernel
theorem d_TM_book_22 : decode prog_12_method_83_code 22 = .ok (.iconst 1, 1) := by decide +kernel
theorem d_TM_book_23 : decode prog_12_method_83_code 23 = .ok (.isub, 1) := by decide +kernel
theorem d_TM_book_24 : decode prog_12_method_83_code 24 = .ok (.invokestatic 69, 3) := by decide +kernel
theorem d_TM_book_27 : decode prog_12_method_83_code 27 = .ok (.ifCond .eq 21, 3) := by decide +kernel
theorem d_TM_book_30 : decode prog_12_method_83_code 30 = .ok (.iload_n 2, 1) := by decide +kernel
theorem d_TM_book_31 : decode prog_12_method_83_code 31 = .ok (.iconst 0, 1) := by decide +kernel
theorem d_TM_book_32 : decode prog_12_method_83_code 32 = .ok (.iconst 2, 1) := by decide +kernel
theorem d_TM_book_33 : decode prog_12_method_83_code 33 = .ok (.invokestatic 69, 3) := by decide +kernel
theorem d_TM_book_36 : decode prog_12_method_83_code 36 = .ok (.ifCond .eq 12, 3) := by decide +kernel
theorem d_TM_book_39 : decode prog_12_method_83_code 39 = .ok (.aload_n 0, 1) := by decide +kernel
theorem d_TM_book_40 : decode prog_12_method_83_code 40 = .ok (.iload_n 1, 1) := by decide +kernel
theorem d_TM_book_41 : decode prog_12_method_83_code 41 = .ok (.iload_n 2, 1) := by decide +kernel
theorem d_TM_book_42 : decode prog_12_method_83_code 42 = .ok (.invokevirtual 344, 3) := by decide +kernel
theorem d_TM_book_45 : decode prog_12_method_83_code 45 = .ok (.goto 5, 3) := by decide +kernel
theorem d_TM_book_48 : decode prog_12_method_83_code 48 = .ok (.bipush (-2), 2) := by decide +kernel
theorem d_TM_book_50 : decode prog_12_method_83_code 50 = .ok (.ireturn, 1) := by decide +kernel
theorem d_TM_lineOf_0 : decode prog_12_method_82_code 0 = .ok (.aload_n 0, 1) := by decide +kernel
theorem d_TM_lineOf_1 : decode prog_12_method_82_code 1 = .ok (.getfield 7, 3) := by decide +kernel
theorem d_TM_lineOf_4 : decode prog_12_method_82_code 4 = .ok (.sipush 1405, 3) := by decide +kernel
theorem d_TM_lineOf_7 : decode prog_12_method_82_code 7 = .ok (.iload_n 1, 1) := by decide +kernel
theorem d_TM_lineOf_8 : decode prog_12_method_82_code 8 = .ok (.iadd, 1) := by decide +kernel
theorem d_TM_lineOf_9 : decode prog_12_method_82_code 9 = .ok (.iaload, 1) := by decide +kernel
theorem d_TM_lineOf_10 : decode prog_12_method_82_code 10 = .ok (.istore_n 3, 1) := by decide +kernel
theorem d_TM_lineOf_11 : decode prog_12_method_82_code 11 = .ok (.iload_n 2, 1) := by decide +kernel
theorem d_TM_lineOf_12 : decode prog_12_method_82_code 12 = .ok (.ifCond .ne 10, 3) := by decide +kernel
theorem d_TM_lineOf_15 : decode prog_12_method_82_code 15 = .ok (.iload_n 3, 1) := by decide +kernel
theorem d_TM_lineOf_16 : decode prog_12_method_82_code 16 = .ok (.bipush 81, 2) := by decide +kernel
theorem d_TM_lineOf_18 : decode prog_12_method_82_code 18 = .ok (.idiv, 1) := by decide +kernel
theorem d_TM_lineOf_19 : decode prog_12_method_82_code 19 = .ok (.goto 22, 3) := by decide +kernel
theorem d_TM_lineOf_22 : decode prog_12_method_82_code 22 = .ok (.iload_n 2, 1) := by decide +kernel
theorem d_TM_lineOf_23 : decode prog_12_method_82_code 23 = .ok (.iconst 1, 1) := by decide +kernel
theorem d_TM_lineOf_24 : decode prog_12_method_82_code 24 = .ok (.if_icmp .ne 13, 3) := by decide +kernel
theorem d_TM_lineOf_27 : decode prog_12_method_82_code 27 = .ok (.iload_n 3, 1) := by decide +kernel
theorem d_TM_lineOf_28 : decode prog_12_method_82_code 28 = .ok (.bipush 9, 2) := by decide +kernel
theorem d_TM_lineOf_30 : decode prog_12_method_82_code 30 = .ok (.idiv, 1) := by decide +kernel
theorem d_TM_lineOf_31 : decode prog_12_method_82_code 31 = .ok (.bipush 9, 2) := by decide +kernel
theorem d_TM_lineOf_33 : decode prog_12_method_82_code 33 = .ok (.irem, 1) := by decide +kernel
theorem d_TM_lineOf_34 : decode prog_12_method_82_code 34 = .ok (.goto 7, 3) := by decide +kernel
theorem d_TM_lineOf_37 : decode prog_12_method_82_code 37 = .ok (.iload_n 3, 1) := by decide +kernel
theorem d_TM_lineOf_38 : decode prog_12_method_82_code 38 = .ok (.bipush 9, 2) := by decide +kernel
theorem d_TM_lineOf_40 : decode prog_12_method_82_code 40 = .ok (.irem, 1) := by decide +kernel
theorem d_TM_lineOf_41 : decode prog_12_method_82_code 41 = .ok (.ireturn, 1) := by decide +kernel
theorem d_TM_ledger_0 : decode prog_12_method_84_code 0 = .ok (.iload_n 1, 1) := by decide +kernel
theorem d_TM_ledger_1 : decode prog_12_method_84_code 1 = .ok (.iconst 0, 1) := by decide +kernel
theorem d_TM_ledger_2 : decode prog_12_method_84_code 2 = .ok (.bipush 8, 2) := by decide +kernel
theorem d_TM_ledger_4 : decode prog_12_method_84_code 4 = .ok (.invokestatic 69, 3) := by decide +kernel
theorem d_TM_ledger_7 : decode prog_12_method_84_code 7 = .ok (.ifCond .ne 6, 3) := by decide +kernel
theorem d_TM_ledger_10 : decode prog_12_method_84_code 10 = .ok (.bipush (-2), 2) := by decide +kernel
theorem d_TM_ledger_12 : decode prog_12_method_84_code 12 = .ok (.ireturn, 1) := by decide +kernel
theorem d_TM_ledger_13 : decode prog_12_method_84_code 13 = .ok (.iconst 0, 1) := by decide +kernel
theorem d_TM_ledger_14 : decode prog_12_method_84_code 14 = .ok (.istore_n 2, 1) := by decide +kernel
theorem d_TM_ledger_15 : decode prog_12_method_84_code 15 = .ok (.iconst 0, 1) := by decide +kernel
theorem d_TM_ledger_16 : decode prog_12_method_84_code 16 = .ok (.istore_n 3, 1) := by decide +kernel
theorem d_TM_ledger_17 : decode prog_12_method_84_code 17 = .ok (.iload_n 3, 1) := by decide +kernel
theorem d_TM_ledger_18 : decode prog_12_method_84_code 18 = .ok (.aload_n 0, 1) := by decide +kernel
theorem d_TM_ledger_19 : decode prog_12_method_84_code 19 = .ok (.getfield 7, 3) := by decide +kernel
theorem d_TM_ledger_22 : decode prog_12_method_84_code 22 = .ok (.bipush 8, 2) := by decide +kernel
theorem d_TM_ledger_24 : decode prog_12_method_84_code 24 = .ok (.iaload, 1) := by decide +kernel
theorem d_TM_ledger_25 : decode prog_12_method_84_code 25 = .ok (.if_icmp .ge 27, 3) := by decide +kernel
theorem d_TM_ledger_28 : decode prog_12_method_84_code 28 = .ok (.iload_n 2, 1) := by decide +kernel
theorem d_TM_ledger_29 : decode prog_12_method_84_code 29 = .ok (.aload_n 0, 1) := by decide +kernel
theorem d_TM_ledger_30 : decode prog_12_method_84_code 30 = .ok (.iload_n 3, 1) := by decide +kernel
theorem d_TM_ledger_31 : decode prog_12_method_84_code 31 = .ok (.iconst 2, 1) := by decide +kernel
theorem d_TM_ledger_32 : decode prog_12_method_84_code 32 = .ok (.invokevirtual 344, 3) := by decide +kernel
theorem d_TM_ledger_35 : decode prog_12_method_84_code 35 = .ok (.iload_n 1, 1) := by decide +kernel
theorem d_TM_ledger_36 : decode prog_12_method_84_code 36 = .ok (.if_icmp .ne 7, 3) := by decide +kernel
theorem d_TM_ledger_39 : decode prog_12_method_84_code 39 = .ok (.iconst 1, 1) := by decide +kernel
theorem d_TM_ledger_40 : decode prog_12_method_84_code 40 = .ok (.goto 4, 3) := by decide +kernel
theorem d_TM_ledger_43 : decode prog_12_method_84_code 43 = .ok (.iconst 0, 1) := by decide +kernel
theorem d_TM_ledger_44 : decode prog_12_method_84_code 44 = .ok (.iadd, 1) := by decide +kernel
theorem d_TM_ledger_45 : decode prog_12_method_84_code 45 = .ok (.istore_n 2, 1) := by decide +kernel
theorem d_TM_ledger_46 : decode prog_12_method_84_code 46 = .ok (.iinc 3 1, 3) := by decide +kernel
theorem d_TM_ledger_49 : decode prog_12_method_84_code 49 = .ok (.goto (-32), 3) := by decide +kernel
theorem d_TM_ledger_52 : decode prog_12_method_84_code 52 = .ok (.iload_n 2, 1) := by decide +kernel
theorem d_TM_ledger_53 : decode prog_12_method_84_code 53 = .ok (.ireturn, 1) := by decide +kernel
theorem d_TM_changes_0 : decode prog_12_method_85_code 0 = .ok (.iconst 0, 1) := by decide +kernel
theorem d_TM_changes_1 : decode prog_12_method_85_code 1 = .ok (.istore_n 1, 1) := by decide +kernel
theorem d_TM_changes_2 : decode prog_12_method_85_code 2 = .ok (.iconst 0, 1) := by decide +kernel
theorem d_TM_changes_3 : decode prog_12_method_85_code 3 = .ok (.istore_n 2, 1) := by decide +kernel
theorem d_TM_changes_4 : decode prog_12_method_85_code 4 = .ok (.iload_n 2, 1) := by decide +kernel
theorem d_TM_changes_5 : decode prog_12_method_85_code 5 = .ok (.aload_n 0, 1) := by decide +kernel
theorem d_TM_changes_6 : decode prog_12_method_85_code 6 = .ok (.getfield 7, 3) := by decide +kernel
theorem d_TM_changes_9 : decode prog_12_method_85_code 9 = .ok (.bipush 8, 2) := by decide +kernel
theorem d_TM_changes_11 : decode prog_12_method_85_code 11 = .ok (.iaload, 1) := by decide +kernel
theorem d_TM_changes_12 : decode prog_12_method_85_code 12 = .ok (.if_icmp .ge 32, 3) := by decide +kernel
theorem d_TM_changes_15 : decode prog_12_method_85_code 15 = .ok (.iload_n 1, 1) := by decide +kernel
theorem d_TM_changes_16 : decode prog_12_method_85_code 16 = .ok (.aload_n 0, 1) := by decide +kernel
theorem d_TM_changes_17 : decode prog_12_method_85_code 17 = .ok (.iload_n 2, 1) := by decide +kernel
theorem d_TM_changes_18 : decode prog_12_method_85_code 18 = .ok (.iconst 1, 1) := by decide +kernel
theorem d_TM_changes_19 : decode prog_12_method_85_code 19 = .ok (.invokevirtual 344, 3) := by decide +kernel
theorem d_TM_changes_22 : decode prog_12_method_85_code 22 = .ok (.aload_n 0, 1) := by decide +kernel
theorem d_TM_changes_23 : decode prog_12_method_85_code 23 = .ok (.iload_n 2, 1) := by decide +kernel
theorem d_TM_changes_24 : decode prog_12_method_85_code 24 = .ok (.iconst 2, 1) := by decide +kernel
theorem d_TM_changes_25 : decode prog_12_method_85_code 25 = .ok (.invokevirtual 344, 3) := by decide +kernel
theorem d_TM_changes_28 : decode prog_12_method_85_code 28 = .ok (.if_icmp .eq 7, 3) := by decide +kernel
theorem d_TM_changes_31 : decode prog_12_method_85_code 31 = .ok (.iconst 1, 1) := by decide +kernel
theorem d_TM_changes_32 : decode prog_12_method_85_code 32 = .ok (.goto 4, 3) := by decide +kernel
theorem d_TM_changes_35 : decode prog_12_method_85_code 35 = .ok (.iconst 0, 1) := by decide +kernel
theorem d_TM_changes_36 : decode prog_12_method_85_code 36 = .ok (.iadd, 1) := by decide +kernel
theorem d_TM_changes_37 : decode prog_12_method_85_code 37 = .ok (.istore_n 1, 1) := by decide +kernel
theorem d_TM_changes_38 : decode prog_12_method_85_code 38 = .ok (.iinc 2 1, 3) := by decide +kernel
theorem d_TM_changes_41 : decode prog_12_method_85_code 41 = .ok (.goto (-37), 3) := by decide +kernel
theorem d_TM_changes_44 : decode prog_12_method_85_code 44 = .ok (.iload_n 1, 1) := by decide +kernel
theorem d_TM_changes_45 : decode prog_12_method_85_code 45 = .ok (.ireturn, 1) := by decide +kernel
theorem d_TM_foretold_0 : decode prog_12_method_86_code 0 = .ok (.iload_n 1, 1) := by decide +kernel
theorem d_TM_foretold_1 : decode prog_12_method_86_code 1 = .ok (.iconst 1, 1) := by decide +kernel
theorem d_TM_foretold_2 : decode prog_12_method_86_code 2 = .ok (.bipush 60, 2) := by decide +kernel
theorem d_TM_foretold_4 : decode prog_12_method_86_code 4 = .ok (.invokestatic 69, 3) := by decide +kernel
theorem d_TM_foretold_7 : decode prog_12_method_86_code 7 = .ok (.ifCond .eq 12, 3) := by decide +kernel
theorem d_TM_foretold_10 : decode prog_12_method_86_code 10 = .ok (.iload_n 2, 1) := by decide +kernel
theorem d_TM_foretold_11 : decode prog_12_method_86_code 11 = .ok (.iconst 0, 1) := by decide +kernel
theorem d_TM_foretold_12 : decode prog_12_method_86_code 12 = .ok (.iconst 1, 1) := by decide +kernel
theorem d_TM_foretold_13 : decode prog_12_method_86_code 13 = .ok (.invokestatic 69, 3) := by decide +kernel
theorem d_TM_foretold_16 : decode prog_12_method_86_code 16 = .ok (.ifCond .ne 5, 3) := by decide +kernel
theorem d_TM_foretold_19 : decode prog_12_method_86_code 19 = .ok (.iconst (-1), 1) := by decide +kernel
theorem d_TM_foretold_20 : decode prog_12_method_86_code 20 = .ok (.ireturn, 1) := by decide +kernel
theorem d_TM_foretold_21 : decode prog_12_method_86_code 21 = .ok (.iconst 5, 1) := by decide +kernel
theorem d_TM_foretold_22 : decode prog_12_method_86_code 22 = .ok (.istore_n 3, 1) := by decide +kernel
theorem d_TM_foretold_23 : decode prog_12_method_86_code 23 = .ok (.iload_n 3, 1) := by decide +kernel
theorem d_TM_foretold_24 : decode prog_12_method_86_code 24 = .ok (.bipush 18, 2) := by decide +kernel
theorem d_TM_foretold_26 : decode prog_12_method_86_code 26 = .ok (.if_icmp .ge 21, 3) := by decide +kernel
theorem d_TM_foretold_29 : decode prog_12_method_86_code 29 = .ok (.aload_n 0, 1) := by decide +kernel
theorem d_TM_foretold_30 : decode prog_12_method_86_code 30 = .ok (.getfield 50, 3) := by decide +kernel
theorem d_TM_foretold_33 : decode prog_12_method_86_code 33 = .ok (.iload_n 3, 1) := by decide +kernel
theorem d_TM_foretold_34 : decode prog_12_method_86_code 34 = .ok (.aload_n 0, 1) := by decide +kernel
theorem d_TM_foretold_35 : decode prog_12_method_86_code 35 = .ok (.getfield 7, 3) := by decide +kernel
theorem d_TM_foretold_38 : decode prog_12_method_86_code 38 = .ok (.iload_n 3, 1) := by decide +kernel
theorem d_TM_foretold_39 : decode prog_12_method_86_code 39 = .ok (.iaload, 1) := by decide +kernel
theorem d_TM_foretold_40 : decode prog_12_method_86_code 40 = .ok (.iastore, 1) := by decide +kernel
theorem d_TM_foretold_41 : decode prog_12_method_86_code 41 = .ok (.iinc 3 1, 3) := by decide +kernel
theorem d_TM_foretold_44 : decode prog_12_method_86_code 44 = .ok (.goto (-21), 3) := by decide +kernel
theorem d_TM_foretold_47 : decode prog_12_method_86_code 47 = .ok (.aload_n 0, 1) := by decide +kernel
theorem d_TM_foretold_48 : decode prog_12_method_86_code 48 = .ok (.iconst 0, 1) := by decide +kernel
theorem d_TM_foretold_49 : decode prog_12_method_86_code 49 = .ok (.putfield 43, 3) := by decide +kernel
theorem d_TM_foretold_52 : decode prog_12_method_86_code 52 = .ok (.iconst 0, 1) := by decide +kernel
theorem d_TM_foretold_53 : decode prog_12_method_86_code 53 = .ok (.istore_n 3, 1) := by decide +kernel
theorem d_TM_foretold_54 : decode prog_12_method_86_code 54 = .ok (.iload_n 3, 1) := by decide +kernel
theorem d_TM_foretold_55 : decode prog_12_method_86_code 55 = .ok (.iload_n 1, 1) := by decide +kernel
theorem d_TM_foretold_56 : decode prog_12_method_86_code 56 = .ok (.if_icmp .ge 32, 3) := by decide +kernel
theorem d_TM_foretold_59 : decode prog_12_method_86_code 59 = .ok (.aload_n 0, 1) := by decide +kernel
theorem d_TM_foretold_60 : decode prog_12_method_86_code 60 = .ok (.getfield 7, 3) := by decide +kernel
theorem d_TM_foretold_63 : decode prog_12_method_86_code 63 = .ok (.iconst 5, 1) := by decide +kernel
theorem d_TM_foretold_64 : decode prog_12_method_86_code 64 = .ok (.iaload, 1) := by decide +kernel
theorem d_TM_foretold_65 : decode prog_12_method_86_code 65 = .ok (.sipush 9999, 3) := by decide +kernel
theorem d_TM_foretold_68 : decode prog_12_method_86_code 68 = .ok (.if_icmp .ge 14, 3) := by decide +kernel
theorem d_TM_foretold_71 : decode prog_12_method_86_code 71 = .ok (.aload_n 0, 1) := by decide +kernel
theorem d_TM_foretold_72 : decode prog_12_method_86_code 72 = .ok (.aload_n 0, 1) := by decide +kernel
theorem d_TM_foretold_73 : decode prog_12_method_86_code 73 = .ok (.getfield 7, 3) := by decide +kernel
theorem d_TM_foretold_76 : decode prog_12_method_86_code 76 = .ok (.bipush 7, 2) := by decide +kernel
theorem d_TM_foretold_78 : decode prog_12_method_86_code 78 = .ok (.iaload, 1) := by decide +kernel
theorem d_TM_foretold_79 : decode prog_12_method_86_code 79 = .ok (.invokevirtual 317, 3) := by decide +kernel
theorem d_TM_foretold_82 : decode prog_12_method_86_code 82 = .ok (.iinc 3 1, 3) := by decide +kernel
theorem d_TM_foretold_85 : decode prog_12_method_86_code 85 = .ok (.goto (-31), 3) := by decide +kernel
theorem d_TM_foretold_88 : decode prog_12_method_86_code 88 = .ok (.iload_n 2, 1) := by decide +kernel
theorem d_TM_foretold_89 : decode prog_12_method_86_code 89 = .ok (.ifCond .ne 13, 3) := by decide +kernel
theorem d_TM_foretold_92 : decode prog_12_method_86_code 92 = .ok (.aload_n 0, 1) := by decide +kernel
theorem d_TM_foretold_93 : decode prog_12_method_86_code 93 = .ok (.getfield 7, 3) := by decide +kernel
theorem d_TM_foretold_96 : decode prog_12_method_86_code 96 = .ok (.bipush 7, 2) := by decide +kernel
theorem d_TM_foretold_98 : decode prog_12_method_86_code 98 = .ok (.iaload, 1) := by decide +kernel
theorem d_TM_foretold_99 : decode prog_12_method_86_code 99 = .ok (.goto 10, 3) := by decide +kernel
theorem d_TM_foretold_102 : decode prog_12_method_86_code 102 = .ok (.aload_n 0, 1) := by decide +kernel
theorem d_TM_foretold_103 : decode prog_12_method_86_code 103 = .ok (.getfield 7, 3) := by decide +kernel
theorem d_TM_foretold_106 : decode prog_12_method_86_code 106 = .ok (.bipush 9, 2) := by decide +kernel
theorem d_TM_foretold_108 : decode prog_12_method_86_code 108 = .ok (.iaload, 1) := by decide +kernel
theorem d_TM_foretold_109 : decode prog_12_method_86_code 109 = .ok (.istore_n 3, 1) := by decide +kernel
theorem d_TM_foretold_110 : decode prog_12_method_86_code 110 = .ok (.iconst 5, 1) := by decide +kernel
theorem d_TM_foretold_111 : decode prog_12_method_86_code 111 = .ok (.istore 4, 2) := by decide +kernel
theorem d_TM_foretold_113 : decode prog_12_method_86_code 113 = .ok (.iload 4, 2) := by decide +kernel
theorem d_TM_foretold_115 : decode prog_12_method_86_code 115 = .ok (.bipush 18, 2) := by decide +kernel
theorem d_TM_foretold_117 : decode prog_12_method_86_code 117 = .ok (.if_icmp .ge 23, 3) := by decide +kernel
theorem d_TM_foretold_120 : decode prog_12_method_86_code 120 = .ok (.aload_n 0, 1) := by decide +kernel
theorem d_TM_foretold_121 : decode prog_12_method_86_code 121 = .ok (.getfield 7, 3) := by decide +kernel
theorem d_TM_foretold_124 : decode prog_12_method_86_code 124 = .ok (.iload 4, 2) := by decide +kernel
theorem d_TM_foretold_126 : decode prog_12_method_86_code 126 = .ok (.aload_n 0, 1) := by decide +kernel
theorem d_TM_foretold_127 : decode prog_12_method_86_code 127 = .ok (.getfield 50, 3) := by decide +kernel
theorem d_TM_foretold_130 : decode prog_12_method_86_code 130 = .ok (.iload 4, 2) := by decide +kernel
theorem d_TM_foretold_132 : decode prog_12_method_86_code 132 = .ok (.iaload, 1) := by decide +kernel
theorem d_TM_foretold_133 : decode prog_12_method_86_code 133 = .ok (.iastore, 1) := by decide +kernel
theorem d_TM_foretold_134 : decode prog_12_method_86_code 134 = .ok (.iinc 4 1, 3) := by decide +kernel
theorem d_TM_foretold_137 : decode prog_12_method_86_code 137 = .ok (.goto (-24), 3) := by decide +kernel
theorem d_TM_foretold_140 : decode prog_12_method_86_code 140 = .ok (.aload_n 0, 1) := by decide +kernel
theorem d_TM_foretold_141 : decode prog_12_method_86_code 141 = .ok (.iconst 1, 1) := by decide +kernel
theorem d_TM_foretold_142 : decode prog_12_method_86_code 142 = .ok (.putfield 43, 3) := by decide +kernel
theorem d_TM_foretold_145 : decode prog_12_method_86_code 145 = .ok (.iload_n 3, 1) := by decide +kernel
theorem d_TM_foretold_146 : decode prog_12_method_86_code 146 = .ok (.ireturn, 1) := by decide +kernel
theorem d_TM_comes_0 : decode prog_12_method_89_code 0 = .ok (.aload_n 0, 1) := by decide +kernel
theorem d_TM_comes_1 : decode prog_12_method_89_code 1 = .ok (.iload_n 1, 1) := by decide +kernel
theorem d_TM_comes_2 : decode prog_12_method_89_code 2 = .ok (.invokevirtual 311, 3) := by decide +kernel
theorem d_TM_comes_5 : decode prog_12_method_89_code 5 = .ok (.ifCond .eq 11, 3) := by decide +kernel
theorem d_TM_comes_8 : decode prog_12_method_89_code 8 = .ok (.aload_n 0, 1) := by decide +kernel
theorem d_TM_comes_9 : decode prog_12_method_89_code 9 = .ok (.iload_n 1, 1) := by decide +kernel
theorem d_TM_comes_10 : decode prog_12_method_89_code 10 = .ok (.invokevirtual 350, 3) := by decide +kernel
theorem d_TM_comes_13 : decode prog_12_method_89_code 13 = .ok (.goto 4, 3) := by decide +kernel
theorem d_TM_comes_16 : decode prog_12_method_89_code 16 = .ok (.iconst (-1), 1) := by decide +kernel
theorem d_TM_comes_17 : decode prog_12_method_89_code 17 = .ok (.ireturn, 1) := by decide +kernel
theorem d_TM_comesOf_0 : decode prog_12_method_88_code 0 = .ok (.aload_n 0, 1) := by decide +kernel
theorem d_TM_comesOf_1 : decode prog_12_method_88_code 1 = .ok (.iload_n 1, 1) := by decide +kernel
theorem d_TM_comesOf_2 : decode prog_12_method_88_code 2 = .ok (.invokevirtual 347, 3) := by decide +kernel
theorem d_TM_comesOf_5 : decode prog_12_method_88_code 5 = .ok (.invokestatic 267, 3) := by decide +kernel
theorem d_TM_comesOf_8 : decode prog_12_method_88_code 8 = .ok (.ireturn, 1) := by decide +kernel
theorem d_TM_yesTo_0 : decode prog_12_method_87_code 0 = .ok (.iconst 0, 1) := by decide +kernel
theorem d_TM_yesTo_1 : decode prog_12_method_87_code 1 = .ok (.istore_n 2, 1) := by decide +kernel
theorem d_TM_yesTo_2 : decode prog_12_method_87_code 2 = .ok (.iconst 0, 1) := by decide +kernel
theorem d_TM_yesTo_3 : decode prog_12_method_87_code 3 = .ok (.istore_n 3, 1) := by decide +kernel
theorem d_TM_yesTo_4 : decode prog_12_method_87_code 4 = .ok (.iload_n 3, 1) := by decide +kernel
theorem d_TM_yesTo_5 : decode prog_12_method_87_code 5 = .ok (.aload_n 0, 1) := by decide +kernel
theorem d_TM_yesTo_6 : decode prog_12_method_87_code 6 = .ok (.getfield 7, 3) := by decide +kernel
theorem d_TM_yesTo_9 : decode prog_12_method_87_code 9 = .ok (.iconst 0, 1) := by decide +kernel
theorem d_TM_yesTo_10 : decode prog_12_method_87_code 10 = .ok (.iaload, 1) := by decide +kernel
theorem d_TM_yesTo_11 : decode prog_12_method_87_code 11 = .ok (.if_icmp .ge 28, 3) := by decide +kernel
theorem d_TM_yesTo_14 : decode prog_12_method_87_code 14 = .ok (.iload_n 2, 1) := by decide +kernel
theorem d_TM_yesTo_15 : decode prog_12_method_87_code 15 = .ok (.aload_n 0, 1) := by decide +kernel
theorem d_TM_yesTo_16 : decode prog_12_method_87_code 16 = .ok (.iload_n 3, 1) := by decide +kernel
theorem d_TM_yesTo_17 : decode prog_12_method_87_code 17 = .ok (.iload_n 1, 1) := by decide +kernel
theorem d_TM_yesTo_18 : decode prog_12_method_87_code 18 = .ok (.invokevirtual 299, 3) := by decide +kernel
theorem d_TM_yesTo_21 : decode prog_12_method_87_code 21 = .ok (.ifCond .eq 9, 3) := by decide +kernel
theorem d_TM_yesTo_24 : decode prog_12_method_87_code 24 = .ok (.iconst 1, 1) := by decide +kernel
theorem d_TM_yesTo_25 : decode prog_12_method_87_code 25 = .ok (.iload_n 3, 1) := by decide +kernel
theorem d_TM_yesTo_26 : decode prog_12_method_87_code 26 = .ok (.ishl, 1) := by decide +kernel
theorem d_TM_yesTo_27 : decode prog_12_method_87_code 27 = .ok (.goto 4, 3) := by decide +kernel
theorem d_TM_yesTo_30 : decode prog_12_method_87_code 30 = .ok (.iconst 0, 1) := by decide +kernel
theorem d_TM_yesTo_31 : decode prog_12_method_87_code 31 = .ok (.ior, 1) := by decide +kernel
theorem d_TM_yesTo_32 : decode prog_12_method_87_code 32 = .ok (.istore_n 2, 1) := by decide +kernel
theorem d_TM_yesTo_33 : decode prog_12_method_87_code 33 = .ok (.iinc 3 1, 3) := by decide +kernel
theorem d_TM_yesTo_36 : decode prog_12_method_87_code 36 = .ok (.goto (-32), 3) := by decide +kernel
theorem d_TM_yesTo_39 : decode prog_12_method_87_code 39 = .ok (.iload_n 2, 1) := by decide +kernel
theorem d_TM_yesTo_40 : decode prog_12_method_87_code 40 = .ok (.ireturn, 1) := by decide +kernel
theorem d_TM_trues_0 : decode prog_12_method_90_code 0 = .ok (.iconst 0, 1) := by decide +kernel
theorem d_TM_trues_1 : decode prog_12_method_90_code 1 = .ok (.istore_n 1, 1) := by decide +kernel
theorem d_TM_trues_2 : decode prog_12_method_90_code 2 = .ok (.iconst 0, 1) := by decide +kernel
theorem d_TM_trues_3 : decode prog_12_method_90_code 3 = .ok (.istore_n 2, 1) := by decide +kernel
theorem d_TM_trues_4 : decode prog_12_method_90_code 4 = .ok (.iload_n 2, 1) := by decide +kernel
theorem d_TM_trues_5 : decode prog_12_method_90_code 5 = .ok (.aload_n 0, 1) := by decide +kernel
theorem d_TM_trues_6 : decode prog_12_method_90_code 6 = .ok (.getfield 7, 3) := by decide +kernel
theorem d_TM_trues_9 : decode prog_12_method_90_code 9 = .ok (.iconst 0, 1) := by decide +kernel
theorem d_TM_trues_10 : decode prog_12_method_90_code 10 = .ok (.iaload, 1) := by decide +kernel
theorem d_TM_trues_11 : decode prog_12_method_90_code 11 = .ok (.if_icmp .gt 28, 3) := by decide +kernel
theorem d_TM_trues_14 : decode prog_12_method_90_code 14 = .ok (.iload_n 1, 1) := by decide +kernel
theorem d_TM_trues_15 : decode prog_12_method_90_code 15 = .ok (.aload_n 0, 1) := by decide +kernel
theorem d_TM_trues_16 : decode prog_12_method_90_code 16 = .ok (.iload_n 2, 1) := by decide +kernel
theorem d_TM_trues_17 : decode prog_12_method_90_code 17 = .ok (.invokevirtual 350, 3) := by decide +kernel
theorem d_TM_trues_20 : decode prog_12_method_90_code 20 = .ok (.iload_n 2, 1) := by decide +kernel
theorem d_TM_trues_21 : decode prog_12_method_90_code 21 = .ok (.if_icmp .ne 9, 3) := by decide +kernel
theorem d_TM_trues_24 : decode prog_12_method_90_code 24 = .ok (.iconst 1, 1) := by decide +kernel
theorem d_TM_trues_25 : decode prog_12_method_90_code 25 = .ok (.iload_n 2, 1) := by decide +kernel
theorem d_TM_trues_26 : decode prog_12_method_90_code 26 = .ok (.ishl, 1) := by decide +kernel
theorem d_TM_trues_27 : decode prog_12_method_90_code 27 = .ok (.goto 4, 3) := by decide +kernel
theorem d_TM_trues_30 : decode prog_12_method_90_code 30 = .ok (.iconst 0, 1) := by decide +kernel
theorem d_TM_trues_31 : decode prog_12_method_90_code 31 = .ok (.ior, 1) := by decide +kernel
theorem d_TM_trues_32 : decode prog_12_method_90_code 32 = .ok (.istore_n 1, 1) := by decide +kernel
theorem d_TM_trues_33 : decode prog_12_method_90_code 33 = .ok (.iinc 2 1, 3) := by decide +kernel
theorem d_TM_trues_36 : decode prog_12_method_90_code 36 = .ok (.goto (-32), 3) := by decide +kernel
theorem d_TM_trues_39 : decode prog_12_method_90_code 39 = .ok (.iload_n 1, 1) := by decide +kernel
theorem d_TM_trues_40 : decode prog_12_method_90_code 40 = .ok (.ireturn, 1) := by decide +kernel
theorem d_TM_firm_0 : decode prog_12_method_92_code 0 = .ok (.iconst 0, 1) := by decide +kernel
theorem d_TM_firm_1 : decode prog_12_method_92_code 1 = .ok (.istore_n 1, 1) := by decide +kernel
theorem d_TM_firm_2 : decode prog_12_method_92_code 2 = .ok (.iconst 0, 1) := by decide +kernel
theorem d_TM_firm_3 : decode prog_12_method_92_code 3 = .ok (.istore_n 2, 1) := by decide +kernel
theorem d_TM_firm_4 : decode prog_12_method_92_code 4 = .ok (.iload_n 2, 1) := by decide +kernel
theorem d_TM_firm_5 : decode prog_12_method_92_code 5 = .ok (.aload_n 0, 1) := by decide +kernel
theorem d_TM_firm_6 : decode prog_12_method_92_code 6 = .ok (.getfield 7, 3) := by decide +kernel
theorem d_TM_firm_9 : decode prog_12_method_92_code 9 = .ok (.iconst 0, 1) := by decide +kernel
theorem d_TM_firm_10 : decode prog_12_method_92_code 10 = .ok (.iaload, 1) := by decide +kernel
theorem d_TM_firm_11 : decode prog_12_method_92_code 11 = .ok (.if_icmp .gt 27, 3) := by decide +kernel
theorem d_TM_firm_14 : decode prog_12_method_92_code 14 = .ok (.iload_n 1, 1) := by decide +kernel
theorem d_TM_firm_15 : decode prog_12_method_92_code 15 = .ok (.aload_n 0, 1) := by decide +kernel
theorem d_TM_firm_16 : decode prog_12_method_92_code 16 = .ok (.iload_n 2, 1) := by decide +kernel
theorem d_TM_firm_17 : decode prog_12_method_92_code 17 = .ok (.invokevirtual 353, 3) := by decide +kernel
theorem d_TM_firm_20 : decode prog_12_method_92_code 20 = .ok (.ifCond .eq 9, 3) := by decide +kernel
theorem d_TM_firm_23 : decode prog_12_method_92_code 23 = .ok (.iconst 1, 1) := by decide +kernel
theorem d_TM_firm_24 : decode prog_12_method_92_code 24 = .ok (.iload_n 2, 1) := by decide +kernel
theorem d_TM_firm_25 : decode prog_12_method_92_code 25 = .ok (.ishl, 1) := by decide +kernel
theorem d_TM_firm_26 : decode prog_12_method_92_code 26 = .ok (.goto 4, 3) := by decide +kernel
theorem d_TM_firm_29 : decode prog_12_method_92_code 29 = .ok (.iconst 0, 1) := by decide +kernel
theorem d_TM_firm_30 : decode prog_12_method_92_code 30 = .ok (.ior, 1) := by decide +kernel
theorem d_TM_firm_31 : decode prog_12_method_92_code 31 = .ok (.istore_n 1, 1) := by decide +kernel
theorem d_TM_firm_32 : decode prog_12_method_92_code 32 = .ok (.iinc 2 1, 3) := by decide +kernel
theorem d_TM_firm_35 : decode prog_12_method_92_code 35 = .ok (.goto (-31), 3) := by decide +kernel
theorem d_TM_firm_38 : decode prog_12_method_92_code 38 = .ok (.iload_n 1, 1) := by decide +kernel
theorem d_TM_firm_39 : decode prog_12_method_92_code 39 = .ok (.ireturn, 1) := by decide +kernel
theorem d_TM_isFirm_0 : decode prog_12_method_91_code 0 = .ok (.aload_n 0, 1) := by decide +kernel
theorem d_TM_isFirm_1 : decode prog_12_method_91_code 1 = .ok (.iload_n 1, 1) := by decide +kernel
theorem d_TM_isFirm_2 : decode prog_12_method_91_code 2 = .ok (.invokevirtual 350, 3) := by decide +kernel
theorem d_TM_isFirm_5 : decode prog_12_method_91_code 5 = .ok (.iload_n 1, 1) := by decide +kernel
theorem d_TM_isFirm_6 : decode prog_12_method_91_code 6 = .ok (.if_icmp .ne 43, 3) := by decide +kernel
theorem d_TM_isFirm_9 : decode prog_12_method_91_code 9 = .ok (.iload_n 1, 1) := by decide +kernel
theorem d_TM_isFirm_10 : decode prog_12_method_91_code 10 = .ok (.ifCond .eq 14, 3) := by decide +kernel
theorem d_TM_isFirm_13 : decode prog_12_method_91_code 13 = .ok (.aload_n 0, 1) := by decide +kernel
theorem d_TM_isFirm_14 : decode prog_12_method_91_code 14 = .ok (.iload_n 1, 1) := by decide +kernel
theorem d_TM_isFirm_15 : decode prog_12_method_91_code 15 = .ok (.iconst 1, 1) := by decide +kernel
theorem d_TM_isFirm_16 : decode prog_12_method_91_code 16 = .ok (.isub, 1) := by decide +kernel
theorem d_TM_isFirm_17 : decode prog_12_method_91_code 17 = .ok (.invokevirtual 350, 3) := by decide +kernel
theorem d_TM_isFirm_20 : decode prog_12_method_91_code 20 = .ok (.iload_n 1, 1) := by decide +kernel
theorem d_TM_isFirm_21 : decode prog_12_method_91_code 21 = .ok (.if_icmp .ne 28, 3) := by decide +kernel
theorem d_TM_isFirm_24 : decode prog_12_method_91_code 24 = .ok (.iload_n 1, 1) := by decide +kernel
theorem d_TM_isFirm_25 : decode prog_12_method_91_code 25 = .ok (.aload_n 0, 1) := by decide +kernel
theorem d_TM_isFirm_26 : decode prog_12_method_91_code 26 = .ok (.getfield 7, 3) := by decide +kernel
theorem d_TM_isFirm_29 : decode prog_12_method_91_code 29 = .ok (.iconst 0, 1) := by decide +kernel
theorem d_TM_isFirm_30 : decode prog_12_method_91_code 30 = .ok (.iaload, 1) := by decide +kernel
theorem d_TM_isFirm_31 : decode prog_12_method_91_code 31 = .ok (.if_icmp .eq 14, 3) := by decide +kernel
theorem d_TM_isFirm_34 : decode prog_12_method_91_code 34 = .ok (.aload_n 0, 1) := by decide +kernel
theorem d_TM_isFirm_35 : decode prog_12_method_91_code 35 = .ok (.iload_n 1, 1) := by decide +kernel
theorem d_TM_isFirm_36 : decode prog_12_method_91_code 36 = .ok (.iconst 1, 1) := by decide +kernel
theorem d_TM_isFirm_37 : decode prog_12_method_91_code 37 = .ok (.iadd, 1) := by decide +kernel
theorem d_TM_isFirm_38 : decode prog_12_method_91_code 38 = .ok (.invokevirtual 350, 3) := by decide +kernel
theorem d_TM_isFirm_41 : decode prog_12_method_91_code 41 = .ok (.iload_n 1, 1) := by decide +kernel
theorem d_TM_isFirm_42 : decode prog_12_method_91_code 42 = .ok (.if_icmp .ne 7, 3) := by decide +kernel
theorem d_TM_isFirm_45 : decode prog_12_method_91_code 45 = .ok (.iconst 1, 1) := by decide +kernel
theorem d_TM_isFirm_46 : decode prog_12_method_91_code 46 = .ok (.goto 4, 3) := by decide +kernel
theorem d_TM_isFirm_49 : decode prog_12_method_91_code 49 = .ok (.iconst 0, 1) := by decide +kernel
theorem d_TM_isFirm_50 : decode prog_12_method_91_code 50 = .ok (.ireturn, 1) := by decide +kernel
theorem d_TM_ends_0 : decode prog_12_method_98_code 0 = .ok (.aload_n 0, 1) := by decide +kernel
theorem d_TM_ends_1 : decode prog_12_method_98_code 1 = .ok (.iload_n 1, 1) := by decide +kernel
theorem d_TM_ends_2 : decode prog_12_method_98_code 2 = .ok (.invokevirtual 311, 3) := by decide +kernel
theorem d_TM_ends_5 : decode prog_12_method_98_code 5 = .ok (.ifCond .ne 5, 3) := by decide +kernel
theorem d_TM_ends_8 : decode prog_12_method_98_code 8 = .ok (.iconst (-1), 1) := by decide +kernel
theorem d_TM_ends_9 : decode prog_12_method_98_code 9 = .ok (.ireturn, 1) := by decide +kernel
theorem d_TM_ends_10 : decode prog_12_method_98_code 10 = .ok (.aload_n 0, 1) := by decide +kernel
theorem d_TM_ends_11 : decode prog_12_method_98_code 11 = .ok (.invokevirtual 362, 3) := by decide +kernel
theorem d_TM_ends_14 : decode prog_12_method_98_code 14 = .ok (.aload_n 0, 1) := by decide +kernel
theorem d_TM_ends_15 : decode prog_12_method_98_code 15 = .ok (.iload_n 1, 1) := by decide +kernel
theorem d_TM_ends_16 : decode prog_12_method_98_code 16 = .ok (.aload_n 0, 1) := by decide +kernel
theorem d_TM_ends_17 : decode prog_12_method_98_code 17 = .ok (.iload_n 1, 1) := by decide +kernel
theorem d_TM_ends_18 : decode prog_12_method_98_code 18 = .ok (.invokevirtual 365, 3) := by decide +kernel
theorem d_TM_ends_21 : decode prog_12_method_98_code 21 = .ok (.invokevirtual 356, 3) := by decide +kernel
theorem d_TM_ends_24 : decode prog_12_method_98_code 24 = .ok (.istore_n 3, 1) := by decide +kernel
theorem d_TM_ends_25 : decode prog_12_method_98_code 25 = .ok (.iload_n 2, 1) := by decide +kernel
theorem d_TM_ends_26 : decode prog_12_method_98_code 26 = .ok (.ifCond .eq 11, 3) := by decide +kernel
theorem d_TM_ends_29 : decode prog_12_method_98_code 29 = .ok (.aload_n 0, 1) := by decide +kernel
theorem d_TM_ends_30 : decode prog_12_method_98_code 30 = .ok (.iload_n 3, 1) := by decide +kernel
theorem d_TM_ends_31 : decode prog_12_method_98_code 31 = .ok (.invokevirtual 359, 3) := by decide +kernel
theorem d_TM_ends_34 : decode prog_12_method_98_code 34 = .ok (.goto 8, 3) := by decide +kernel
theorem d_TM_ends_37 : decode prog_12_method_98_code 37 = .ok (.aload_n 0, 1) := by decide +kernel
theorem d_TM_ends_38 : decode prog_12_method_98_code 38 = .ok (.iload_n 3, 1) := by decide +kernel
theorem d_TM_ends_39 : decode prog_12_method_98_code 39 = .ok (.invokevirtual 368, 3) := by decide +kernel
theorem d_TM_ends_42 : decode prog_12_method_98_code 42 = .ok (.ireturn, 1) := by decide +kernel
theorem d_TM_layNext_0 : decode prog_12_method_93_code 0 = .ok (.iconst 0, 1) := by decide +kernel
theorem d_TM_layNext_1 : decode prog_12_method_93_code 1 = .ok (.istore_n 1, 1) := by decide +kernel
theorem d_TM_layNext_2 : decode prog_12_method_93_code 2 = .ok (.iload_n 1, 1) := by decide +kernel
theorem d_TM_layNext_3 : decode prog_12_method_93_code 3 = .ok (.aload_n 0, 1) := by decide +kernel
theorem d_TM_layNext_4 : decode prog_12_method_93_code 4 = .ok (.getfield 7, 3) := by decide +kernel
theorem d_TM_layNext_7 : decode prog_12_method_93_code 7 = .ok (.iconst 0, 1) := by decide +kernel
theorem d_TM_layNext_8 : decode prog_12_method_93_code 8 = .ok (.iaload, 1) := by decide +kernel
theorem d_TM_layNext_9 : decode prog_12_method_93_code 9 = .ok (.if_icmp .gt 20, 3) := by decide +kernel
theorem d_TM_layNext_12 : decode prog_12_method_93_code 12 = .ok (.aload_n 0, 1) := by decide +kernel
theorem d_TM_layNext_13 : decode prog_12_method_93_code 13 = .ok (.getfield 53, 3) := by decide +kernel
theorem d_TM_layNext_16 : decode prog_12_method_93_code 16 = .ok (.iload_n 1, 1) := by decide +kernel
theorem d_TM_layNext_17 : decode prog_12_method_93_code 17 = .ok (.aload_n 0, 1) := by decide +kernel
theorem d_TM_layNext_18 : decode prog_12_method_93_code 18 = .ok (.iload_n 1, 1) := by decide +kernel
theorem d_TM_layNext_19 : decode prog_12_method_93_code 19 = .ok (.invokevirtual 350, 3) := by decide +kernel
theorem d_TM_layNext_22 : decode prog_12_method_93_code 22 = .ok (.iastore, 1) := by decide +kernel
theorem d_TM_layNext_23 : decode prog_12_method_93_code 23 = .ok (.iinc 1 1, 3) := by decide +kernel
theorem d_TM_layNext_26 : decode prog_12_method_93_code 26 = .ok (.goto (-24), 3) := by decide +kernel
theorem d_TM_layNext_29 : decode prog_12_method_93_code 29 = .ok (.return_, 1) := by decide +kernel
theorem d_TM_tillRing_0 : decode prog_12_method_96_code 0 = .ok (.iconst 0, 1) := by decide +kernel
theorem d_TM_tillRing_1 : decode prog_12_method_96_code 1 = .ok (.istore_n 2, 1) := by decide +kernel
theorem d_TM_tillRing_2 : decode prog_12_method_96_code 2 = .ok (.aload_n 0, 1) := by decide +kernel
theorem d_TM_tillRing_3 : decode prog_12_method_96_code 3 = .ok (.aload_n 0, 1) := by decide +kernel
theorem d_TM_tillRing_4 : decode prog_12_method_96_code 4 = .ok (.iload_n 1, 1) := by decide +kernel
theorem d_TM_tillRing_5 : decode prog_12_method_96_code 5 = .ok (.iload_n 2, 1) := by decide +kernel
theorem d_TM_tillRing_6 : decode prog_12_method_96_code 6 = .ok (.invokevirtual 356, 3) := by decide +kernel
theorem d_TM_tillRing_9 : decode prog_12_method_96_code 9 = .ok (.invokevirtual 359, 3) := by decide +kernel
theorem d_TM_tillRing_12 : decode prog_12_method_96_code 12 = .ok (.iconst (-1), 1) := by decide +kernel
theorem d_TM_tillRing_13 : decode prog_12_method_96_code 13 = .ok (.if_icmp .ne 9, 3) := by decide +kernel
theorem d_TM_tillRing_16 : decode prog_12_method_96_code 16 = .ok (.iinc 2 1, 3) := by decide +kernel
theorem d_TM_tillRing_19 : decode prog_12_method_96_code 19 = .ok (.goto (-17), 3) := by decide +kernel
theorem d_TM_tillRing_22 : decode prog_12_method_96_code 22 = .ok (.iload_n 2, 1) := by decide +kernel
theorem d_TM_tillRing_23 : decode prog_12_method_96_code 23 = .ok (.ireturn, 1) := by decide +kernel
theorem d_TM_behind_0 : decode prog_12_method_94_code 0 = .ok (.iload_n 1, 1) := by decide +kernel
theorem d_TM_behind_1 : decode prog_12_method_94_code 1 = .ok (.istore_n 3, 1) := by decide +kernel
theorem d_TM_behind_2 : decode prog_12_method_94_code 2 = .ok (.iconst 0, 1) := by decide +kernel
theorem d_TM_behind_3 : decode prog_12_method_94_code 3 = .ok (.istore 4, 2) := by decide +kernel
theorem d_TM_behind_5 : decode prog_12_method_94_code 5 = .ok (.iload 4, 2) := by decide +kernel
theorem d_TM_behind_7 : decode prog_12_method_94_code 7 = .ok (.iload_n 2, 1) := by decide +kernel
theorem d_TM_behind_8 : decode prog_12_method_94_code 8 = .ok (.if_icmp .ge 16, 3) := by decide +kernel
theorem d_TM_behind_11 : decode prog_12_method_94_code 11 = .ok (.aload_n 0, 1) := by decide +kernel
theorem d_TM_behind_12 : decode prog_12_method_94_code 12 = .ok (.getfield 53, 3) := by decide +kernel
theorem d_TM_behind_15 : decode prog_12_method_94_code 15 = .ok (.iload_n 3, 1) := by decide +kernel
theorem d_TM_behind_16 : decode prog_12_method_94_code 16 = .ok (.iaload, 1) := by decide +kernel
theorem d_TM_behind_17 : decode prog_12_method_94_code 17 = .ok (.istore_n 3, 1) := by decide +kernel
theorem d_TM_behind_18 : decode prog_12_method_94_code 18 = .ok (.iinc 4 1, 3) := by decide +kernel
theorem d_TM_behind_21 : decode prog_12_method_94_code 21 = .ok (.goto (-16), 3) := by decide +kernel
theorem d_TM_behind_24 : decode prog_12_method_94_code 24 = .ok (.iload_n 3, 1) := by decide +kernel
theorem d_TM_behind_25 : decode prog_12_method_94_code 25 = .ok (.ireturn, 1) := by decide +kernel
theorem d_TM_ringOf_0 : decode prog_12_method_95_code 0 = .ok (.iconst 1, 1) := by decide +kernel
theorem d_TM_ringOf_1 : decode prog_12_method_95_code 1 = .ok (.istore_n 2, 1) := by decide +kernel
theorem d_TM_ringOf_2 : decode prog_12_method_95_code 2 = .ok (.iload_n 2, 1) := by decide +kernel
theorem d_TM_ringOf_3 : decode prog_12_method_95_code 3 = .ok (.bipush 9, 2) := by decide +kernel
theorem d_TM_ringOf_5 : decode prog_12_method_95_code 5 = .ok (.if_icmp .gt 21, 3) := by decide +kernel
theorem d_TM_ringOf_8 : decode prog_12_method_95_code 8 = .ok (.aload_n 0, 1) := by decide +kernel
theorem d_TM_ringOf_9 : decode prog_12_method_95_code 9 = .ok (.iload_n 1, 1) := by decide +kernel
theorem d_TM_ringOf_10 : decode prog_12_method_95_code 10 = .ok (.iload_n 2, 1) := by decide +kernel
theorem d_TM_ringOf_11 : decode prog_12_method_95_code 11 = .ok (.invokevirtual 356, 3) := by decide +kernel
theorem d_TM_ringOf_14 : decode prog_12_method_95_code 14 = .ok (.iload_n 1, 1) := by decide +kernel
theorem d_TM_ringOf_15 : decode prog_12_method_95_code 15 = .ok (.if_icmp .ne 5, 3) := by decide +kernel
theorem d_TM_ringOf_18 : decode prog_12_method_95_code 18 = .ok (.iload_n 2, 1) := by decide +kernel
theorem d_TM_ringOf_19 : decode prog_12_method_95_code 19 = .ok (.ireturn, 1) := by decide +kernel
theorem d_TM_ringOf_20 : decode prog_12_method_95_code 20 = .ok (.iinc 2 1, 3) := by decide +kernel
theorem d_TM_ringOf_23 : decode prog_12_method_95_code 23 = .ok (.goto (-21), 3) := by decide +kernel
theorem d_TM_ringOf_26 : decode prog_12_method_95_code 26 = .ok (.iconst (-1), 1) := by decide +kernel
theorem d_TM_ringOf_27 : decode prog_12_method_95_code 27 = .ok (.ireturn, 1) := by decide +kernel
theorem d_TM_lowestOfRing_0 : decode prog_12_method_97_code 0 = .ok (.iload_n 1, 1) := by decide +kernel
theorem d_TM_lowestOfRing_1 : decode prog_12_method_97_code 1 = .ok (.istore_n 2, 1) := by decide +kernel
theorem d_TM_lowestOfRing_2 : decode prog_12_method_97_code 2 = .ok (.iconst 1, 1) := by decide +kernel
theorem d_TM_lowestOfRing_3 : decode prog_12_method_97_code 3 = .ok (.istore_n 3, 1) := by decide +kernel
theorem d_TM_lowestOfRing_4 : decode prog_12_method_97_code 4 = .ok (.iload_n 3, 1) := by decide +kernel
theorem d_TM_lowestOfRing_5 : decode prog_12_method_97_code 5 = .ok (.bipush 9, 2) := by decide +kernel
theorem d_TM_lowestOfRing_7 : decode prog_12_method_97_code 7 = .ok (.if_icmp .gt 26, 3) := by decide +kernel
theorem d_TM_lowestOfRing_10 : decode prog_12_method_97_code 10 = .ok (.aload_n 0, 1) := by decide +kernel
theorem d_TM_lowestOfRing_11 : decode prog_12_method_97_code 11 = .ok (.iload_n 1, 1) := by decide +kernel
theorem d_TM_lowestOfRing_12 : decode prog_12_method_97_code 12 = .ok (.iload_n 3, 1) := by decide +kernel
theorem d_TM_lowestOfRing_13 : decode prog_12_method_97_code 13 = .ok (.invokevirtual 356, 3) := by decide +kernel
theorem d_TM_lowestOfRing_16 : decode prog_12_method_97_code 16 = .ok (.iload_n 2, 1) := by decide +kernel
theorem d_TM_lowestOfRing_17 : decode prog_12_method_97_code 17 = .ok (.if_icmp .ge 10, 3) := by decide +kernel
theorem d_TM_lowestOfRing_20 : decode prog_12_method_97_code 20 = .ok (.aload_n 0, 1) := by decide +kernel
theorem d_TM_lowestOfRing_21 : decode prog_12_method_97_code 21 = .ok (.iload_n 1, 1) := by decide +kernel
theorem d_TM_lowestOfRing_22 : decode prog_12_method_97_code 22 = .ok (.iload_n 3, 1) := by decide +kernel
theorem d_TM_lowestOfRing_23 : decode prog_12_method_97_code 23 = .ok (.invokevirtual 356, 3) := by decide +kernel
theorem d_TM_lowestOfRing_26 : decode prog_12_method_97_code 26 = .ok (.istore_n 2, 1) := by decide +kernel
theorem d_TM_lowestOfRing_27 : decode prog_12_method_97_code 27 = .ok (.iinc 3 1, 3) := by decide +kernel
theorem d_TM_lowestOfRing_30 : decode prog_12_method_97_code 30 = .ok (.goto (-26), 3) := by decide +kernel
theorem d_TM_lowestOfRing_33 : decode prog_12_method_97_code 33 = .ok (.iload_n 2, 1) := by decide +kernel
theorem d_TM_lowestOfRing_34 : decode prog_12_method_97_code 34 = .ok (.ireturn, 1) := by decide +kernel
theorem d_TM_till_0 : decode prog_12_method_99_code 0 = .ok (.aload_n 0, 1) := by decide +kernel
theorem d_TM_till_1 : decode prog_12_method_99_code 1 = .ok (.iload_n 1, 1) := by decide +kernel
theorem d_TM_till_2 : decode prog_12_method_99_code 2 = .ok (.invokevirtual 311, 3) := by decide +kernel
theorem d_TM_till_5 : decode prog_12_method_99_code 5 = .ok (.ifCond .ne 5, 3) := by decide +kernel
theorem d_TM_till_8 : decode prog_12_method_99_code 8 = .ok (.iconst (-1), 1) := by decide +kernel
theorem d_TM_till_9 : decode prog_12_method_99_code 9 = .ok (.ireturn, 1) := by decide +kernel
theorem d_TM_till_10 : decode prog_12_method_99_code 10 = .ok (.aload_n 0, 1) := by decide +kernel
theorem d_TM_till_11 : decode prog_12_method_99_code 11 = .ok (.invokevirtual 362, 3) := by decide +kernel
theorem d_TM_till_14 : decode prog_12_method_99_code 14 = .ok (.aload_n 0, 1) := by decide +kernel
theorem d_TM_till_15 : decode prog_12_method_99_code 15 = .ok (.iload_n 1, 1) := by decide +kernel
theorem d_TM_till_16 : decode prog_12_method_99_code 16 = .ok (.invokevirtual 365, 3) := by decide +kernel
theorem d_TM_till_19 : decode prog_12_method_99_code 19 = .ok (.ireturn, 1) := by decide +kernel
theorem d_TM_leads_0 : decode prog_12_method_100_code 0 = .ok (.aload_n 0, 1) := by decide +kernel
theorem d_TM_leads_1 : decode prog_12_method_100_code 1 = .ok (.iload_n 1, 1) := by decide +kernel
theorem d_TM_leads_2 : decode prog_12_method_100_code 2 = .ok (.invokevirtual 311, 3) := by decide +kernel
theorem d_TM_leads_5 : decode prog_12_method_100_code 5 = .ok (.ifCond .ne 5, 3) := by decide +kernel
theorem d_TM_leads_8 : decode prog_12_method_100_code 8 = .ok (.iconst (-1), 1) := by decide +kernel
theorem d_TM_leads_9 : decode prog_12_method_100_code 9 = .ok (.ireturn, 1) := by decide +kernel
theorem d_TM_leads_10 : decode prog_12_method_100_code 10 = .ok (.aload_n 0, 1) := by decide +kernel
theorem d_TM_leads_11 : decode prog_12_method_100_code 11 = .ok (.invokevirtual 362, 3) := by decide +kernel
theorem d_TM_leads_14 : decode prog_12_method_100_code 14 = .ok (.iconst 0, 1) := by decide +kernel
theorem d_TM_leads_15 : decode prog_12_method_100_code 15 = .ok (.istore_n 2, 1) := by decide +kernel
theorem d_TM_leads_16 : decode prog_12_method_100_code 16 = .ok (.iconst 0, 1) := by decide +kernel
theorem d_TM_leads_17 : decode prog_12_method_100_code 17 = .ok (.istore_n 3, 1) := by decide +kernel
theorem d_TM_leads_18 : decode prog_12_method_100_code 18 = .ok (.iload_n 3, 1) := by decide +kernel
theorem d_TM_leads_19 : decode prog_12_method_100_code 19 = .ok (.aload_n 0, 1) := by decide +kernel
theorem d_TM_leads_20 : decode prog_12_method_100_code 20 = .ok (.getfield 7, 3) := by decide +kernel
theorem d_TM_leads_23 : decode prog_12_method_100_code 23 = .ok (.iconst 0, 1) := by decide +kernel
theorem d_TM_leads_24 : decode prog_12_method_100_code 24 = .ok (.iaload, 1) := by decide +kernel
theorem d_TM_leads_25 : decode prog_12_method_100_code 25 = .ok (.if_icmp .gt 42, 3) := by decide +kernel
theorem d_TM_leads_28 : decode prog_12_method_100_code 28 = .ok (.iconst 0, 1) := by decide +kernel
theorem d_TM_leads_29 : decode prog_12_method_100_code 29 = .ok (.istore 4, 2) := by decide +kernel
theorem d_TM_leads_31 : decode prog_12_method_100_code 31 = .ok (.iload 4, 2) := by decide +kernel
theorem d_TM_leads_33 : decode prog_12_method_100_code 33 = .ok (.bipush 9, 2) := by decide +kernel
theorem d_TM_leads_35 : decode prog_12_method_100_code 35 = .ok (.if_icmp .gt 26, 3) := by decide +kernel
theorem d_TM_leads_38 : decode prog_12_method_100_code 38 = .ok (.aload_n 0, 1) := by decide +kernel
theorem d_TM_leads_39 : decode prog_12_method_100_code 39 = .ok (.iload_n 3, 1) := by decide +kernel
theorem d_TM_leads_40 : decode prog_12_method_100_code 40 = .ok (.iload 4, 2) := by decide +kernel
theorem d_TM_leads_42 : decode prog_12_method_100_code 42 = .ok (.invokevirtual 356, 3) := by decide +kernel
theorem d_TM_leads_45 : decode prog_12_method_100_code 45 = .ok (.iload_n 1, 1) := by decide +kernel
theorem d_TM_leads_46 : decode prog_12_method_100_code 46 = .ok (.if_icmp .ne 9, 3) := by decide +kernel
theorem d_TM_leads_49 : decode prog_12_method_100_code 49 = .ok (.iload_n 2, 1) := by decide +kernel
theorem d_TM_leads_50 : decode prog_12_method_100_code 50 = .ok (.iconst 1, 1) := by decide +kernel
theorem d_TM_leads_51 : decode prog_12_method_100_code 51 = .ok (.iload_n 3, 1) := by decide +kernel
theorem d_TM_leads_52 : decode prog_12_method_100_code 52 = .ok (.ishl, 1) := by decide +kernel
theorem d_TM_leads_53 : decode prog_12_method_100_code 53 = .ok (.ior, 1) := by decide +kernel
theorem d_TM_leads_54 : decode prog_12_method_100_code 54 = .ok (.istore_n 2, 1) := by decide +kernel
theorem d_TM_leads_55 : decode prog_12_method_100_code 55 = .ok (.iinc 4 1, 3) := by decide +kernel
theorem d_TM_leads_58 : decode prog_12_method_100_code 58 = .ok (.goto (-27), 3) := by decide +kernel
theorem d_TM_leads_61 : decode prog_12_method_100_code 61 = .ok (.iinc 3 1, 3) := by decide +kernel
theorem d_TM_leads_64 : decode prog_12_method_100_code 64 = .ok (.goto (-46), 3) := by decide +kernel
theorem d_TM_leads_67 : decode prog_12_method_100_code 67 = .ok (.iload_n 2, 1) := by decide +kernel
theorem d_TM_leads_68 : decode prog_12_method_100_code 68 = .ok (.ireturn, 1) := by decide +kernel
theorem d_TM_rings_0 : decode prog_12_method_101_code 0 = .ok (.aload_n 0, 1) := by decide +kernel
theorem d_TM_rings_1 : decode prog_12_method_101_code 1 = .ok (.invokevirtual 362, 3) := by decide +kernel
theorem d_TM_rings_4 : decode prog_12_method_101_code 4 = .ok (.iconst 0, 1) := by decide +kernel
theorem d_TM_rings_5 : decode prog_12_method_101_code 5 = .ok (.istore_n 1, 1) := by decide +kernel
theorem d_TM_rings_6 : decode prog_12_method_101_code 6 = .ok (.iconst 0, 1) := by decide +kernel
theorem d_TM_rings_7 : decode prog_12_method_101_code 7 = .ok (.istore_n 2, 1) := by decide +kernel
theorem d_TM_rings_8 : decode prog_12_method_101_code 8 = .ok (.iload_n 2, 1) := by decide +kernel
theorem d_TM_rings_9 : decode prog_12_method_101_code 9 = .ok (.aload_n 0, 1) := by decide +kernel
theorem d_TM_rings_10 : decode prog_12_method_101_code 10 = .ok (.getfield 7, 3) := by decide +kernel
theorem d_TM_rings_13 : decode prog_12_method_101_code 13 = .ok (.iconst 0, 1) := by decide +kernel
theorem d_TM_rings_14 : decode prog_12_method_101_code 14 = .ok (.iaload, 1) := by decide +kernel
theorem d_TM_rings_15 : decode prog_12_method_101_code 15 = .ok (.if_icmp .gt 35, 3) := by decide +kernel
theorem d_TM_rings_18 : decode prog_12_method_101_code 18 = .ok (.iload_n 1, 1) := by decide +kernel
theorem d_TM_rings_19 : decode prog_12_method_101_code 19 = .ok (.aload_n 0, 1) := by decide +kernel
theorem d_TM_rings_20 : decode prog_12_method_101_code 20 = .ok (.iload_n 2, 1) := by decide +kernel
theorem d_TM_rings_21 : decode prog_12_method_101_code 21 = .ok (.invokevirtual 359, 3) := by decide +kernel
theorem d_TM_rings_24 : decode prog_12_method_101_code 24 = .ok (.iconst (-1), 1) := by decide +kernel
theorem d_TM_rings_25 : decode prog_12_method_101_code 25 = .ok (.if_icmp .eq 16, 3) := by decide +kernel
theorem d_TM_rings_28 : decode prog_12_method_101_code 28 = .ok (.aload_n 0, 1) := by decide +kernel
theorem d_TM_rings_29 : decode prog_12_method_101_code 29 = .ok (.iload_n 2, 1) := by decide +kernel
theorem d_TM_rings_30 : decode prog_12_method_101_code 30 = .ok (.invokevirtual 368, 3) := by decide +kernel
theorem d_TM_rings_33 : decode prog_12_method_101_code 33 = .ok (.iload_n 2, 1) := by decide +kernel
theorem d_TM_rings_34 : decode prog_12_method_101_code 34 = .ok (.if_icmp .ne 7, 3) := by decide +kernel
theorem d_TM_rings_37 : decode prog_12_method_101_code 37 = .ok (.iconst 1, 1) := by decide +kernel
theorem d_TM_rings_38 : decode prog_12_method_101_code 38 = .ok (.goto 4, 3) := by decide +kernel
theorem d_TM_rings_41 : decode prog_12_method_101_code 41 = .ok (.iconst 0, 1) := by decide +kernel
theorem d_TM_rings_42 : decode prog_12_method_101_code 42 = .ok (.iadd, 1) := by decide +kernel
theorem d_TM_rings_43 : decode prog_12_method_101_code 43 = .ok (.istore_n 1, 1) := by decide +kernel
theorem d_TM_rings_44 : decode prog_12_method_101_code 44 = .ok (.iinc 2 1, 3) := by decide +kernel
theorem d_TM_rings_47 : decode prog_12_method_101_code 47 = .ok (.goto (-39), 3) := by decide +kernel
theorem d_TM_rings_50 : decode prog_12_method_101_code 50 = .ok (.iload_n 1, 1) := by decide +kernel
theorem d_TM_rings_51 : decode prog_12_method_101_code 51 = .ok (.ireturn, 1) := by decide +kernel
theorem d_TM_nearest_0 : decode prog_12_method_102_code 0 = .ok (.aload_n 0, 1) := by decide +kernel
theorem d_TM_nearest_1 : decode prog_12_method_102_code 1 = .ok (.invokevirtual 362, 3) := by decide +kernel
theorem d_TM_nearest_4 : decode prog_12_method_102_code 4 = .ok (.iconst 0, 1) := by decide +kernel
theorem d_TM_nearest_5 : decode prog_12_method_102_code 5 = .ok (.istore_n 1, 1) := by decide +kernel
theorem d_TM_nearest_6 : decode prog_12_method_102_code 6 = .ok (.iconst 1, 1) := by decide +kernel
theorem d_TM_nearest_7 : decode prog_12_method_102_code 7 = .ok (.istore_n 2, 1) := by decide +kernel
theorem d_TM_nearest_8 : decode prog_12_method_102_code 8 = .ok (.iload_n 2, 1) := by decide +kernel
theorem d_TM_nearest_9 : decode prog_12_method_102_code 9 = .ok (.aload_n 0, 1) := by decide +kernel
theorem d_TM_nearest_10 : decode prog_12_method_102_code 10 = .ok (.getfield 7, 3) := by decide +kernel
theorem d_TM_nearest_13 : decode prog_12_method_102_code 13 = .ok (.iconst 0, 1) := by decide +kernel
theorem d_TM_nearest_14 : decode prog_12_method_102_code 14 = .ok (.iaload, 1) := by decide +kernel
theorem d_TM_nearest_15 : decode prog_12_method_102_code 15 = .ok (.if_icmp .gt 34, 3) := by decide +kernel
theorem d_TM_nearest_18 : decode prog_12_method_102_code 18 = .ok (.iload_n 2, 1) := by decide +kernel
theorem d_TM_nearest_19 : decode prog_12_method_102_code 19 = .ok (.aload_n 0, 1) := by decide +kernel
theorem d_TM_nearest_20 : decode prog_12_method_102_code 20 = .ok (.getfield 53, 3) := by decide +kernel
theorem d_TM_nearest_23 : decode prog_12_method_102_code 23 = .ok (.iload_n 2, 1) := by decide +kernel
theorem d_TM_nearest_24 : decode prog_12_method_102_code 24 = .ok (.iaload, 1) := by decide +kernel
theorem d_TM_nearest_25 : decode prog_12_method_102_code 25 = .ok (.invokestatic 371, 3) := by decide +kernel
theorem d_TM_nearest_28 : decode prog_12_method_102_code 28 = .ok (.iload_n 1, 1) := by decide +kernel
theorem d_TM_nearest_29 : decode prog_12_method_102_code 29 = .ok (.aload_n 0, 1) := by decide +kernel
theorem d_TM_nearest_30 : decode prog_12_method_102_code 30 = .ok (.getfield 53, 3) := by decide +kernel
theorem d_TM_nearest_33 : decode prog_12_method_102_code 33 = .ok (.iload_n 1, 1) := by decide +kernel
theorem d_TM_nearest_34 : decode prog_12_method_102_code 34 = .ok (.iaload, 1) := by decide +kernel
theorem d_TM_nearest_35 : decode prog_12_method_102_code 35 = .ok (.invokestatic 371, 3) := by decide +kernel
theorem d_TM_nearest_38 : decode prog_12_method_102_code 38 = .ok (.if_icmp .ge 5, 3) := by decide +kernel
theorem d_TM_nearest_41 : decode prog_12_method_102_code 41 = .ok (.iload_n 2, 1) := by decide +kernel
theorem d_TM_nearest_42 : decode prog_12_method_102_code 42 = .ok (.istore_n 1, 1) := by decide +kernel
theorem d_TM_nearest_43 : decode prog_12_method_102_code 43 = .ok (.iinc 2 1, 3) := by decide +kernel
theorem d_TM_nearest_46 : decode prog_12_method_102_code 46 = .ok (.goto (-38), 3) := by decide +kernel
theorem d_TM_nearest_49 : decode prog_12_method_102_code 49 = .ok (.iload_n 1, 1) := by decide +kernel
theorem d_TM_nearest_50 : decode prog_12_method_102_code 50 = .ok (.ireturn, 1) := by decide +kernel
theorem d_TM_apartBy_0 : decode prog_12_method_103_code 0 = .ok (.iload_n 0, 1) := by decide +kernel
theorem d_TM_apartBy_1 : decode prog_12_method_103_code 1 = .ok (.iload_n 1, 1) := by decide +kernel
theorem d_TM_apartBy_2 : decode prog_12_method_103_code 2 = .ok (.if_icmp .ge 9, 3) := by decide +kernel
theorem d_TM_apartBy_5 : decode prog_12_method_103_code 5 = .ok (.iload_n 1, 1) := by decide +kernel
theorem d_TM_apartBy_6 : decode prog_12_method_103_code 6 = .ok (.iload_n 0, 1) := by decide +kernel
theorem d_TM_apartBy_7 : decode prog_12_method_103_code 7 = .ok (.isub, 1) := by decide +kernel
theorem d_TM_apartBy_8 : decode prog_12_method_103_code 8 = .ok (.goto 6, 3) := by decide +kernel
theorem d_TM_apartBy_11 : decode prog_12_method_103_code 11 = .ok (.iload_n 0, 1) := by decide +kernel
theorem d_TM_apartBy_12 : decode prog_12_method_103_code 12 = .ok (.iload_n 1, 1) := by decide +kernel
theorem d_TM_apartBy_13 : decode prog_12_method_103_code 13 = .ok (.isub, 1) := by decide +kernel
theorem d_TM_apartBy_14 : decode prog_12_method_103_code 14 = .ok (.ireturn, 1) := by decide +kernel
theorem d_TM_path_0 : decode prog_12_method_104_code 0 = .ok (.aload_n 0, 1) := by decide +kernel
theorem d_TM_path_1 : decode prog_12_method_104_code 1 = .ok (.iload_n 1, 1) := by decide +kernel
theorem d_TM_path_2 : decode prog_12_method_104_code 2 = .ok (.invokevirtual 311, 3) := by decide +kernel
theorem d_TM_path_5 : decode prog_12_method_104_code 5 = .ok (.ifCond .eq 21, 3) := by decide +kernel
theorem d_TM_path_8 : decode prog_12_method_104_code 8 = .ok (.aload_n 0, 1) := by decide +kernel
theorem d_TM_path_9 : decode prog_12_method_104_code 9 = .ok (.iload_n 2, 1) := by decide +kernel
theorem d_TM_path_10 : decode prog_12_method_104_code 10 = .ok (.invokevirtual 311, 3) := by decide +kernel
theorem d_TM_path_13 : decode prog_12_method_104_code 13 = .ok (.ifCond .eq 13, 3) := by decide +kernel
theorem d_TM_path_16 : decode prog_12_method_104_code 16 = .ok (.iload_n 3, 1) := by decide +kernel
theorem d_TM_path_17 : decode prog_12_method_104_code 17 = .ok (.iconst 0, 1) := by decide +kernel
theorem d_TM_path_18 : decode prog_12_method_104_code 18 = .ok (.bipush 8, 2) := by decide +kernel
theorem d_TM_path_20 : decode prog_12_method_104_code 20 = .ok (.invokestatic 69, 3) := by decide +kernel
theorem d_TM_path_23 : decode prog_12_method_104_code 23 = .ok (.ifCond .ne 5, 3) := by decide +kernel
theorem d_TM_path_26 : decode prog_12_method_104_code 26 = .ok (.iconst (-1), 1) := by decide +kernel
theorem d_TM_path_27 : decode prog_12_method_104_code 27 = .ok (.ireturn, 1) := by decide +kernel
theorem d_TM_path_28 : decode prog_12_method_104_code 28 = .ok (.aload_n 0, 1) := by decide +kernel
theorem d_TM_path_29 : decode prog_12_method_104_code 29 = .ok (.invokevirtual 362, 3) := by decide +kernel
theorem d_TM_path_32 : decode prog_12_method_104_code 32 = .ok (.iconst 1, 1) := by decide +kernel
theorem d_TM_path_33 : decode prog_12_method_104_code 33 = .ok (.iload_n 1, 1) := by decide +kernel
theorem d_TM_path_34 : decode prog_12_method_104_code 34 = .ok (.ishl, 1) := by decide +kernel
theorem d_TM_path_35 : decode prog_12_method_104_code 35 = .ok (.istore 4, 2) := by decide +kernel
theorem d_TM_path_37 : decode prog_12_method_104_code 37 = .ok (.iconst 0, 1) := by decide +kernel
theorem d_TM_path_38 : decode prog_12_method_104_code 38 = .ok (.istore 5, 2) := by decide +kernel
theorem d_TM_path_40 : decode prog_12_method_104_code 40 = .ok (.iload 5, 2) := by decide +kernel
theorem d_TM_path_42 : decode prog_12_method_104_code 42 = .ok (.bipush 9, 2) := by decide +kernel
theorem d_TM_path_44 : decode prog_12_method_104_code 44 = .ok (.if_icmp .gt 104, 3) := by decide +kernel
theorem d_TM_path_47 : decode prog_12_method_104_code 47 = .ok (.iload 4, 2) := by decide +kernel
theorem d_TM_path_49 : decode prog_12_method_104_code 49 = .ok (.iload_n 2, 1) := by decide +kernel
theorem d_TM_path_50 : decode prog_12_method_104_code 50 = .ok (.invokestatic 229, 3) := by decide +kernel
theorem d_TM_path_53 : decode prog_12_method_104_code 53 = .ok (.ifCond .eq 6, 3) := by decide +kernel
theorem d_TM_path_56 : decode prog_12_method_104_code 56 = .ok (.iload 5, 2) := by decide +kernel
theorem d_TM_path_58 : decode prog_12_method_104_code 58 = .ok (.ireturn, 1) := by decide +kernel
theorem d_TM_path_59 : decode prog_12_method_104_code 59 = .ok (.iload 4, 2) := by decide +kernel
theorem d_TM_path_61 : decode prog_12_method_104_code 61 = .ok (.istore 6, 2) := by decide +kernel
theorem d_TM_path_63 : decode prog_12_method_104_code 63 = .ok (.iconst 0, 1) := by decide +kernel
theorem d_TM_path_64 : decode prog_12_method_104_code 64 = .ok (.istore 7, 2) := by decide +kernel
theorem d_TM_path_66 : decode prog_12_method_104_code 66 = .ok (.iload 7, 2) := by decide +kernel
theorem d_TM_path_68 : decode prog_12_method_104_code 68 = .ok (.aload_n 0, 1) := by decide +kernel
theorem d_TM_path_69 : decode prog_12_method_104_code 69 = .ok (.getfield 7, 3) := by decide +kernel
theorem d_TM_path_72 : decode prog_12_method_104_code 72 = .ok (.iconst 0, 1) := by decide +kernel
theorem d_TM_path_73 : decode prog_12_method_104_code 73 = .ok (.iaload, 1) := by decide +kernel
theorem d_TM_path_74 : decode prog_12_method_104_code 74 = .ok (.if_icmp .gt 64, 3) := by decide +kernel
theorem d_TM_path_77 : decode prog_12_method_104_code 77 = .ok (.iconst 0, 1) := by decide +kernel
theorem d_TM_path_78 : decode prog_12_method_104_code 78 = .ok (.istore 8, 2) := by decide +kernel
theorem d_TM_path_80 : decode prog_12_method_104_code 80 = .ok (.iload 8, 2) := by decide +kernel
theorem d_TM_path_82 : decode prog_12_method_104_code 82 = .ok (.aload_n 0, 1) := by decide +kernel
theorem d_TM_path_83 : decode prog_12_method_104_code 83 = .ok (.getfield 7, 3) := by decide +kernel
theorem d_TM_path_86 : decode prog_12_method_104_code 86 = .ok (.iconst 0, 1) := by decide +kernel
theorem d_TM_path_87 : decode prog_12_method_104_code 87 = .ok (.iaload, 1) := by decide +kernel
theorem d_TM_path_88 : decode prog_12_method_104_code 88 = .ok (.if_icmp .gt 44, 3) := by decide +kernel
theorem d_TM_path_91 : decode prog_12_method_104_code 91 = .ok (.iload 4, 2) := by decide +kernel
theorem d_TM_path_93 : decode prog_12_method_104_code 93 = .ok (.iload 7, 2) := by decide +kernel
theorem d_TM_path_95 : decode prog_12_method_104_code 95 = .ok (.invokestatic 229, 3) := by decide +kernel
theorem d_TM_path_98 : decode prog_12_method_104_code 98 = .ok (.ifCond .eq 28, 3) := by decide +kernel
theorem d_TM_path_101 : decode prog_12_method_104_code 101 = .ok (.iload 7, 2) := by decide +kernel
theorem d_TM_path_103 : decode prog_12_method_104_code 103 = .ok (.iload 8, 2) := by decide +kernel
theorem d_TM_path_105 : decode prog_12_method_104_code 105 = .ok (.invokestatic 371, 3) := by decide +kernel
theorem d_TM_path_108 : decode prog_12_method_104_code 108 = .ok (.iload_n 3, 1) := by decide +kernel
theorem d_TM_path_109 : decode prog_12_method_104_code 109 = .ok (.if_icmp .gt 17, 3) := by decide +kernel
theorem d_TM_path_112 : decode prog_12_method_104_code 112 = .ok (.iload 6, 2) := by decide +kernel
theorem d_TM_path_114 : decode prog_12_method_104_code 114 = .ok (.iconst 1, 1) := by decide +kernel
theorem d_TM_path_115 : decode prog_12_method_104_code 115 = .ok (.aload_n 0, 1) := by decide +kernel
theorem d_TM_path_116 : decode prog_12_method_104_code 116 = .ok (.getfield 53, 3) := by decide +kernel
theorem d_TM_path_119 : decode prog_12_method_104_code 119 = .ok (.iload 8, 2) := by decide +kernel
theorem d_TM_path_121 : decode prog_12_method_104_code 121 = .ok (.iaload, 1) := by decide +kernel
theorem d_TM_path_122 : decode prog_12_method_104_code 122 = .ok (.ishl, 1) := by decide +kernel
theorem d_TM_path_123 : decode prog_12_method_104_code 123 = .ok (.ior, 1) := by decide +kernel
theorem d_TM_path_124 : decode prog_12_method_104_code 124 = .ok (.istore 6, 2) := by decide +kernel
theorem d_TM_path_126 : decode prog_12_method_104_code 126 = .ok (.iinc 8 1, 3) := by decide +kernel
theorem d_TM_path_129 : decode prog_12_method_104_code 129 = .ok (.goto (-49), 3) := by decide +kernel
theorem d_TM_path_132 : decode prog_12_method_104_code 132 = .ok (.iinc 7 1, 3) := by decide +kernel
theorem d_TM_path_135 : decode prog_12_method_104_code 135 = .ok (.goto (-69), 3) := by decide +kernel
theorem d_TM_path_138 : decode prog_12_method_104_code 138 = .ok (.iload 6, 2) := by decide +kernel
theorem d_TM_path_140 : decode prog_12_method_104_code 140 = .ok (.istore 4, 2) := by decide +kernel
theorem d_TM_path_142 : decode prog_12_method_104_code 142 = .ok (.iinc 5 1, 3) := by decide +kernel
theorem d_TM_path_145 : decode prog_12_method_104_code 145 = .ok (.goto (-105), 3) := by decide +kernel
theorem d_TM_path_148 : decode prog_12_method_104_code 148 = .ok (.iconst (-1), 1) := by decide +kernel
theorem d_TM_path_149 : decode prog_12_method_104_code 149 = .ok (.ireturn, 1) := by decide +kernel
theorem d_TM_win_0 : decode prog_12_method_105_code 0 = .ok (.aload_n 0, 1) := by decide +kernel
theorem d_TM_win_1 : decode prog_12_method_105_code 1 = .ok (.iload_n 1, 1) := by decide +kernel
theorem d_TM_win_2 : decode prog_12_method_105_code 2 = .ok (.invokevirtual 311, 3) := by decide +kernel
theorem d_TM_win_5 : decode prog_12_method_105_code 5 = .ok (.ifCond .ne 5, 3) := by decide +kernel
theorem d_TM_win_8 : decode prog_12_method_105_code 8 = .ok (.iconst (-1), 1) := by decide +kernel
theorem d_TM_win_9 : decode prog_12_method_105_code 9 = .ok (.ireturn, 1) := by decide +kernel
theorem d_TM_win_10 : decode prog_12_method_105_code 10 = .ok (.aload_n 0, 1) := by decide +kernel
theorem d_TM_win_11 : decode prog_12_method_105_code 11 = .ok (.iload_n 1, 1) := by decide +kernel
theorem d_TM_win_12 : decode prog_12_method_105_code 12 = .ok (.invokevirtual 347, 3) := by decide +kernel
theorem d_TM_win_15 : decode prog_12_method_105_code 15 = .ok (.istore_n 3, 1) := by decide +kernel
theorem d_TM_win_16 : decode prog_12_method_105_code 16 = .ok (.iconst (-1), 1) := by decide +kernel
theorem d_TM_win_17 : decode prog_12_method_105_code 17 = .ok (.istore 4, 2) := by decide +kernel
theorem d_TM_win_19 : decode prog_12_method_105_code 19 = .ok (.aload_n 0, 1) := by decide +kernel
theorem d_TM_win_20 : decode prog_12_method_105_code 20 = .ok (.invokevirtual 374, 3) := by decide +kernel
theorem d_TM_win_23 : decode prog_12_method_105_code 23 = .ok (.istore 5, 2) := by decide +kernel
theorem d_TM_win_25 : decode prog_12_method_105_code 25 = .ok (.iload 5, 2) := by decide +kernel
theorem d_TM_win_27 : decode prog_12_method_105_code 27 = .ok (.ifCond .lt 43, 3) := by decide +kernel
theorem d_TM_win_30 : decode prog_12_method_105_code 30 = .ok (.iload_n 3, 1) := by decide +kernel
theorem d_TM_win_31 : decode prog_12_method_105_code 31 = .ok (.iload 5, 2) := by decide +kernel
theorem d_TM_win_33 : decode prog_12_method_105_code 33 = .ok (.ior, 1) := by decide +kernel
theorem d_TM_win_34 : decode prog_12_method_105_code 34 = .ok (.invokestatic 267, 3) := by decide +kernel
theorem d_TM_win_37 : decode prog_12_method_105_code 37 = .ok (.iload_n 1, 1) := by decide +kernel
theorem d_TM_win_38 : decode prog_12_method_105_code 38 = .ok (.if_icmp .ne 26, 3) := by decide +kernel
theorem d_TM_win_41 : decode prog_12_method_105_code 41 = .ok (.iload 4, 2) := by decide +kernel
theorem d_TM_win_43 : decode prog_12_method_105_code 43 = .ok (.iconst (-1), 1) := by decide +kernel
theorem d_TM_win_44 : decode prog_12_method_105_code 44 = .ok (.if_icmp .eq 16, 3) := by decide +kernel
theorem d_TM_win_47 : decode prog_12_method_105_code 47 = .ok (.iload 5, 2) := by decide +kernel
theorem d_TM_win_49 : decode prog_12_method_105_code 49 = .ok (.invokestatic 267, 3) := by decide +kernel
theorem d_TM_win_52 : decode prog_12_method_105_code 52 = .ok (.iload 4, 2) := by decide +kernel
theorem d_TM_win_54 : decode prog_12_method_105_code 54 = .ok (.invokestatic 267, 3) := by decide +kernel
theorem d_TM_win_57 : decode prog_12_method_105_code 57 = .ok (.if_icmp .gt 7, 3) := by decide +kernel
theorem d_TM_win_60 : decode prog_12_method_105_code 60 = .ok (.iload 5, 2) := by decide +kernel
theorem d_TM_win_62 : decode prog_12_method_105_code 62 = .ok (.istore 4, 2) := by decide +kernel
theorem d_TM_win_64 : decode prog_12_method_105_code 64 = .ok (.iinc 5 (-1), 3) := by decide +kernel
theorem d_TM_win_67 : decode prog_12_method_105_code 67 = .ok (.goto (-42), 3) := by decide +kernel
theorem d_TM_win_70 : decode prog_12_method_105_code 70 = .ok (.iload 4, 2) := by decide +kernel
theorem d_TM_win_72 : decode prog_12_method_105_code 72 = .ok (.iconst (-1), 1) := by decide +kernel
theorem d_TM_win_73 : decode prog_12_method_105_code 73 = .ok (.if_icmp .ne 7, 3) := by decide +kernel
theorem d_TM_win_76 : decode prog_12_method_105_code 76 = .ok (.iconst (-1), 1) := by decide +kernel
theorem d_TM_win_77 : decode prog_12_method_105_code 77 = .ok (.goto 17, 3) := by decide +kernel
theorem d_TM_win_80 : decode prog_12_method_105_code 80 = .ok (.iload_n 2, 1) := by decide +kernel
theorem d_TM_win_81 : decode prog_12_method_105_code 81 = .ok (.ifCond .eq 11, 3) := by decide +kernel
theorem d_TM_win_84 : decode prog_12_method_105_code 84 = .ok (.iload 4, 2) := by decide +kernel
theorem d_TM_win_86 : decode prog_12_method_105_code 86 = .ok (.invokestatic 267, 3) := by decide +kernel
theorem d_TM_win_89 : decode prog_12_method_105_code 89 = .ok (.goto 5, 3) := by decide +kernel
theorem d_TM_win_92 : decode prog_12_method_105_code 92 = .ok (.iload 4, 2) := by decide +kernel
theorem d_TM_win_94 : decode prog_12_method_105_code 94 = .ok (.ireturn, 1) := by decide +kernel
theorem d_TM_everyone_0 : decode prog_12_method_9_code 0 = .ok (.iconst 1, 1) := by decide +kernel
theorem d_TM_everyone_1 : decode prog_12_method_9_code 1 = .ok (.aload_n 0, 1) := by decide +kernel
theorem d_TM_everyone_2 : decode prog_12_method_9_code 2 = .ok (.getfield 7, 3) := by decide +kernel
theorem d_TM_everyone_5 : decode prog_12_method_9_code 5 = .ok (.iconst 0, 1) := by decide +kernel
theorem d_TM_everyone_6 : decode prog_12_method_9_code 6 = .ok (.iaload, 1) := by decide +kernel
theorem d_TM_everyone_7 : decode prog_12_method_9_code 7 = .ok (.ishl, 1) := by decide +kernel
theorem d_TM_everyone_8 : decode prog_12_method_9_code 8 = .ok (.iconst 1, 1) := by decide +kernel
theorem d_TM_everyone_9 : decode prog_12_method_9_code 9 = .ok (.isub, 1) := by decide +kernel
theorem d_TM_everyone_10 : decode prog_12_method_9_code 10 = .ok (.ireturn, 1) := by decide +kernel
theorem d_TM_two_0 : decode prog_12_method_107_code 0 = .ok (.aload_n 0, 1) := by decide +kernel
theorem d_TM_two_1 : decode prog_12_method_107_code 1 = .ok (.iload_n 1, 1) := by decide +kernel
theorem d_TM_two_2 : decode prog_12_method_107_code 2 = .ok (.invokevirtual 311, 3) := by decide +kernel
theorem d_TM_two_5 : decode prog_12_method_107_code 5 = .ok (.ifCond .eq 20, 3) := by decide +kernel
theorem d_TM_two_8 : decode prog_12_method_107_code 8 = .ok (.aload_n 0, 1) := by decide +kernel
theorem d_TM_two_9 : decode prog_12_method_107_code 9 = .ok (.iload_n 2, 1) := by decide +kernel
theorem d_TM_two_10 : decode prog_12_method_107_code 10 = .ok (.invokevirtual 311, 3) := by decide +kernel
theorem d_TM_two_13 : decode prog_12_method_107_code 13 = .ok (.ifCond .eq 12, 3) := by decide +kernel
theorem d_TM_two_16 : decode prog_12_method_107_code 16 = .ok (.iload_n 3, 1) := by decide +kernel
theorem d_TM_two_17 : decode prog_12_method_107_code 17 = .ok (.iconst 0, 1) := by decide +kernel
theorem d_TM_two_18 : decode prog_12_method_107_code 18 = .ok (.iconst 2, 1) := by decide +kernel
theorem d_TM_two_19 : decode prog_12_method_107_code 19 = .ok (.invokestatic 69, 3) := by decide +kernel
theorem d_TM_two_22 : decode prog_12_method_107_code 22 = .ok (.ifCond .ne 5, 3) := by decide +kernel
theorem d_TM_two_25 : decode prog_12_method_107_code 25 = .ok (.iconst (-1), 1) := by decide +kernel
theorem d_TM_two_26 : decode prog_12_method_107_code 26 = .ok (.ireturn, 1) := by decide +kernel
theorem d_TM_two_27 : decode prog_12_method_107_code 27 = .ok (.aload_n 0, 1) := by decide +kernel
theorem d_TM_two_28 : decode prog_12_method_107_code 28 = .ok (.iload_n 1, 1) := by decide +kernel
theorem d_TM_two_29 : decode prog_12_method_107_code 29 = .ok (.invokevirtual 347, 3) := by decide +kernel
theorem d_TM_two_32 : decode prog_12_method_107_code 32 = .ok (.istore 4, 2) := by decide +kernel
theorem d_TM_two_34 : decode prog_12_method_107_code 34 = .ok (.aload_n 0, 1) := by decide +kernel
theorem d_TM_two_35 : decode prog_12_method_107_code 35 = .ok (.iload_n 2, 1) := by decide +kernel
theorem d_TM_two_36 : decode prog_12_method_107_code 36 = .ok (.invokevirtual 347, 3) := by decide +kernel
theorem d_TM_two_39 : decode prog_12_method_107_code 39 = .ok (.istore 5, 2) := by decide +kernel
theorem d_TM_two_41 : decode prog_12_method_107_code 41 = .ok (.ldc_w 377, 3) := by decide +kernel
theorem d_TM_two_44 : decode prog_12_method_107_code 44 = .ok (.istore 6, 2) := by decide +kernel
theorem d_TM_two_46 : decode prog_12_method_107_code 46 = .ok (.iconst 0, 1) := by decide +kernel
theorem d_TM_two_47 : decode prog_12_method_107_code 47 = .ok (.istore 7, 2) := by decide +kernel
theorem d_TM_two_49 : decode prog_12_method_107_code 49 = .ok (.iconst 0, 1) := by decide +kernel
theorem d_TM_two_50 : decode prog_12_method_107_code 50 = .ok (.istore 8, 2) := by decide +kernel
theorem d_TM_two_52 : decode prog_12_method_107_code 52 = .ok (.iconst 0, 1) := by decide +kernel
theorem d_TM_two_53 : decode prog_12_method_107_code 53 = .ok (.istore 9, 2) := by decide +kernel
theorem d_TM_two_55 : decode prog_12_method_107_code 55 = .ok (.iload 9, 2) := by decide +kernel
theorem d_TM_two_57 : decode prog_12_method_107_code 57 = .ok (.aload_n 0, 1) := by decide +kernel
theorem d_TM_two_58 : decode prog_12_method_107_code 58 = .ok (.invokevirtual 374, 3) := by decide +kernel
theorem d_TM_two_61 : decode prog_12_method_107_code 61 = .ok (.if_icmp .gt 83, 3) := by decide +kernel
theorem d_TM_two_64 : decode prog_12_method_107_code 64 = .ok (.iload 4, 2) := by decide +kernel
theorem d_TM_two_66 : decode prog_12_method_107_code 66 = .ok (.iload 9, 2) := by decide +kernel
theorem d_TM_two_68 : decode prog_12_method_107_code 68 = .ok (.iand, 1) := by decide +kernel
theorem d_TM_two_69 : decode prog_12_method_107_code 69 = .ok (.iload 5, 2) := by decide +kernel
theorem d_TM_two_71 : decode prog_12_method_107_code 71 = .ok (.iload 9, 2) := by decide +kernel
theorem d_TM_two_73 : decode prog_12_method_107_code 73 = .ok (.iconst (-1), 1) := by decide +kernel
theorem d_TM_two_74 : decode prog_12_method_107_code 74 = .ok (.ixor, 1) := by decide +kernel
theorem d_TM_two_75 : decode prog_12_method_107_code 75 = .ok (.iand, 1) := by decide +kernel
theorem d_TM_two_76 : decode prog_12_method_107_code 76 = .ok (.ior, 1) := by decide +kernel
theorem d_TM_two_77 : decode prog_12_method_107_code 77 = .ok (.invokestatic 267, 3) := by decide +kernel
theorem d_TM_two_80 : decode prog_12_method_107_code 80 = .ok (.istore 10, 2) := by decide +kernel
theorem d_TM_two_82 : decode prog_12_method_107_code 82 = .ok (.iload 10, 2) := by decide +kernel
theorem d_TM_two_84 : decode prog_12_method_107_code 84 = .ok (.iload 6, 2) := by decide +kernel
theorem d_TM_two_86 : decode prog_12_method_107_code 86 = .ok (.if_icmp .ge 8, 3) := by decide +kernel
theorem d_TM_two_89 : decode prog_12_method_107_code 89 = .ok (.iload 10, 2) := by decide +kernel
theorem d_TM_two_91 : decode prog_12_method_107_code 91 = .ok (.goto 5, 3) := by decide +kernel
theorem d_TM_two_94 : decode prog_12_method_107_code 94 = .ok (.iload 6, 2) := by decide +kernel
theorem d_TM_two_96 : decode prog_12_method_107_code 96 = .ok (.istore 6, 2) := by decide +kernel
theorem d_TM_two_98 : decode prog_12_method_107_code 98 = .ok (.iload 10, 2) := by decide +kernel
theorem d_TM_two_100 : decode prog_12_method_107_code 100 = .ok (.iload 7, 2) := by decide +kernel
theorem d_TM_two_102 : decode prog_12_method_107_code 102 = .ok (.if_icmp .le 8, 3) := by decide +kernel
theorem d_TM_two_105 : decode prog_12_method_107_code 105 = .ok (.iload 10, 2) := by decide +kernel
theorem d_TM_two_107 : decode prog_12_method_107_code 107 = .ok (.goto 5, 3) := by decide +kernel
theorem d_TM_two_110 : decode prog_12_method_107_code 110 = .ok (.iload 7, 2) := by decide +kernel
theorem d_TM_two_112 : decode prog_12_method_107_code 112 = .ok (.istore 7, 2) := by decide +kernel
theorem d_TM_two_114 : decode prog_12_method_107_code 114 = .ok (.iload 8, 2) := by decide +kernel
theorem d_TM_two_116 : decode prog_12_method_107_code 116 = .ok (.iload 9, 2) := by decide +kernel
theorem d_TM_two_118 : decode prog_12_method_107_code 118 = .ok (.iload 4, 2) := by decide +kernel
theorem d_TM_two_120 : decode prog_12_method_107_code 120 = .ok (.iload 5, 2) := by decide +kernel
theorem d_TM_two_122 : decode prog_12_method_107_code 122 = .ok (.iload_n 1, 1) := by decide +kernel
theorem d_TM_two_123 : decode prog_12_method_107_code 123 = .ok (.iload_n 2, 1) := by decide +kernel
theorem d_TM_two_124 : decode prog_12_method_107_code 124 = .ok (.invokestatic 378, 3) := by decide +kernel
theorem d_TM_two_127 : decode prog_12_method_107_code 127 = .ok (.ifCond .eq 7, 3) := by decide +kernel
theorem d_TM_two_130 : decode prog_12_method_107_code 130 = .ok (.iconst 1, 1) := by decide +kernel
theorem d_TM_two_131 : decode prog_12_method_107_code 131 = .ok (.goto 4, 3) := by decide +kernel
theorem d_TM_two_134 : decode prog_12_method_107_code 134 = .ok (.iconst 0, 1) := by decide +kernel
theorem d_TM_two_135 : decode prog_12_method_107_code 135 = .ok (.iadd, 1) := by decide +kernel
theorem d_TM_two_136 : decode prog_12_method_107_code 136 = .ok (.istore 8, 2) := by decide +kernel
theorem d_TM_two_138 : decode prog_12_method_107_code 138 = .ok (.iinc 9 1, 3) := by decide +kernel
theorem d_TM_two_141 : decode prog_12_method_107_code 141 = .ok (.goto (-86), 3) := by decide +kernel
theorem d_TM_two_144 : decode prog_12_method_107_code 144 = .ok (.iload_n 3, 1) := by decide +kernel
theorem d_TM_two_145 : decode prog_12_method_107_code 145 = .ok (.ifCond .ne 8, 3) := by decide +kernel
theorem d_TM_two_148 : decode prog_12_method_107_code 148 = .ok (.iload 6, 2) := by decide +kernel
theorem d_TM_two_150 : decode prog_12_method_107_code 150 = .ok (.goto 15, 3) := by decide +kernel
theorem d_TM_two_153 : decode prog_12_method_107_code 153 = .ok (.iload_n 3, 1) := by decide +kernel
theorem d_TM_two_154 : decode prog_12_method_107_code 154 = .ok (.iconst 1, 1) := by decide +kernel
theorem d_TM_two_155 : decode prog_12_method_107_code 155 = .ok (.if_icmp .ne 8, 3) := by decide +kernel
theorem d_TM_two_158 : decode prog_12_method_107_code 158 = .ok (.iload 7, 2) := by decide +kernel
theorem d_TM_two_160 : decode prog_12_method_107_code 160 = .ok (.goto 5, 3) := by decide +kernel
theorem d_TM_two_163 : decode prog_12_method_107_code 163 = .ok (.iload 8, 2) := by decide +kernel
theorem d_TM_two_165 : decode prog_12_method_107_code 165 = .ok (.ireturn, 1) := by decide +kernel
theorem d_TM_areTrue_0 : decode prog_12_method_106_code 0 = .ok (.iload_n 1, 1) := by decide +kernel
theorem d_TM_areTrue_1 : decode prog_12_method_106_code 1 = .ok (.iload_n 0, 1) := by decide +kernel
theorem d_TM_areTrue_2 : decode prog_12_method_106_code 2 = .ok (.iand, 1) := by decide +kernel
theorem d_TM_areTrue_3 : decode prog_12_method_106_code 3 = .ok (.invokestatic 267, 3) := by decide +kernel
theorem d_TM_areTrue_6 : decode prog_12_method_106_code 6 = .ok (.iload_n 3, 1) := by decide +kernel
theorem d_TM_areTrue_7 : decode prog_12_method_106_code 7 = .ok (.if_icmp .ne 20, 3) := by decide +kernel
theorem d_TM_areTrue_10 : decode prog_12_method_106_code 10 = .ok (.iload_n 2, 1) := by decide +kernel
theorem d_TM_areTrue_11 : decode prog_12_method_106_code 11 = .ok (.iload_n 0, 1) := by decide +kernel
theorem d_TM_areTrue_12 : decode prog_12_method_106_code 12 = .ok (.iconst (-1), 1) := by decide +kernel
theorem d_TM_areTrue_13 : decode prog_12_method_106_code 13 = .ok (.ixor, 1) := by decide +kernel
theorem d_TM_areTrue_14 : decode prog_12_method_106_code 14 = .ok (.iand, 1) := by decide +kernel
theorem d_TM_areTrue_15 : decode prog_12_method_106_code 15 = .ok (.invokestatic 267, 3) := by decide +kernel
theorem d_TM_areTrue_18 : decode prog_12_method_106_code 18 = .ok (.iload 4, 2) := by decide +kernel
theorem d_TM_areTrue_20 : decode prog_12_method_106_code 20 = .ok (.if_icmp .ne 7, 3) := by decide +kernel
theorem d_TM_areTrue_23 : decode prog_12_method_106_code 23 = .ok (.iconst 1, 1) := by decide +kernel
theorem d_TM_areTrue_24 : decode prog_12_method_106_code 24 = .ok (.goto 4, 3) := by decide +kernel
theorem d_TM_areTrue_27 : decode prog_12_method_106_code 27 = .ok (.iconst 0, 1) := by decide +kernel
theorem d_TM_areTrue_28 : decode prog_12_method_106_code 28 = .ok (.ireturn, 1) := by decide +kernel
theorem d_TM_split_0 : decode prog_12_method_108_code 0 = .ok (.aload_n 0, 1) := by decide +kernel
theorem d_TM_split_1 : decode prog_12_method_108_code 1 = .ok (.iload_n 1, 1) := by decide +kernel
theorem d_TM_split_2 : decode prog_12_method_108_code 2 = .ok (.invokevirtual 311, 3) := by decide +kernel
theorem d_TM_split_5 : decode prog_12_method_108_code 5 = .ok (.ifCond .eq 11, 3) := by decide +kernel
theorem d_TM_split_8 : decode prog_12_method_108_code 8 = .ok (.aload_n 0, 1) := by decide +kernel
theorem d_TM_split_9 : decode prog_12_method_108_code 9 = .ok (.iload_n 2, 1) := by decide +kernel
theorem d_TM_split_10 : decode prog_12_method_108_code 10 = .ok (.invokevirtual 311, 3) := by decide +kernel
theorem d_TM_split_13 : decode prog_12_method_108_code 13 = .ok (.ifCond .ne 5, 3) := by decide +kernel
theorem d_TM_split_16 : decode prog_12_method_108_code 16 = .ok (.iconst (-1), 1) := by decide +kernel
theorem d_TM_split_17 : decode prog_12_method_108_code 17 = .ok (.ireturn, 1) := by decide +kernel
theorem d_TM_split_18 : decode prog_12_method_108_code 18 = .ok (.aload_n 0, 1) := by decide +kernel
theorem d_TM_split_19 : decode prog_12_method_108_code 19 = .ok (.iload_n 1, 1) := by decide +kernel
theorem d_TM_split_20 : decode prog_12_method_108_code 20 = .ok (.invokevirtual 347, 3) := by decide +kernel
theorem d_TM_split_23 : decode prog_12_method_108_code 23 = .ok (.istore_n 3, 1) := by decide +kernel
theorem d_TM_split_24 : decode prog_12_method_108_code 24 = .ok (.aload_n 0, 1) := by decide +kernel
theorem d_TM_split_25 : decode prog_12_method_108_code 25 = .ok (.iload_n 2, 1) := by decide +kernel
theorem d_TM_split_26 : decode prog_12_method_108_code 26 = .ok (.invokevirtual 347, 3) := by decide +kernel
theorem d_TM_split_29 : decode prog_12_method_108_code 29 = .ok (.istore 4, 2) := by decide +kernel
theorem d_TM_split_31 : decode prog_12_method_108_code 31 = .ok (.iconst 0, 1) := by decide +kernel
theorem d_TM_split_32 : decode prog_12_method_108_code 32 = .ok (.istore 5, 2) := by decide +kernel
theorem d_TM_split_34 : decode prog_12_method_108_code 34 = .ok (.iload 5, 2) := by decide +kernel
theorem d_TM_split_36 : decode prog_12_method_108_code 36 = .ok (.aload_n 0, 1) := by decide +kernel
theorem d_TM_split_37 : decode prog_12_method_108_code 37 = .ok (.invokevirtual 374, 3) := by decide +kernel
theorem d_TM_split_40 : decode prog_12_method_108_code 40 = .ok (.if_icmp .gt 25, 3) := by decide +kernel
theorem d_TM_split_43 : decode prog_12_method_108_code 43 = .ok (.iload 5, 2) := by decide +kernel
theorem d_TM_split_45 : decode prog_12_method_108_code 45 = .ok (.iload_n 3, 1) := by decide +kernel
theorem d_TM_split_46 : decode prog_12_method_108_code 46 = .ok (.iload 4, 2) := by decide +kernel
theorem d_TM_split_48 : decode prog_12_method_108_code 48 = .ok (.iload_n 1, 1) := by decide +kernel
theorem d_TM_split_49 : decode prog_12_method_108_code 49 = .ok (.iload_n 2, 1) := by decide +kernel
theorem d_TM_split_50 : decode prog_12_method_108_code 50 = .ok (.invokestatic 378, 3) := by decide +kernel
theorem d_TM_split_53 : decode prog_12_method_108_code 53 = .ok (.ifCond .eq 6, 3) := by decide +kernel
theorem d_TM_split_56 : decode prog_12_method_108_code 56 = .ok (.iload 5, 2) := by decide +kernel
theorem d_TM_split_58 : decode prog_12_method_108_code 58 = .ok (.ireturn, 1) := by decide +kernel
theorem d_TM_split_59 : decode prog_12_method_108_code 59 = .ok (.iinc 5 1, 3) := by decide +kernel
theorem d_TM_split_62 : decode prog_12_method_108_code 62 = .ok (.goto (-28), 3) := by decide +kernel
theorem d_TM_split_65 : decode prog_12_method_108_code 65 = .ok (.iconst (-1), 1) := by decide +kernel
theorem d_TM_split_66 : decode prog_12_method_108_code 66 = .ok (.ireturn, 1) := by decide +kernel
theorem d_TM_mind_0 : decode prog_12_method_109_code 0 = .ok (.aload_n 0, 1) := by decide +kernel
theorem d_TM_mind_1 : decode prog_12_method_109_code 1 = .ok (.iload_n 1, 1) := by decide +kernel
theorem d_TM_mind_2 : decode prog_12_method_109_code 2 = .ok (.invokevirtual 311, 3) := by decide +kernel
theorem d_TM_mind_5 : decode prog_12_method_109_code 5 = .ok (.ifCond .eq 25, 3) := by decide +kernel
theorem d_TM_mind_8 : decode prog_12_method_109_code 8 = .ok (.aload_n 0, 1) := by decide +kernel
theorem d_TM_mind_9 : decode prog_12_method_109_code 9 = .ok (.iload_n 2, 1) := by decide +kernel
theorem d_TM_mind_10 : decode prog_12_method_109_code 10 = .ok (.invokevirtual 311, 3) := by decide +kernel
theorem d_TM_mind_13 : decode prog_12_method_109_code 13 = .ok (.ifCond .eq 17, 3) := by decide +kernel
theorem d_TM_mind_16 : decode prog_12_method_109_code 16 = .ok (.aload_n 0, 1) := by decide +kernel
theorem d_TM_mind_17 : decode prog_12_method_109_code 17 = .ok (.iload_n 1, 1) := by decide +kernel
theorem d_TM_mind_18 : decode prog_12_method_109_code 18 = .ok (.invokevirtual 347, 3) := by decide +kernel
theorem d_TM_mind_21 : decode prog_12_method_109_code 21 = .ok (.aload_n 0, 1) := by decide +kernel
theorem d_TM_mind_22 : decode prog_12_method_109_code 22 = .ok (.iload_n 2, 1) := by decide +kernel
theorem d_TM_mind_23 : decode prog_12_method_109_code 23 = .ok (.invokevirtual 347, 3) := by decide +kernel
theorem d_TM_mind_26 : decode prog_12_method_109_code 26 = .ok (.ixor, 1) := by decide +kernel
theorem d_TM_mind_27 : decode prog_12_method_109_code 27 = .ok (.goto 4, 3) := by decide +kernel
theorem d_TM_mind_30 : decode prog_12_method_109_code 30 = .ok (.iconst (-1), 1) := by decide +kernel
theorem d_TM_mind_31 : decode prog_12_method_109_code 31 = .ok (.ireturn, 1) := by decide +kernel
theorem d_TM_unasked_0 : decode prog_12_method_112_code 0 = .ok (.iload_n 1, 1) := by decide +kernel
theorem d_TM_unasked_1 : decode prog_12_method_112_code 1 = .ok (.ifCond .eq 10, 3) := by decide +kernel
theorem d_TM_unasked_4 : decode prog_12_method_112_code 4 = .ok (.aload_n 0, 1) := by decide +kernel
theorem d_TM_unasked_5 : decode prog_12_method_112_code 5 = .ok (.invokevirtual 382, 3) := by decide +kernel
theorem d_TM_unasked_8 : decode prog_12_method_112_code 8 = .ok (.goto 7, 3) := by decide +kernel
theorem d_TM_unasked_11 : decode prog_12_method_112_code 11 = .ok (.aload_n 0, 1) := by decide +kernel
theorem d_TM_unasked_12 : decode prog_12_method_112_code 12 = .ok (.invokevirtual 385, 3) := by decide +kernel
theorem d_TM_unasked_15 : decode prog_12_method_112_code 15 = .ok (.invokestatic 267, 3) := by decide +kernel
theorem d_TM_unasked_18 : decode prog_12_method_112_code 18 = .ok (.ireturn, 1) := by decide +kernel
theorem d_TM_yesToAny_0 : decode prog_12_method_111_code 0 = .ok (.iconst 0, 1) := by decide +kernel
theorem d_TM_yesToAny_1 : decode prog_12_method_111_code 1 = .ok (.istore_n 1, 1) := by decide +kernel
theorem d_TM_yesToAny_2 : decode prog_12_method_111_code 2 = .ok (.iconst 0, 1) := by decide +kernel
theorem d_TM_yesToAny_3 : decode prog_12_method_111_code 3 = .ok (.istore_n 2, 1) := by decide +kernel
theorem d_TM_yesToAny_4 : decode prog_12_method_111_code 4 = .ok (.iload_n 2, 1) := by decide +kernel
theorem d_TM_yesToAny_5 : decode prog_12_method_111_code 5 = .ok (.aload_n 0, 1) := by decide +kernel
theorem d_TM_yesToAny_6 : decode prog_12_method_111_code 6 = .ok (.getfield 7, 3) := by decide +kernel
theorem d_TM_yesToAny_9 : decode prog_12_method_111_code 9 = .ok (.iconst 0, 1) := by decide +kernel
theorem d_TM_yesToAny_10 : decode prog_12_method_111_code 10 = .ok (.iaload, 1) := by decide +kernel
theorem d_TM_yesToAny_11 : decode prog_12_method_111_code 11 = .ok (.if_icmp .gt 17, 3) := by decide +kernel
theorem d_TM_yesToAny_14 : decode prog_12_method_111_code 14 = .ok (.iload_n 1, 1) := by decide +kernel
theorem d_TM_yesToAny_15 : decode prog_12_method_111_code 15 = .ok (.aload_n 0, 1) := by decide +kernel
theorem d_TM_yesToAny_16 : decode prog_12_method_111_code 16 = .ok (.iload_n 2, 1) := by decide +kernel
theorem d_TM_yesToAny_17 : decode prog_12_method_111_code 17 = .ok (.invokevirtual 347, 3) := by decide +kernel
theorem d_TM_yesToAny_20 : decode prog_12_method_111_code 20 = .ok (.ior, 1) := by decide +kernel
theorem d_TM_yesToAny_21 : decode prog_12_method_111_code 21 = .ok (.istore_n 1, 1) := by decide +kernel
theorem d_TM_yesToAny_22 : decode prog_12_method_111_code 22 = .ok (.iinc 2 1, 3) := by decide +kernel
theorem d_TM_yesToAny_25 : decode prog_12_method_111_code 25 = .ok (.goto (-21), 3) := by decide +kernel
theorem d_TM_yesToAny_28 : decode prog_12_method_111_code 28 = .ok (.iload_n 1, 1) := by decide +kernel
theorem d_TM_yesToAny_29 : decode prog_12_method_111_code 29 = .ok (.ireturn, 1) := by decide +kernel
theorem d_TM_yesToAll_0 : decode prog_12_method_110_code 0 = .ok (.aload_n 0, 1) := by decide +kernel
theorem d_TM_yesToAll_1 : decode prog_12_method_110_code 1 = .ok (.invokevirtual 374, 3) := by decide +kernel
theorem d_TM_yesToAll_4 : decode prog_12_method_110_code 4 = .ok (.istore_n 1, 1) := by decide +kernel
theorem d_TM_yesToAll_5 : decode prog_12_method_110_code 5 = .ok (.iconst 0, 1) := by decide +kernel
theorem d_TM_yesToAll_6 : decode prog_12_method_110_code 6 = .ok (.istore_n 2, 1) := by decide +kernel
theorem d_TM_yesToAll_7 : decode prog_12_method_110_code 7 = .ok (.iload_n 2, 1) := by decide +kernel
theorem d_TM_yesToAll_8 : decode prog_12_method_110_code 8 = .ok (.aload_n 0, 1) := by decide +kernel
theorem d_TM_yesToAll_9 : decode prog_12_method_110_code 9 = .ok (.getfield 7, 3) := by decide +kernel
theorem d_TM_yesToAll_12 : decode prog_12_method_110_code 12 = .ok (.iconst 0, 1) := by decide +kernel
theorem d_TM_yesToAll_13 : decode prog_12_method_110_code 13 = .ok (.iaload, 1) := by decide +kernel
theorem d_TM_yesToAll_14 : decode prog_12_method_110_code 14 = .ok (.if_icmp .gt 17, 3) := by decide +kernel
theorem d_TM_yesToAll_17 : decode prog_12_method_110_code 17 = .ok (.iload_n 1, 1) := by decide +kernel
theorem d_TM_yesToAll_18 : decode prog_12_method_110_code 18 = .ok (.aload_n 0, 1) := by decide +kernel
theorem d_TM_yesToAll_19 : decode prog_12_method_110_code 19 = .ok (.iload_n 2, 1) := by decide +kernel
theorem d_TM_yesToAll_20 : decode prog_12_method_110_code 20 = .ok (.invokevirtual 347, 3) := by decide +kernel
theorem d_TM_yesToAll_23 : decode prog_12_method_110_code 23 = .ok (.iand, 1) := by decide +kernel
theorem d_TM_yesToAll_24 : decode prog_12_method_110_code 24 = .ok (.istore_n 1, 1) := by decide +kernel
theorem d_TM_yesToAll_25 : decode prog_12_method_110_code 25 = .ok (.iinc 2 1, 3) := by decide +kernel
theorem d_TM_yesToAll_28 : decode prog_12_method_110_code 28 = .ok (.goto (-21), 3) := by decide +kernel
theorem d_TM_yesToAll_31 : decode prog_12_method_110_code 31 = .ok (.iload_n 1, 1) := by decide +kernel
theorem d_TM_yesToAll_32 : decode prog_12_method_110_code 32 = .ok (.ireturn, 1) := by decide +kernel
theorem d_TM_honest_0 : decode prog_12_method_113_code 0 = .ok (.aload_n 0, 1) := by decide +kernel
theorem d_TM_honest_1 : decode prog_12_method_113_code 1 = .ok (.invokevirtual 374, 3) := by decide +kernel
theorem d_TM_honest_4 : decode prog_12_method_113_code 4 = .ok (.aload_n 0, 1) := by decide +kernel
theorem d_TM_honest_5 : decode prog_12_method_113_code 5 = .ok (.invokevirtual 382, 3) := by decide +kernel
theorem d_TM_honest_8 : decode prog_12_method_113_code 8 = .ok (.aload_n 0, 1) := by decide +kernel
theorem d_TM_honest_9 : decode prog_12_method_113_code 9 = .ok (.invokevirtual 385, 3) := by decide +kernel
theorem d_TM_honest_12 : decode prog_12_method_113_code 12 = .ok (.iconst (-1), 1) := by decide +kernel
theorem d_TM_honest_13 : decode prog_12_method_113_code 13 = .ok (.ixor, 1) := by decide +kernel
theorem d_TM_honest_14 : decode prog_12_method_113_code 14 = .ok (.iand, 1) := by decide +kernel
theorem d_TM_honest_15 : decode prog_12_method_113_code 15 = .ok (.iconst (-1), 1) := by decide +kernel
theorem d_TM_honest_16 : decode prog_12_method_113_code 16 = .ok (.ixor, 1) := by decide +kernel
theorem d_TM_honest_17 : decode prog_12_method_113_code 17 = .ok (.iand, 1) := by decide +kernel
theorem d_TM_honest_18 : decode prog_12_method_113_code 18 = .ok (.ireturn, 1) := by decide +kernel
theorem d_TM_alike_0 : decode prog_12_method_115_code 0 = .ok (.aload_n 0, 1) := by decide +kernel
theorem d_TM_alike_1 : decode prog_12_method_115_code 1 = .ok (.iload_n 1, 1) := by decide +kernel
theorem d_TM_alike_2 : decode prog_12_method_115_code 2 = .ok (.invokevirtual 73, 3) := by decide +kernel
theorem d_TM_alike_5 : decode prog_12_method_115_code 5 = .ok (.ifCond .eq 20, 3) := by decide +kernel
theorem d_TM_alike_8 : decode prog_12_method_115_code 8 = .ok (.aload_n 0, 1) := by decide +kernel
theorem d_TM_alike_9 : decode prog_12_method_115_code 9 = .ok (.iload_n 2, 1) := by decide +kernel
theorem d_TM_alike_10 : decode prog_12_method_115_code 10 = .ok (.invokevirtual 73, 3) := by decide +kernel
theorem d_TM_alike_13 : decode prog_12_method_115_code 13 = .ok (.ifCond .eq 12, 3) := by decide +kernel
theorem d_TM_alike_16 : decode prog_12_method_115_code 16 = .ok (.aload_n 0, 1) := by decide +kernel
theorem d_TM_alike_17 : decode prog_12_method_115_code 17 = .ok (.iload_n 1, 1) := by decide +kernel
theorem d_TM_alike_18 : decode prog_12_method_115_code 18 = .ok (.iload_n 2, 1) := by decide +kernel
theorem d_TM_alike_19 : decode prog_12_method_115_code 19 = .ok (.invokevirtual 388, 3) := by decide +kernel
theorem d_TM_alike_22 : decode prog_12_method_115_code 22 = .ok (.goto 4, 3) := by decide +kernel
theorem d_TM_alike_25 : decode prog_12_method_115_code 25 = .ok (.iconst (-1), 1) := by decide +kernel
theorem d_TM_alike_26 : decode prog_12_method_115_code 26 = .ok (.ireturn, 1) := by decide +kernel
theorem d_TM_alikeOf_0 : decode prog_12_method_114_code 0 = .ok (.iconst 0, 1) := by decide +kernel
theorem d_TM_alikeOf_1 : decode prog_12_method_114_code 1 = .ok (.istore_n 3, 1) := by decide +kernel
theorem d_TM_alikeOf_2 : decode prog_12_method_114_code 2 = .ok (.iconst 0, 1) := by decide +kernel
theorem d_TM_alikeOf_3 : decode prog_12_method_114_code 3 = .ok (.istore 4, 2) := by decide +kernel
theorem d_TM_alikeOf_5 : decode prog_12_method_114_code 5 = .ok (.iload 4, 2) := by decide +kernel
theorem d_TM_alikeOf_7 : decode prog_12_method_114_code 7 = .ok (.aload_n 0, 1) := by decide +kernel
theorem d_TM_alikeOf_8 : decode prog_12_method_114_code 8 = .ok (.getfield 7, 3) := by decide +kernel
theorem d_TM_alikeOf_11 : decode prog_12_method_114_code 11 = .ok (.iconst 0, 1) := by decide +kernel
theorem d_TM_alikeOf_12 : decode prog_12_method_114_code 12 = .ok (.iaload, 1) := by decide +kernel
theorem d_TM_alikeOf_13 : decode prog_12_method_114_code 13 = .ok (.if_icmp .gt 34, 3) := by decide +kernel
theorem d_TM_alikeOf_16 : decode prog_12_method_114_code 16 = .ok (.iload_n 3, 1) := by decide +kernel
theorem d_TM_alikeOf_17 : decode prog_12_method_114_code 17 = .ok (.aload_n 0, 1) := by decide +kernel
theorem d_TM_alikeOf_18 : decode prog_12_method_114_code 18 = .ok (.iload_n 1, 1) := by decide +kernel
theorem d_TM_alikeOf_19 : decode prog_12_method_114_code 19 = .ok (.iload 4, 2) := by decide +kernel
theorem d_TM_alikeOf_21 : decode prog_12_method_114_code 21 = .ok (.invokevirtual 299, 3) := by decide +kernel
theorem d_TM_alikeOf_24 : decode prog_12_method_114_code 24 = .ok (.aload_n 0, 1) := by decide +kernel
theorem d_TM_alikeOf_25 : decode prog_12_method_114_code 25 = .ok (.iload_n 2, 1) := by decide +kernel
theorem d_TM_alikeOf_26 : decode prog_12_method_114_code 26 = .ok (.iload 4, 2) := by decide +kernel
theorem d_TM_alikeOf_28 : decode prog_12_method_114_code 28 = .ok (.invokevirtual 299, 3) := by decide +kernel
theorem d_TM_alikeOf_31 : decode prog_12_method_114_code 31 = .ok (.if_icmp .ne 7, 3) := by decide +kernel
theorem d_TM_alikeOf_34 : decode prog_12_method_114_code 34 = .ok (.iconst 1, 1) := by decide +kernel
theorem d_TM_alikeOf_35 : decode prog_12_method_114_code 35 = .ok (.goto 4, 3) := by decide +kernel
theorem d_TM_alikeOf_38 : decode prog_12_method_114_code 38 = .ok (.iconst 0, 1) := by decide +kernel
theorem d_TM_alikeOf_39 : decode prog_12_method_114_code 39 = .ok (.iadd, 1) := by decide +kernel
theorem d_TM_alikeOf_40 : decode prog_12_method_114_code 40 = .ok (.istore_n 3, 1) := by decide +kernel
theorem d_TM_alikeOf_41 : decode prog_12_method_114_code 41 = .ok (.iinc 4 1, 3) := by decide +kernel
theorem d_TM_alikeOf_44 : decode prog_12_method_114_code 44 = .ok (.goto (-39), 3) := by decide +kernel
theorem d_TM_alikeOf_47 : decode prog_12_method_114_code 47 = .ok (.iload_n 3, 1) := by decide +kernel
theorem d_TM_alikeOf_48 : decode prog_12_method_114_code 48 = .ok (.ireturn, 1) := by decide +kernel
theorem d_TM_pair_0 : decode prog_12_method_116_code 0 = .ok (.iconst (-1), 1) := by decide +kernel
theorem d_TM_pair_1 : decode prog_12_method_116_code 1 = .ok (.istore_n 2, 1) := by decide +kernel
theorem d_TM_pair_2 : decode prog_12_method_116_code 2 = .ok (.iconst (-1), 1) := by decide +kernel
theorem d_TM_pair_3 : decode prog_12_method_116_code 3 = .ok (.istore_n 3, 1) := by decide +kernel
theorem d_TM_pair_4 : decode prog_12_method_116_code 4 = .ok (.iconst 0, 1) := by decide +kernel
theorem d_TM_pair_5 : decode prog_12_method_116_code 5 = .ok (.istore 4, 2) := by decide +kernel
theorem d_TM_pair_7 : decode prog_12_method_116_code 7 = .ok (.iload 4, 2) := by decide +kernel
theorem d_TM_pair_9 : decode prog_12_method_116_code 9 = .ok (.aload_n 0, 1) := by decide +kernel
theorem d_TM_pair_10 : decode prog_12_method_116_code 10 = .ok (.getfield 7, 3) := by decide +kernel
theorem d_TM_pair_13 : decode prog_12_method_116_code 13 = .ok (.iconst 0, 1) := by decide +kernel
theorem d_TM_pair_14 : decode prog_12_method_116_code 14 = .ok (.iaload, 1) := by decide +kernel
theorem d_TM_pair_15 : decode prog_12_method_116_code 15 = .ok (.if_icmp .ge 65, 3) := by decide +kernel
theorem d_TM_pair_18 : decode prog_12_method_116_code 18 = .ok (.iload 4, 2) := by decide +kernel
theorem d_TM_pair_20 : decode prog_12_method_116_code 20 = .ok (.iconst 1, 1) := by decide +kernel
theorem d_TM_pair_21 : decode prog_12_method_116_code 21 = .ok (.iadd, 1) := by decide +kernel
theorem d_TM_pair_22 : decode prog_12_method_116_code 22 = .ok (.istore 5, 2) := by decide +kernel
theorem d_TM_pair_24 : decode prog_12_method_116_code 24 = .ok (.iload 5, 2) := by decide +kernel
theorem d_TM_pair_26 : decode prog_12_method_116_code 26 = .ok (.aload_n 0, 1) := by decide +kernel
theorem d_TM_pair_27 : decode prog_12_method_116_code 27 = .ok (.getfield 7, 3) := by decide +kernel
theorem d_TM_pair_30 : decode prog_12_method_116_code 30 = .ok (.iconst 0, 1) := by decide +kernel
theorem d_TM_pair_31 : decode prog_12_method_116_code 31 = .ok (.iaload, 1) := by decide +kernel
theorem d_TM_pair_32 : decode prog_12_method_116_code 32 = .ok (.if_icmp .ge 42, 3) := by decide +kernel
theorem d_TM_pair_35 : decode prog_12_method_116_code 35 = .ok (.aload_n 0, 1) := by decide +kernel
theorem d_TM_pair_36 : decode prog_12_method_116_code 36 = .ok (.iload 4, 2) := by decide +kernel
theorem d_TM_pair_38 : decode prog_12_method_116_code 38 = .ok (.iload 5, 2) := by decide +kernel
theorem d_TM_pair_40 : decode prog_12_method_116_code 40 = .ok (.invokevirtual 388, 3) := by decide +kernel
theorem d_TM_pair_43 : decode prog_12_method_116_code 43 = .ok (.iload_n 3, 1) := by decide +kernel
theorem d_TM_pair_44 : decode prog_12_method_116_code 44 = .ok (.if_icmp .gt 6, 3) := by decide +kernel
theorem d_TM_pair_47 : decode prog_12_method_116_code 47 = .ok (.goto 21, 3) := by decide +kernel
theorem d_TM_pair_50 : decode prog_12_method_116_code 50 = .ok (.aload_n 0, 1) := by decide +kernel
theorem d_TM_pair_51 : decode prog_12_method_116_code 51 = .ok (.iload 4, 2) := by decide +kernel
theorem d_TM_pair_53 : decode prog_12_method_116_code 53 = .ok (.iload 5, 2) := by decide +kernel
theorem d_TM_pair_55 : decode prog_12_method_116_code 55 = .ok (.invokevirtual 388, 3) := by decide +kernel
theorem d_TM_pair_58 : decode prog_12_method_116_code 58 = .ok (.istore_n 3, 1) := by decide +kernel
theorem d_TM_pair_59 : decode prog_12_method_116_code 59 = .ok (.bipush 8, 2) := by decide +kernel
theorem d_TM_pair_61 : decode prog_12_method_116_code 61 = .ok (.iload 4, 2) := by decide +kernel
theorem d_TM_pair_63 : decode prog_12_method_116_code 63 = .ok (.imul, 1) := by decide +kernel
theorem d_TM_pair_64 : decode prog_12_method_116_code 64 = .ok (.iload 5, 2) := by decide +kernel
theorem d_TM_pair_66 : decode prog_12_method_116_code 66 = .ok (.iadd, 1) := by decide +kernel
theorem d_TM_pair_67 : decode prog_12_method_116_code 67 = .ok (.istore_n 2, 1) := by decide +kernel
theorem d_TM_pair_68 : decode prog_12_method_116_code 68 = .ok (.iinc 5 1, 3) := by decide +kernel
theorem d_TM_pair_71 : decode prog_12_method_116_code 71 = .ok (.goto (-47), 3) := by decide +kernel
theorem d_TM_pair_74 : decode prog_12_method_116_code 74 = .ok (.iinc 4 1, 3) := by decide +kernel
theorem d_TM_pair_77 : decode prog_12_method_116_code 77 = .ok (.goto (-70), 3) := by decide +kernel
theorem d_TM_pair_80 : decode prog_12_method_116_code 80 = .ok (.iload_n 2, 1) := by decide +kernel
theorem d_TM_pair_81 : decode prog_12_method_116_code 81 = .ok (.iconst (-1), 1) := by decide +kernel
theorem d_TM_pair_82 : decode prog_12_method_116_code 82 = .ok (.if_icmp .ne 7, 3) := by decide +kernel
theorem d_TM_pair_85 : decode prog_12_method_116_code 85 = .ok (.iconst (-1), 1) := by decide +kernel
theorem d_TM_pair_86 : decode prog_12_method_116_code 86 = .ok (.goto 18, 3) := by decide +kernel
theorem d_TM_pair_89 : decode prog_12_method_116_code 89 = .ok (.iload_n 1, 1) := by decide +kernel
theorem d_TM_pair_90 : decode prog_12_method_116_code 90 = .ok (.ifCond .eq 10, 3) := by decide +kernel
theorem d_TM_pair_93 : decode prog_12_method_116_code 93 = .ok (.iload_n 2, 1) := by decide +kernel
theorem d_TM_pair_94 : decode prog_12_method_116_code 94 = .ok (.bipush 8, 2) := by decide +kernel
theorem d_TM_pair_96 : decode prog_12_method_116_code 96 = .ok (.irem, 1) := by decide +kernel
theorem d_TM_pair_97 : decode prog_12_method_116_code 97 = .ok (.goto 7, 3) := by decide +kernel
theorem d_TM_pair_100 : decode prog_12_method_116_code 100 = .ok (.iload_n 2, 1) := by decide +kernel
theorem d_TM_pair_101 : decode prog_12_method_116_code 101 = .ok (.bipush 8, 2) := by decide +kernel
theorem d_TM_pair_103 : decode prog_12_method_116_code 103 = .ok (.idiv, 1) := by decide +kernel
theorem d_TM_pair_104 : decode prog_12_method_116_code 104 = .ok (.ireturn, 1) := by decide +kernel
theorem d_TM_move_0 : decode prog_12_method_119_code 0 = .ok (.aload_n 0, 1) := by decide +kernel
theorem d_TM_move_1 : decode prog_12_method_119_code 1 = .ok (.iload_n 1, 1) := by decide +kernel
theorem d_TM_move_2 : decode prog_12_method_119_code 2 = .ok (.invokevirtual 73, 3) := by decide +kernel
theorem d_TM_move_5 : decode prog_12_method_119_code 5 = .ok (.ifCond .eq 20, 3) := by decide +kernel
theorem d_TM_move_8 : decode prog_12_method_119_code 8 = .ok (.aload_n 0, 1) := by decide +kernel
theorem d_TM_move_9 : decode prog_12_method_119_code 9 = .ok (.iload_n 2, 1) := by decide +kernel
theorem d_TM_move_10 : decode prog_12_method_119_code 10 = .ok (.invokevirtual 311, 3) := by decide +kernel
theorem d_TM_move_13 : decode prog_12_method_119_code 13 = .ok (.ifCond .eq 12, 3) := by decide +kernel
theorem d_TM_move_16 : decode prog_12_method_119_code 16 = .ok (.aload_n 0, 1) := by decide +kernel
theorem d_TM_move_17 : decode prog_12_method_119_code 17 = .ok (.iload_n 1, 1) := by decide +kernel
theorem d_TM_move_18 : decode prog_12_method_119_code 18 = .ok (.iload_n 2, 1) := by decide +kernel
theorem d_TM_move_19 : decode prog_12_method_119_code 19 = .ok (.invokevirtual 394, 3) := by decide +kernel
theorem d_TM_move_22 : decode prog_12_method_119_code 22 = .ok (.goto 4, 3) := by decide +kernel
theorem d_TM_move_25 : decode prog_12_method_119_code 25 = .ok (.iconst (-1), 1) := by decide +kernel
theorem d_TM_move_26 : decode prog_12_method_119_code 26 = .ok (.ireturn, 1) := by decide +kernel
theorem d_TM_moveOf_0 : decode prog_12_method_118_code 0 = .ok (.aload_n 0, 1) := by decide +kernel
theorem d_TM_moveOf_1 : decode prog_12_method_118_code 1 = .ok (.getfield 7, 3) := by decide +kernel
theorem d_TM_moveOf_4 : decode prog_12_method_118_code 4 = .ok (.bipush 10, 2) := by decide +kernel
theorem d_TM_moveOf_6 : decode prog_12_method_118_code 6 = .ok (.iload_n 1, 1) := by decide +kernel
theorem d_TM_moveOf_7 : decode prog_12_method_118_code 7 = .ok (.iadd, 1) := by decide +kernel
theorem d_TM_moveOf_8 : decode prog_12_method_118_code 8 = .ok (.iaload, 1) := by decide +kernel
theorem d_TM_moveOf_9 : decode prog_12_method_118_code 9 = .ok (.istore_n 3, 1) := by decide +kernel
theorem d_TM_moveOf_10 : decode prog_12_method_118_code 10 = .ok (.aload_n 0, 1) := by decide +kernel
theorem d_TM_moveOf_11 : decode prog_12_method_118_code 11 = .ok (.iload_n 1, 1) := by decide +kernel
theorem d_TM_moveOf_12 : decode prog_12_method_118_code 12 = .ok (.iload_n 2, 1) := by decide +kernel
theorem d_TM_moveOf_13 : decode prog_12_method_118_code 13 = .ok (.invokevirtual 299, 3) := by decide +kernel
theorem d_TM_moveOf_16 : decode prog_12_method_118_code 16 = .ok (.istore 4, 2) := by decide +kernel
theorem d_TM_moveOf_18 : decode prog_12_method_118_code 18 = .ok (.iconst 1, 1) := by decide +kernel
theorem d_TM_moveOf_19 : decode prog_12_method_118_code 19 = .ok (.istore 5, 2) := by decide +kernel
theorem d_TM_moveOf_21 : decode prog_12_method_118_code 21 = .ok (.iload 5, 2) := by decide +kernel
theorem d_TM_moveOf_23 : decode prog_12_method_118_code 23 = .ok (.bipush 10, 2) := by decide +kernel
theorem d_TM_moveOf_25 : decode prog_12_method_118_code 25 = .ok (.if_icmp .ge 65, 3) := by decide +kernel
theorem d_TM_moveOf_28 : decode prog_12_method_118_code 28 = .ok (.iload_n 3, 1) := by decide +kernel
theorem d_TM_moveOf_29 : decode prog_12_method_118_code 29 = .ok (.iload 5, 2) := by decide +kernel
theorem d_TM_moveOf_31 : decode prog_12_method_118_code 31 = .ok (.isub, 1) := by decide +kernel
theorem d_TM_moveOf_32 : decode prog_12_method_118_code 32 = .ok (.ifCond .lt 23, 3) := by decide +kernel
theorem d_TM_moveOf_35 : decode prog_12_method_118_code 35 = .ok (.aload_n 0, 1) := by decide +kernel
theorem d_TM_moveOf_36 : decode prog_12_method_118_code 36 = .ok (.iload_n 1, 1) := by decide +kernel
theorem d_TM_moveOf_37 : decode prog_12_method_118_code 37 = .ok (.iload_n 3, 1) := by decide +kernel
theorem d_TM_moveOf_38 : decode prog_12_method_118_code 38 = .ok (.iload 5, 2) := by decide +kernel
theorem d_TM_moveOf_40 : decode prog_12_method_118_code 40 = .ok (.isub, 1) := by decide +kernel
theorem d_TM_moveOf_41 : decode prog_12_method_118_code 41 = .ok (.iload_n 2, 1) := by decide +kernel
theorem d_TM_moveOf_42 : decode prog_12_method_118_code 42 = .ok (.invokevirtual 391, 3) := by decide +kernel
theorem d_TM_moveOf_45 : decode prog_12_method_118_code 45 = .ok (.iload 4, 2) := by decide +kernel
theorem d_TM_moveOf_47 : decode prog_12_method_118_code 47 = .ok (.if_icmp .eq 8, 3) := by decide +kernel
theorem d_TM_moveOf_50 : decode prog_12_method_118_code 50 = .ok (.iload_n 3, 1) := by decide +kernel
theorem d_TM_moveOf_51 : decode prog_12_method_118_code 51 = .ok (.iload 5, 2) := by decide +kernel
theorem d_TM_moveOf_53 : decode prog_12_method_118_code 53 = .ok (.isub, 1) := by decide +kernel
theorem d_TM_moveOf_54 : decode prog_12_method_118_code 54 = .ok (.ireturn, 1) := by decide +kernel
theorem d_TM_moveOf_55 : decode prog_12_method_118_code 55 = .ok (.iload_n 3, 1) := by decide +kernel
theorem d_TM_moveOf_56 : decode prog_12_method_118_code 56 = .ok (.iload 5, 2) := by decide +kernel
theorem d_TM_moveOf_58 : decode prog_12_method_118_code 58 = .ok (.iadd, 1) := by decide +kernel
theorem d_TM_moveOf_59 : decode prog_12_method_118_code 59 = .ok (.bipush 9, 2) := by decide +kernel
theorem d_TM_moveOf_61 : decode prog_12_method_118_code 61 = .ok (.if_icmp .gt 23, 3) := by decide +kernel
theorem d_TM_moveOf_64 : decode prog_12_method_118_code 64 = .ok (.aload_n 0, 1) := by decide +kernel
theorem d_TM_moveOf_65 : decode prog_12_method_118_code 65 = .ok (.iload_n 1, 1) := by decide +kernel
theorem d_TM_moveOf_66 : decode prog_12_method_118_code 66 = .ok (.iload_n 3, 1) := by decide +kernel
theorem d_TM_moveOf_67 : decode prog_12_method_118_code 67 = .ok (.iload 5, 2) := by decide +kernel
theorem d_TM_moveOf_69 : decode prog_12_method_118_code 69 = .ok (.iadd, 1) := by decide +kernel
theorem d_TM_moveOf_70 : decode prog_12_method_118_code 70 = .ok (.iload_n 2, 1) := by decide +kernel
theorem d_TM_moveOf_71 : decode prog_12_method_118_code 71 = .ok (.invokevirtual 391, 3) := by decide +kernel
theorem d_TM_moveOf_74 : decode prog_12_method_118_code 74 = .ok (.iload 4, 2) := by decide +kernel
theorem d_TM_moveOf_76 : decode prog_12_method_118_code 76 = .ok (.if_icmp .eq 8, 3) := by decide +kernel
theorem d_TM_moveOf_79 : decode prog_12_method_118_code 79 = .ok (.iload_n 3, 1) := by decide +kernel
theorem d_TM_moveOf_80 : decode prog_12_method_118_code 80 = .ok (.iload 5, 2) := by decide +kernel
theorem d_TM_moveOf_82 : decode prog_12_method_118_code 82 = .ok (.iadd, 1) := by decide +kernel
theorem d_TM_moveOf_83 : decode prog_12_method_118_code 83 = .ok (.ireturn, 1) := by decide +kernel
theorem d_TM_moveOf_84 : decode prog_12_method_118_code 84 = .ok (.iinc 5 1, 3) := by decide +kernel
theorem d_TM_moveOf_87 : decode prog_12_method_118_code 87 = .ok (.goto (-66), 3) := by decide +kernel
theorem d_TM_moveOf_90 : decode prog_12_method_118_code 90 = .ok (.iconst (-1), 1) := by decide +kernel
theorem d_TM_moveOf_91 : decode prog_12_method_118_code 91 = .ok (.ireturn, 1) := by decide +kernel
theorem d_TM_saysByLean_0 : decode prog_12_method_117_code 0 = .ok (.aload_n 0, 1) := by decide +kernel
theorem d_TM_saysByLean_1 : decode prog_12_method_117_code 1 = .ok (.getfield 7, 3) := by decide +kernel
theorem d_TM_saysByLean_4 : decode prog_12_method_117_code 4 = .ok (.bipush 10, 2) := by decide +kernel
theorem d_TM_saysByLean_6 : decode prog_12_method_117_code 6 = .ok (.iload_n 1, 1) := by decide +kernel
theorem d_TM_saysByLean_7 : decode prog_12_method_117_code 7 = .ok (.iadd, 1) := by decide +kernel
theorem d_TM_saysByLean_8 : decode prog_12_method_117_code 8 = .ok (.iaload, 1) := by decide +kernel
theorem d_TM_saysByLean_9 : decode prog_12_method_117_code 9 = .ok (.istore 4, 2) := by decide +kernel
theorem d_TM_saysByLean_11 : decode prog_12_method_117_code 11 = .ok (.aload_n 0, 1) := by decide +kernel
theorem d_TM_saysByLean_12 : decode prog_12_method_117_code 12 = .ok (.getfield 7, 3) := by decide +kernel
theorem d_TM_saysByLean_15 : decode prog_12_method_117_code 15 = .ok (.bipush 10, 2) := by decide +kernel
theorem d_TM_saysByLean_17 : decode prog_12_method_117_code 17 = .ok (.iload_n 1, 1) := by decide +kernel
theorem d_TM_saysByLean_18 : decode prog_12_method_117_code 18 = .ok (.iadd, 1) := by decide +kernel
theorem d_TM_saysByLean_19 : decode prog_12_method_117_code 19 = .ok (.iload_n 2, 1) := by decide +kernel
theorem d_TM_saysByLean_20 : decode prog_12_method_117_code 20 = .ok (.iastore, 1) := by decide +kernel
theorem d_TM_saysByLean_21 : decode prog_12_method_117_code 21 = .ok (.aload_n 0, 1) := by decide +kernel
theorem d_TM_saysByLean_22 : decode prog_12_method_117_code 22 = .ok (.iload_n 1, 1) := by decide +kernel
theorem d_TM_saysByLean_23 : decode prog_12_method_117_code 23 = .ok (.iload_n 3, 1) := by decide +kernel
theorem d_TM_saysByLean_24 : decode prog_12_method_117_code 24 = .ok (.invokevirtual 299, 3) := by decide +kernel
theorem d_TM_saysByLean_27 : decode prog_12_method_117_code 27 = .ok (.istore 5, 2) := by decide +kernel
theorem d_TM_saysByLean_29 : decode prog_12_method_117_code 29 = .ok (.aload_n 0, 1) := by decide +kernel
theorem d_TM_saysByLean_30 : decode prog_12_method_117_code 30 = .ok (.getfield 7, 3) := by decide +kernel
theorem d_TM_saysByLean_33 : decode prog_12_method_117_code 33 = .ok (.bipush 10, 2) := by decide +kernel
theorem d_TM_saysByLean_35 : decode prog_12_method_117_code 35 = .ok (.iload_n 1, 1) := by decide +kernel
theorem d_TM_saysByLean_36 : decode prog_12_method_117_code 36 = .ok (.iadd, 1) := by decide +kernel
theorem d_TM_saysByLean_37 : decode prog_12_method_117_code 37 = .ok (.iload 4, 2) := by decide +kernel
theorem d_TM_saysByLean_39 : decode prog_12_method_117_code 39 = .ok (.iastore, 1) := by decide +kernel
theorem d_TM_saysByLean_40 : decode prog_12_method_117_code 40 = .ok (.iload 5, 2) := by decide +kernel
theorem d_TM_saysByLean_42 : decode prog_12_method_117_code 42 = .ok (.ireturn, 1) := by decide +kernel
theorem d_TM_cheapest_0 : decode prog_12_method_121_code 0 = .ok (.aload_n 0, 1) := by decide +kernel
theorem d_TM_cheapest_1 : decode prog_12_method_121_code 1 = .ok (.iload_n 1, 1) := by decide +kernel
theorem d_TM_cheapest_2 : decode prog_12_method_121_code 2 = .ok (.invokevirtual 311, 3) := by decide +kernel
theorem d_TM_cheapest_5 : decode prog_12_method_121_code 5 = .ok (.ifCond .ne 5, 3) := by decide +kernel
theorem d_TM_cheapest_8 : decode prog_12_method_121_code 8 = .ok (.iconst (-1), 1) := by decide +kernel
theorem d_TM_cheapest_9 : decode prog_12_method_121_code 9 = .ok (.ireturn, 1) := by decide +kernel
theorem d_TM_cheapest_10 : decode prog_12_method_121_code 10 = .ok (.aload_n 0, 1) := by decide +kernel
theorem d_TM_cheapest_11 : decode prog_12_method_121_code 11 = .ok (.iload_n 1, 1) := by decide +kernel
theorem d_TM_cheapest_12 : decode prog_12_method_121_code 12 = .ok (.invokevirtual 350, 3) := by decide +kernel
theorem d_TM_cheapest_15 : decode prog_12_method_121_code 15 = .ok (.istore_n 2, 1) := by decide +kernel
theorem d_TM_cheapest_16 : decode prog_12_method_121_code 16 = .ok (.aload_n 0, 1) := by decide +kernel
theorem d_TM_cheapest_17 : decode prog_12_method_121_code 17 = .ok (.iload_n 1, 1) := by decide +kernel
theorem d_TM_cheapest_18 : decode prog_12_method_121_code 18 = .ok (.iload_n 2, 1) := by decide +kernel
theorem d_TM_cheapest_19 : decode prog_12_method_121_code 19 = .ok (.iload_n 1, 1) := by decide +kernel
theorem d_TM_cheapest_20 : decode prog_12_method_121_code 20 = .ok (.if_icmp .le 7, 3) := by decide +kernel
theorem d_TM_cheapest_23 : decode prog_12_method_121_code 23 = .ok (.iconst 1, 1) := by decide +kernel
theorem d_TM_cheapest_24 : decode prog_12_method_121_code 24 = .ok (.goto 4, 3) := by decide +kernel
theorem d_TM_cheapest_27 : decode prog_12_method_121_code 27 = .ok (.iconst 0, 1) := by decide +kernel
theorem d_TM_cheapest_28 : decode prog_12_method_121_code 28 = .ok (.invokevirtual 397, 3) := by decide +kernel
theorem d_TM_cheapest_31 : decode prog_12_method_121_code 31 = .ok (.istore_n 3, 1) := by decide +kernel
theorem d_TM_cheapest_32 : decode prog_12_method_121_code 32 = .ok (.iload_n 3, 1) := by decide +kernel
theorem d_TM_cheapest_33 : decode prog_12_method_121_code 33 = .ok (.iload_n 2, 1) := by decide +kernel
theorem d_TM_cheapest_34 : decode prog_12_method_121_code 34 = .ok (.iload_n 1, 1) := by decide +kernel
theorem d_TM_cheapest_35 : decode prog_12_method_121_code 35 = .ok (.invokestatic 371, 3) := by decide +kernel
theorem d_TM_cheapest_38 : decode prog_12_method_121_code 38 = .ok (.if_icmp .ge 5, 3) := by decide +kernel
theorem d_TM_cheapest_41 : decode prog_12_method_121_code 41 = .ok (.iconst (-1), 1) := by decide +kernel
theorem d_TM_cheapest_42 : decode prog_12_method_121_code 42 = .ok (.ireturn, 1) := by decide +kernel
theorem d_TM_cheapest_43 : decode prog_12_method_121_code 43 = .ok (.iconst 0, 1) := by decide +kernel
theorem d_TM_cheapest_44 : decode prog_12_method_121_code 44 = .ok (.istore 4, 2) := by decide +kernel
theorem d_TM_cheapest_46 : decode prog_12_method_121_code 46 = .ok (.iconst 0, 1) := by decide +kernel
theorem d_TM_cheapest_47 : decode prog_12_method_121_code 47 = .ok (.istore 5, 2) := by decide +kernel
theorem d_TM_cheapest_49 : decode prog_12_method_121_code 49 = .ok (.iload 5, 2) := by decide +kernel
theorem d_TM_cheapest_51 : decode prog_12_method_121_code 51 = .ok (.iload_n 2, 1) := by decide +kernel
theorem d_TM_cheapest_52 : decode prog_12_method_121_code 52 = .ok (.iload_n 1, 1) := by decide +kernel
theorem d_TM_cheapest_53 : decode prog_12_method_121_code 53 = .ok (.invokestatic 371, 3) := by decide +kernel
theorem d_TM_cheapest_56 : decode prog_12_method_121_code 56 = .ok (.if_icmp .ge 21, 3) := by decide +kernel
theorem d_TM_cheapest_59 : decode prog_12_method_121_code 59 = .ok (.iload 4, 2) := by decide +kernel
theorem d_TM_cheapest_61 : decode prog_12_method_121_code 61 = .ok (.aload_n 0, 1) := by decide +kernel
theorem d_TM_cheapest_62 : decode prog_12_method_121_code 62 = .ok (.getfield 56, 3) := by decide +kernel
theorem d_TM_cheapest_65 : decode prog_12_method_121_code 65 = .ok (.iload 5, 2) := by decide +kernel
theorem d_TM_cheapest_67 : decode prog_12_method_121_code 67 = .ok (.iaload, 1) := by decide +kernel
theorem d_TM_cheapest_68 : decode prog_12_method_121_code 68 = .ok (.iadd, 1) := by decide +kernel
theorem d_TM_cheapest_69 : decode prog_12_method_121_code 69 = .ok (.istore 4, 2) := by decide +kernel
theorem d_TM_cheapest_71 : decode prog_12_method_121_code 71 = .ok (.iinc 5 1, 3) := by decide +kernel
theorem d_TM_cheapest_74 : decode prog_12_method_121_code 74 = .ok (.goto (-25), 3) := by decide +kernel
theorem d_TM_cheapest_77 : decode prog_12_method_121_code 77 = .ok (.iload 4, 2) := by decide +kernel
theorem d_TM_cheapest_79 : decode prog_12_method_121_code 79 = .ok (.ireturn, 1) := by decide +kernel
theorem d_TM_layPrices_0 : decode prog_12_method_120_code 0 = .ok (.iconst 0, 1) := by decide +kernel
theorem d_TM_layPrices_1 : decode prog_12_method_120_code 1 = .ok (.istore_n 3, 1) := by decide +kernel
theorem d_TM_layPrices_2 : decode prog_12_method_120_code 2 = .ok (.iconst 1, 1) := by decide +kernel
theorem d_TM_layPrices_3 : decode prog_12_method_120_code 3 = .ok (.istore 4, 2) := by decide +kernel
theorem d_TM_layPrices_5 : decode prog_12_method_120_code 5 = .ok (.iload 4, 2) := by decide +kernel
theorem d_TM_layPrices_7 : decode prog_12_method_120_code 7 = .ok (.bipush 10, 2) := by decide +kernel
theorem d_TM_layPrices_9 : decode prog_12_method_120_code 9 = .ok (.if_icmp .ge 89, 3) := by decide +kernel
theorem d_TM_layPrices_12 : decode prog_12_method_120_code 12 = .ok (.iconst 0, 1) := by decide +kernel
theorem d_TM_layPrices_13 : decode prog_12_method_120_code 13 = .ok (.istore 5, 2) := by decide +kernel
theorem d_TM_layPrices_15 : decode prog_12_method_120_code 15 = .ok (.iload 5, 2) := by decide +kernel
theorem d_TM_layPrices_17 : decode prog_12_method_120_code 17 = .ok (.aload_n 0, 1) := by decide +kernel
theorem d_TM_layPrices_18 : decode prog_12_method_120_code 18 = .ok (.getfield 7, 3) := by decide +kernel
theorem d_TM_layPrices_21 : decode prog_12_method_120_code 21 = .ok (.iconst 0, 1) := by decide +kernel
theorem d_TM_layPrices_22 : decode prog_12_method_120_code 22 = .ok (.iaload, 1) := by decide +kernel
theorem d_TM_layPrices_23 : decode prog_12_method_120_code 23 = .ok (.if_icmp .ge 69, 3) := by decide +kernel
theorem d_TM_layPrices_26 : decode prog_12_method_120_code 26 = .ok (.aload_n 0, 1) := by decide +kernel
theorem d_TM_layPrices_27 : decode prog_12_method_120_code 27 = .ok (.iload 5, 2) := by decide +kernel
theorem d_TM_layPrices_29 : decode prog_12_method_120_code 29 = .ok (.iload_n 1, 1) := by decide +kernel
theorem d_TM_layPrices_30 : decode prog_12_method_120_code 30 = .ok (.invokevirtual 394, 3) := by decide +kernel
theorem d_TM_layPrices_33 : decode prog_12_method_120_code 33 = .ok (.istore 6, 2) := by decide +kernel
theorem d_TM_layPrices_35 : decode prog_12_method_120_code 35 = .ok (.aload_n 0, 1) := by decide +kernel
theorem d_TM_layPrices_36 : decode prog_12_method_120_code 36 = .ok (.iload 5, 2) := by decide +kernel
theorem d_TM_layPrices_38 : decode prog_12_method_120_code 38 = .ok (.iload_n 1, 1) := by decide +kernel
theorem d_TM_layPrices_39 : decode prog_12_method_120_code 39 = .ok (.invokevirtual 299, 3) := by decide +kernel
theorem d_TM_layPrices_42 : decode prog_12_method_120_code 42 = .ok (.iload_n 2, 1) := by decide +kernel
theorem d_TM_layPrices_43 : decode prog_12_method_120_code 43 = .ok (.if_icmp .ne 43, 3) := by decide +kernel
theorem d_TM_layPrices_46 : decode prog_12_method_120_code 46 = .ok (.iload 6, 2) := by decide +kernel
theorem d_TM_layPrices_48 : decode prog_12_method_120_code 48 = .ok (.iconst (-1), 1) := by decide +kernel
theorem d_TM_layPrices_49 : decode prog_12_method_120_code 49 = .ok (.if_icmp .eq 37, 3) := by decide +kernel
theorem d_TM_layPrices_52 : decode prog_12_method_120_code 52 = .ok (.iload 6, 2) := by decide +kernel
theorem d_TM_layPrices_54 : decode prog_12_method_120_code 54 = .ok (.aload_n 0, 1) := by decide +kernel
theorem d_TM_layPrices_55 : decode prog_12_method_120_code 55 = .ok (.getfield 7, 3) := by decide +kernel
theorem d_TM_layPrices_58 : decode prog_12_method_120_code 58 = .ok (.bipush 10, 2) := by decide +kernel
theorem d_TM_layPrices_60 : decode prog_12_method_120_code 60 = .ok (.iload 5, 2) := by decide +kernel
theorem d_TM_layPrices_62 : decode prog_12_method_120_code 62 = .ok (.iadd, 1) := by decide +kernel
theorem d_TM_layPrices_63 : decode prog_12_method_120_code 63 = .ok (.iaload, 1) := by decide +kernel
theorem d_TM_layPrices_64 : decode prog_12_method_120_code 64 = .ok (.invokestatic 371, 3) := by decide +kernel
theorem d_TM_layPrices_67 : decode prog_12_method_120_code 67 = .ok (.iload 4, 2) := by decide +kernel
theorem d_TM_layPrices_69 : decode prog_12_method_120_code 69 = .ok (.if_icmp .eq 6, 3) := by decide +kernel
theorem d_TM_layPrices_72 : decode prog_12_method_120_code 72 = .ok (.goto 14, 3) := by decide +kernel
theorem d_TM_layPrices_75 : decode prog_12_method_120_code 75 = .ok (.aload_n 0, 1) := by decide +kernel
theorem d_TM_layPrices_76 : decode prog_12_method_120_code 76 = .ok (.getfield 56, 3) := by decide +kernel
theorem d_TM_layPrices_79 : decode prog_12_method_120_code 79 = .ok (.iload_n 3, 1) := by decide +kernel
theorem d_TM_layPrices_80 : decode prog_12_method_120_code 80 = .ok (.iload 4, 2) := by decide +kernel
theorem d_TM_layPrices_82 : decode prog_12_method_120_code 82 = .ok (.iastore, 1) := by decide +kernel
theorem d_TM_layPrices_83 : decode prog_12_method_120_code 83 = .ok (.iinc 3 1, 3) := by decide +kernel
theorem d_TM_layPrices_86 : decode prog_12_method_120_code 86 = .ok (.iinc 5 1, 3) := by decide +kernel
theorem d_TM_layPrices_89 : decode prog_12_method_120_code 89 = .ok (.goto (-74), 3) := by decide +kernel
theorem d_TM_layPrices_92 : decode prog_12_method_120_code 92 = .ok (.iinc 4 1, 3) := by decide +kernel
theorem d_TM_layPrices_95 : decode prog_12_method_120_code 95 = .ok (.goto (-90), 3) := by decide +kernel
theorem d_TM_layPrices_98 : decode prog_12_method_120_code 98 = .ok (.iload_n 3, 1) := by decide +kernel
theorem d_TM_layPrices_99 : decode prog_12_method_120_code 99 = .ok (.ireturn, 1) := by decide +kernel
theorem d_TM_sure_0 : decode prog_12_method_125_code 0 = .ok (.iload_n 1, 1) := by decide +kernel
theorem d_TM_sure_1 : decode prog_12_method_125_code 1 = .ok (.iconst 0, 1) := by decide +kernel
theorem d_TM_sure_2 : decode prog_12_method_125_code 2 = .ok (.bipush 8, 2) := by decide +kernel
theorem d_TM_sure_4 : decode prog_12_method_125_code 4 = .ok (.invokestatic 69, 3) := by decide +kernel
theorem d_TM_sure_7 : decode prog_12_method_125_code 7 = .ok (.ifCond .eq 13, 3) := by decide +kernel
theorem d_TM_sure_10 : decode prog_12_method_125_code 10 = .ok (.iload_n 2, 1) := by decide +kernel
theorem d_TM_sure_11 : decode prog_12_method_125_code 11 = .ok (.iconst 0, 1) := by decide +kernel
theorem d_TM_sure_12 : decode prog_12_method_125_code 12 = .ok (.bipush 10, 2) := by decide +kernel
theorem d_TM_sure_14 : decode prog_12_method_125_code 14 = .ok (.invokestatic 69, 3) := by decide +kernel
theorem d_TM_sure_17 : decode prog_12_method_125_code 17 = .ok (.ifCond .ne 7, 3) := by decide +kernel
theorem d_TM_sure_20 : decode prog_12_method_125_code 20 = .ok (.ldc2_w 405, 3) := by decide +kernel
theorem d_TM_sure_23 : decode prog_12_method_125_code 23 = .ok (.lreturn, 1) := by decide +kernel
theorem d_TM_sure_24 : decode prog_12_method_125_code 24 = .ok (.aload_n 0, 1) := by decide +kernel
theorem d_TM_sure_25 : decode prog_12_method_125_code 25 = .ok (.aload_n 0, 1) := by decide +kernel
theorem d_TM_sure_26 : decode prog_12_method_125_code 26 = .ok (.getfield 7, 3) := by decide +kernel
theorem d_TM_sure_29 : decode prog_12_method_125_code 29 = .ok (.bipush 7, 2) := by decide +kernel
theorem d_TM_sure_31 : decode prog_12_method_125_code 31 = .ok (.iaload, 1) := by decide +kernel
theorem d_TM_sure_32 : decode prog_12_method_125_code 32 = .ok (.invokevirtual 347, 3) := by decide +kernel
theorem d_TM_sure_35 : decode prog_12_method_125_code 35 = .ok (.istore 4, 2) := by decide +kernel
theorem d_TM_sure_37 : decode prog_12_method_125_code 37 = .ok (.iconst 0, 1) := by decide +kernel
theorem d_TM_sure_38 : decode prog_12_method_125_code 38 = .ok (.istore 5, 2) := by decide +kernel
theorem d_TM_sure_40 : decode prog_12_method_125_code 40 = .ok (.iload 5, 2) := by decide +kernel
theorem d_TM_sure_42 : decode prog_12_method_125_code 42 = .ok (.bipush 9, 2) := by decide +kernel
theorem d_TM_sure_44 : decode prog_12_method_125_code 44 = .ok (.if_icmp .ge 26, 3) := by decide +kernel
theorem d_TM_sure_47 : decode prog_12_method_125_code 47 = .ok (.aload_n 0, 1) := by decide +kernel
theorem d_TM_sure_48 : decode prog_12_method_125_code 48 = .ok (.getfield 59, 3) := by decide +kernel
theorem d_TM_sure_51 : decode prog_12_method_125_code 51 = .ok (.iload 5, 2) := by decide +kernel
theorem d_TM_sure_53 : decode prog_12_method_125_code 53 = .ok (.iload 5, 2) := by decide +kernel
theorem d_TM_sure_55 : decode prog_12_method_125_code 55 = .ok (.ifCond .ne 7, 3) := by decide +kernel
theorem d_TM_sure_58 : decode prog_12_method_125_code 58 = .ok (.lconst 1, 1) := by decide +kernel
theorem d_TM_sure_59 : decode prog_12_method_125_code 59 = .ok (.goto 4, 3) := by decide +kernel
theorem d_TM_sure_62 : decode prog_12_method_125_code 62 = .ok (.lconst 0, 1) := by decide +kernel
theorem d_TM_sure_63 : decode prog_12_method_125_code 63 = .ok (.lastore, 1) := by decide +kernel
theorem d_TM_sure_64 : decode prog_12_method_125_code 64 = .ok (.iinc 5 1, 3) := by decide +kernel
theorem d_TM_sure_67 : decode prog_12_method_125_code 67 = .ok (.goto (-27), 3) := by decide +kernel
theorem d_TM_sure_70 : decode prog_12_method_125_code 70 = .ok (.lconst 1, 1) := by decide +kernel
theorem d_TM_sure_71 : decode prog_12_method_125_code 71 = .ok (.lstore 5, 2) := by decide +kernel
theorem d_TM_sure_73 : decode prog_12_method_125_code 73 = .ok (.iconst 0, 1) := by decide +kernel
theorem d_TM_sure_74 : decode prog_12_method_125_code 74 = .ok (.istore 7, 2) := by decide +kernel
theorem d_TM_sure_76 : decode prog_12_method_125_code 76 = .ok (.iload 7, 2) := by decide +kernel
theorem d_TM_sure_78 : decode prog_12_method_125_code 78 = .ok (.aload_n 0, 1) := by decide +kernel
theorem d_TM_sure_79 : decode prog_12_method_125_code 79 = .ok (.getfield 7, 3) := by decide +kernel
theorem d_TM_sure_82 : decode prog_12_method_125_code 82 = .ok (.iconst 0, 1) := by decide +kernel
theorem d_TM_sure_83 : decode prog_12_method_125_code 83 = .ok (.iaload, 1) := by decide +kernel
theorem d_TM_sure_84 : decode prog_12_method_125_code 84 = .ok (.if_icmp .ge 87, 3) := by decide +kernel
theorem d_TM_sure_87 : decode prog_12_method_125_code 87 = .ok (.aload_n 0, 1) := by decide +kernel
theorem d_TM_sure_88 : decode prog_12_method_125_code 88 = .ok (.iload 4, 2) := by decide +kernel
theorem d_TM_sure_90 : decode prog_12_method_125_code 90 = .ok (.iload 7, 2) := by decide +kernel
theorem d_TM_sure_92 : decode prog_12_method_125_code 92 = .ok (.iload_n 2, 1) := by decide +kernel
theorem d_TM_sure_93 : decode prog_12_method_125_code 93 = .ok (.invokevirtual 407, 3) := by decide +kernel
theorem d_TM_sure_96 : decode prog_12_method_125_code 96 = .ok (.istore 8, 2) := by decide +kernel
theorem d_TM_sure_98 : decode prog_12_method_125_code 98 = .ok (.bipush 8, 2) := by decide +kernel
theorem d_TM_sure_100 : decode prog_12_method_125_code 100 = .ok (.istore 9, 2) := by decide +kernel
theorem d_TM_sure_102 : decode prog_12_method_125_code 102 = .ok (.iload 9, 2) := by decide +kernel
theorem d_TM_sure_104 : decode prog_12_method_125_code 104 = .ok (.ifCond .lt 53, 3) := by decide +kernel
theorem d_TM_sure_107 : decode prog_12_method_125_code 107 = .ok (.aload_n 0, 1) := by decide +kernel
theorem d_TM_sure_108 : decode prog_12_method_125_code 108 = .ok (.getfield 59, 3) := by decide +kernel
theorem d_TM_sure_111 : decode prog_12_method_125_code 111 = .ok (.iload 9, 2) := by decide +kernel
theorem d_TM_sure_113 : decode prog_12_method_125_code 113 = .ok (.aload_n 0, 1) := by decide +kernel
theorem d_TM_sure_114 : decode prog_12_method_125_code 114 = .ok (.getfield 59, 3) := by decide +kernel
theorem d_TM_sure_117 : decode prog_12_method_125_code 117 = .ok (.iload 9, 2) := by decide +kernel
theorem d_TM_sure_119 : decode prog_12_method_125_code 119 = .ok (.laload, 1) := by decide +kernel
theorem d_TM_sure_120 : decode prog_12_method_125_code 120 = .ok (.bipush 10, 2) := by decide +kernel
theorem d_TM_sure_122 : decode prog_12_method_125_code 122 = .ok (.iload 8, 2) := by decide +kernel
theorem d_TM_sure_124 : decode prog_12_method_125_code 124 = .ok (.isub, 1) := by decide +kernel
theorem d_TM_sure_125 : decode prog_12_method_125_code 125 = .ok (.i2l, 1) := by decide +kernel
theorem d_TM_sure_126 : decode prog_12_method_125_code 126 = .ok (.lmul, 1) := by decide +kernel
theorem d_TM_sure_127 : decode prog_12_method_125_code 127 = .ok (.iload 9, 2) := by decide +kernel
theorem d_TM_sure_129 : decode prog_12_method_125_code 129 = .ok (.ifCond .le 19, 3) := by decide +kernel
theorem d_TM_sure_132 : decode prog_12_method_125_code 132 = .ok (.aload_n 0, 1) := by decide +kernel
theorem d_TM_sure_133 : decode prog_12_method_125_code 133 = .ok (.getfield 59, 3) := by decide +kernel
theorem d_TM_sure_136 : decode prog_12_method_125_code 136 = .ok (.iload 9, 2) := by decide +kernel
theorem d_TM_sure_138 : decode prog_12_method_125_code 138 = .ok (.iconst 1, 1) := by decide +kernel
theorem d_TM_sure_139 : decode prog_12_method_125_code 139 = .ok (.isub, 1) := by decide +kernel
theorem d_TM_sure_140 : decode prog_12_method_125_code 140 = .ok (.laload, 1) := by decide +kernel
theorem d_TM_sure_141 : decode prog_12_method_125_code 141 = .ok (.iload 8, 2) := by decide +kernel
theorem d_TM_sure_143 : decode prog_12_method_125_code 143 = .ok (.i2l, 1) := by decide +kernel
theorem d_TM_sure_144 : decode prog_12_method_125_code 144 = .ok (.lmul, 1) := by decide +kernel
theorem d_TM_sure_145 : decode prog_12_method_125_code 145 = .ok (.goto 4, 3) := by decide +kernel
theorem d_TM_sure_148 : decode prog_12_method_125_code 148 = .ok (.lconst 0, 1) := by decide +kernel
theorem d_TM_sure_149 : decode prog_12_method_125_code 149 = .ok (.ladd, 1) := by decide +kernel
theorem d_TM_sure_150 : decode prog_12_method_125_code 150 = .ok (.lastore, 1) := by decide +kernel
theorem d_TM_sure_151 : decode prog_12_method_125_code 151 = .ok (.iinc 9 (-1), 3) := by decide +kernel
theorem d_TM_sure_154 : decode prog_12_method_125_code 154 = .ok (.goto (-52), 3) := by decide +kernel
theorem d_TM_sure_157 : decode prog_12_method_125_code 157 = .ok (.lload 5, 2) := by decide +kernel
theorem d_TM_sure_159 : decode prog_12_method_125_code 159 = .ok (.ldc2_w 410, 3) := by decide +kernel
theorem d_TM_sure_162 : decode prog_12_method_125_code 162 = .ok (.lmul, 1) := by decide +kernel
theorem d_TM_sure_163 : decode prog_12_method_125_code 163 = .ok (.lstore 5, 2) := by decide +kernel
theorem d_TM_sure_165 : decode prog_12_method_125_code 165 = .ok (.iinc 7 1, 3) := by decide +kernel
theorem d_TM_sure_168 : decode prog_12_method_125_code 168 = .ok (.goto (-92), 3) := by decide +kernel
theorem d_TM_sure_171 : decode prog_12_method_125_code 171 = .ok (.aload_n 0, 1) := by decide +kernel
theorem d_TM_sure_172 : decode prog_12_method_125_code 172 = .ok (.getfield 59, 3) := by decide +kernel
theorem d_TM_sure_175 : decode prog_12_method_125_code 175 = .ok (.iload_n 1, 1) := by decide +kernel
theorem d_TM_sure_176 : decode prog_12_method_125_code 176 = .ok (.laload, 1) := by decide +kernel
theorem d_TM_sure_177 : decode prog_12_method_125_code 177 = .ok (.lload 5, 2) := by decide +kernel
theorem d_TM_sure_179 : decode prog_12_method_125_code 179 = .ok (.iload_n 3, 1) := by decide +kernel
theorem d_TM_sure_180 : decode prog_12_method_125_code 180 = .ok (.invokestatic 412, 3) := by decide +kernel
theorem d_TM_sure_183 : decode prog_12_method_125_code 183 = .ok (.lreturn, 1) := by decide +kernel
theorem d_TM_tenths_0 : decode prog_12_method_124_code 0 = .ok (.iload_n 1, 1) := by decide +kernel
theorem d_TM_tenths_1 : decode prog_12_method_124_code 1 = .ok (.iload_n 2, 1) := by decide +kernel
theorem d_TM_tenths_2 : decode prog_12_method_124_code 2 = .ok (.invokestatic 229, 3) := by decide +kernel
theorem d_TM_tenths_5 : decode prog_12_method_124_code 5 = .ok (.ifCond .eq 10, 3) := by decide +kernel
theorem d_TM_tenths_8 : decode prog_12_method_124_code 8 = .ok (.bipush 10, 2) := by decide +kernel
theorem d_TM_tenths_10 : decode prog_12_method_124_code 10 = .ok (.iload_n 3, 1) := by decide +kernel
theorem d_TM_tenths_11 : decode prog_12_method_124_code 11 = .ok (.isub, 1) := by decide +kernel
theorem d_TM_tenths_12 : decode prog_12_method_124_code 12 = .ok (.goto 4, 3) := by decide +kernel
theorem d_TM_tenths_15 : decode prog_12_method_124_code 15 = .ok (.iload_n 3, 1) := by decide +kernel
theorem d_TM_tenths_16 : decode prog_12_method_124_code 16 = .ok (.ireturn, 1) := by decide +kernel
theorem d_TM_part0_0 : decode prog_12_method_123_code 0 = .ok (.iload 4, 2) := by decide +kernel
theorem d_TM_part0_2 : decode prog_12_method_123_code 2 = .ok (.ifCond .eq 7, 3) := by decide +kernel
theorem d_TM_part0_5 : decode prog_12_method_123_code 5 = .ok (.lload_n 2, 1) := by decide +kernel
theorem d_TM_part0_6 : decode prog_12_method_123_code 6 = .ok (.goto 4, 3) := by decide +kernel
theorem d_TM_part0_9 : decode prog_12_method_123_code 9 = .ok (.lload_n 0, 1) := by decide +kernel
theorem d_TM_part0_10 : decode prog_12_method_123_code 10 = .ok (.lload_n 0, 1) := by decide +kernel
theorem d_TM_part0_11 : decode prog_12_method_123_code 11 = .ok (.lload_n 2, 1) := by decide +kernel
theorem d_TM_part0_12 : decode prog_12_method_123_code 12 = .ok (.invokestatic 401, 3) := by decide +kernel
theorem d_TM_part0_15 : decode prog_12_method_123_code 15 = .ok (.ldiv, 1) := by decide +kernel
theorem d_TM_part0_16 : decode prog_12_method_123_code 16 = .ok (.lreturn, 1) := by decide +kernel
theorem d_TM_divisor_0 : decode prog_12_method_122_code 0 = .ok (.lload_n 0, 1) := by decide +kernel
theorem d_TM_divisor_1 : decode prog_12_method_122_code 1 = .ok (.lstore 4, 2) := by decide +kernel
theorem d_TM_divisor_3 : decode prog_12_method_122_code 3 = .ok (.lload_n 2, 1) := by decide +kernel
theorem d_TM_divisor_4 : decode prog_12_method_122_code 4 = .ok (.lstore 6, 2) := by decide +kernel
theorem d_TM_divisor_6 : decode prog_12_method_122_code 6 = .ok (.lload 6, 2) := by decide +kernel
theorem d_TM_divisor_8 : decode prog_12_method_122_code 8 = .ok (.lconst 0, 1) := by decide +kernel
theorem d_TM_divisor_9 : decode prog_12_method_122_code 9 = .ok (.lcmp, 1) := by decide +kernel
theorem d_TM_divisor_10 : decode prog_12_method_122_code 10 = .ok (.ifCond .eq 21, 3) := by decide +kernel
theorem d_TM_divisor_13 : decode prog_12_method_122_code 13 = .ok (.lload 4, 2) := by decide +kernel
theorem d_TM_divisor_15 : decode prog_12_method_122_code 15 = .ok (.lload 6, 2) := by decide +kernel
theorem d_TM_divisor_17 : decode prog_12_method_122_code 17 = .ok (.lrem, 1) := by decide +kernel
theorem d_TM_divisor_18 : decode prog_12_method_122_code 18 = .ok (.lstore 8, 2) := by decide +kernel
theorem d_TM_divisor_20 : decode prog_12_method_122_code 20 = .ok (.lload 6, 2) := by decide +kernel
theorem d_TM_divisor_22 : decode prog_12_method_122_code 22 = .ok (.lstore 4, 2) := by decide +kernel
theorem d_TM_divisor_24 : decode prog_12_method_122_code 24 = .ok (.lload 8, 2) := by decide +kernel
theorem d_TM_divisor_26 : decode prog_12_method_122_code 26 = .ok (.lstore 6, 2) := by decide +kernel
theorem d_TM_divisor_28 : decode prog_12_method_122_code 28 = .ok (.goto (-22), 3) := by decide +kernel
theorem d_TM_divisor_31 : decode prog_12_method_122_code 31 = .ok (.lload 4, 2) := by decide +kernel
theorem d_TM_divisor_33 : decode prog_12_method_122_code 33 = .ok (.lreturn, 1) := by decide +kernel
theorem d_TM_mean_0 : decode prog_12_method_126_code 0 = .ok (.iload_n 1, 1) := by decide +kernel
theorem d_TM_mean_1 : decode prog_12_method_126_code 1 = .ok (.iconst 0, 1) := by decide +kernel
theorem d_TM_mean_2 : decode prog_12_method_126_code 2 = .ok (.bipush 10, 2) := by decide +kernel
theorem d_TM_mean_4 : decode prog_12_method_126_code 4 = .ok (.invokestatic 69, 3) := by decide +kernel
theorem d_TM_mean_7 : decode prog_12_method_126_code 7 = .ok (.ifCond .ne 7, 3) := by decide +kernel
theorem d_TM_mean_10 : decode prog_12_method_126_code 10 = .ok (.ldc2_w 405, 3) := by decide +kernel
theorem d_TM_mean_13 : decode prog_12_method_126_code 13 = .ok (.lreturn, 1) := by decide +kernel
theorem d_TM_mean_14 : decode prog_12_method_126_code 14 = .ok (.aload_n 0, 1) := by decide +kernel
theorem d_TM_mean_15 : decode prog_12_method_126_code 15 = .ok (.aload_n 0, 1) := by decide +kernel
theorem d_TM_mean_16 : decode prog_12_method_126_code 16 = .ok (.getfield 7, 3) := by decide +kernel
theorem d_TM_mean_19 : decode prog_12_method_126_code 19 = .ok (.bipush 7, 2) := by decide +kernel
theorem d_TM_mean_21 : decode prog_12_method_126_code 21 = .ok (.iaload, 1) := by decide +kernel
theorem d_TM_mean_22 : decode prog_12_method_126_code 22 = .ok (.invokevirtual 347, 3) := by decide +kernel
theorem d_TM_mean_25 : decode prog_12_method_126_code 25 = .ok (.istore_n 3, 1) := by decide +kernel
theorem d_TM_mean_26 : decode prog_12_method_126_code 26 = .ok (.lconst 0, 1) := by decide +kernel
theorem d_TM_mean_27 : decode prog_12_method_126_code 27 = .ok (.lstore 4, 2) := by decide +kernel
theorem d_TM_mean_29 : decode prog_12_method_126_code 29 = .ok (.iconst 0, 1) := by decide +kernel
theorem d_TM_mean_30 : decode prog_12_method_126_code 30 = .ok (.istore 6, 2) := by decide +kernel
theorem d_TM_mean_32 : decode prog_12_method_126_code 32 = .ok (.iload 6, 2) := by decide +kernel
theorem d_TM_mean_34 : decode prog_12_method_126_code 34 = .ok (.aload_n 0, 1) := by decide +kernel
theorem d_TM_mean_35 : decode prog_12_method_126_code 35 = .ok (.getfield 7, 3) := by decide +kernel
theorem d_TM_mean_38 : decode prog_12_method_126_code 38 = .ok (.iconst 0, 1) := by decide +kernel
theorem d_TM_mean_39 : decode prog_12_method_126_code 39 = .ok (.iaload, 1) := by decide +kernel
theorem d_TM_mean_40 : decode prog_12_method_126_code 40 = .ok (.if_icmp .ge 23, 3) := by decide +kernel
theorem d_TM_mean_43 : decode prog_12_method_126_code 43 = .ok (.lload 4, 2) := by decide +kernel
theorem d_TM_mean_45 : decode prog_12_method_126_code 45 = .ok (.aload_n 0, 1) := by decide +kernel
theorem d_TM_mean_46 : decode prog_12_method_126_code 46 = .ok (.iload_n 3, 1) := by decide +kernel
theorem d_TM_mean_47 : decode prog_12_method_126_code 47 = .ok (.iload 6, 2) := by decide +kernel
theorem d_TM_mean_49 : decode prog_12_method_126_code 49 = .ok (.iload_n 1, 1) := by decide +kernel
theorem d_TM_mean_50 : decode prog_12_method_126_code 50 = .ok (.invokevirtual 407, 3) := by decide +kernel
theorem d_TM_mean_53 : decode prog_12_method_126_code 53 = .ok (.i2l, 1) := by decide +kernel
theorem d_TM_mean_54 : decode prog_12_method_126_code 54 = .ok (.ladd, 1) := by decide +kernel
theorem d_TM_mean_55 : decode prog_12_method_126_code 55 = .ok (.lstore 4, 2) := by decide +kernel
theorem d_TM_mean_57 : decode prog_12_method_126_code 57 = .ok (.iinc 6 1, 3) := by decide +kernel
theorem d_TM_mean_60 : decode prog_12_method_126_code 60 = .ok (.goto (-28), 3) := by decide +kernel
theorem d_TM_mean_63 : decode prog_12_method_126_code 63 = .ok (.lload 4, 2) := by decide +kernel
theorem d_TM_mean_65 : decode prog_12_method_126_code 65 = .ok (.ldc2_w 410, 3) := by decide +kernel
theorem d_TM_mean_68 : decode prog_12_method_126_code 68 = .ok (.iload_n 2, 1) := by decide +kernel
theorem d_TM_mean_69 : decode prog_12_method_126_code 69 = .ok (.invokestatic 412, 3) := by decide +kernel
theorem d_TM_mean_72 : decode prog_12_method_126_code 72 = .ok (.lreturn, 1) := by decide +kernel
theorem d_TM_reach_0 : decode prog_12_method_128_code 0 = .ok (.aload_n 0, 1) := by decide +kernel
theorem d_TM_reach_1 : decode prog_12_method_128_code 1 = .ok (.iload_n 1, 1) := by decide +kernel
theorem d_TM_reach_2 : decode prog_12_method_128_code 2 = .ok (.invokevirtual 73, 3) := by decide +kernel
theorem d_TM_reach_5 : decode prog_12_method_128_code 5 = .ok (.ifCond .eq 11, 3) := by decide +kernel
theorem d_TM_reach_8 : decode prog_12_method_128_code 8 = .ok (.aload_n 0, 1) := by decide +kernel
theorem d_TM_reach_9 : decode prog_12_method_128_code 9 = .ok (.iload_n 1, 1) := by decide +kernel
theorem d_TM_reach_10 : decode prog_12_method_128_code 10 = .ok (.invokevirtual 416, 3) := by decide +kernel
theorem d_TM_reach_13 : decode prog_12_method_128_code 13 = .ok (.goto 4, 3) := by decide +kernel
theorem d_TM_reach_16 : decode prog_12_method_128_code 16 = .ok (.iconst (-1), 1) := by decide +kernel
theorem d_TM_reach_17 : decode prog_12_method_128_code 17 = .ok (.ireturn, 1) := by decide +kernel
theorem d_TM_heardBy_0 : decode prog_12_method_127_code 0 = .ok (.aload_n 0, 1) := by decide +kernel
theorem d_TM_heardBy_1 : decode prog_12_method_127_code 1 = .ok (.getfield 7, 3) := by decide +kernel
theorem d_TM_heardBy_4 : decode prog_12_method_127_code 4 = .ok (.bipush 34, 2) := by decide +kernel
theorem d_TM_heardBy_6 : decode prog_12_method_127_code 6 = .ok (.iload_n 1, 1) := by decide +kernel
theorem d_TM_heardBy_7 : decode prog_12_method_127_code 7 = .ok (.iadd, 1) := by decide +kernel
theorem d_TM_heardBy_8 : decode prog_12_method_127_code 8 = .ok (.iaload, 1) := by decide +kernel
theorem d_TM_heardBy_9 : decode prog_12_method_127_code 9 = .ok (.istore_n 2, 1) := by decide +kernel
theorem d_TM_heardBy_10 : decode prog_12_method_127_code 10 = .ok (.iconst 0, 1) := by decide +kernel
theorem d_TM_heardBy_11 : decode prog_12_method_127_code 11 = .ok (.istore_n 3, 1) := by decide +kernel
theorem d_TM_heardBy_12 : decode prog_12_method_127_code 12 = .ok (.iload_n 3, 1) := by decide +kernel
theorem d_TM_heardBy_13 : decode prog_12_method_127_code 13 = .ok (.iload_n 2, 1) := by decide +kernel
theorem d_TM_heardBy_14 : decode prog_12_method_127_code 14 = .ok (.if_icmp .eq 50, 3) := by decide +kernel
theorem d_TM_heardBy_17 : decode prog_12_method_127_code 17 = .ok (.iload_n 2, 1) := by decide +kernel
theorem d_TM_heardBy_18 : decode prog_12_method_127_code 18 = .ok (.istore_n 3, 1) := by decide +kernel
theorem d_TM_heardBy_19 : decode prog_12_method_127_code 19 = .ok (.iconst 0, 1) := by decide +kernel
theorem d_TM_heardBy_20 : decode prog_12_method_127_code 20 = .ok (.istore 4, 2) := by decide +kernel
theorem d_TM_heardBy_22 : decode prog_12_method_127_code 22 = .ok (.iload 4, 2) := by decide +kernel
theorem d_TM_heardBy_24 : decode prog_12_method_127_code 24 = .ok (.aload_n 0, 1) := by decide +kernel
theorem d_TM_heardBy_25 : decode prog_12_method_127_code 25 = .ok (.getfield 7, 3) := by decide +kernel
theorem d_TM_heardBy_28 : decode prog_12_method_127_code 28 = .ok (.iconst 0, 1) := by decide +kernel
theorem d_TM_heardBy_29 : decode prog_12_method_127_code 29 = .ok (.iaload, 1) := by decide +kernel
theorem d_TM_heardBy_30 : decode prog_12_method_127_code 30 = .ok (.if_icmp .ge 31, 3) := by decide +kernel
theorem d_TM_heardBy_33 : decode prog_12_method_127_code 33 = .ok (.iload_n 2, 1) := by decide +kernel
theorem d_TM_heardBy_34 : decode prog_12_method_127_code 34 = .ok (.iload 4, 2) := by decide +kernel
theorem d_TM_heardBy_36 : decode prog_12_method_127_code 36 = .ok (.invokestatic 229, 3) := by decide +kernel
theorem d_TM_heardBy_39 : decode prog_12_method_127_code 39 = .ok (.ifCond .eq 16, 3) := by decide +kernel
theorem d_TM_heardBy_42 : decode prog_12_method_127_code 42 = .ok (.iload_n 2, 1) := by decide +kernel
theorem d_TM_heardBy_43 : decode prog_12_method_127_code 43 = .ok (.aload_n 0, 1) := by decide +kernel
theorem d_TM_heardBy_44 : decode prog_12_method_127_code 44 = .ok (.getfield 7, 3) := by decide +kernel
theorem d_TM_heardBy_47 : decode prog_12_method_127_code 47 = .ok (.bipush 34, 2) := by decide +kernel
theorem d_TM_heardBy_49 : decode prog_12_method_127_code 49 = .ok (.iload 4, 2) := by decide +kernel
theorem d_TM_heardBy_51 : decode prog_12_method_127_code 51 = .ok (.iadd, 1) := by decide +kernel
theorem d_TM_heardBy_52 : decode prog_12_method_127_code 52 = .ok (.iaload, 1) := by decide +kernel
theorem d_TM_heardBy_53 : decode prog_12_method_127_code 53 = .ok (.ior, 1) := by decide +kernel
theorem d_TM_heardBy_54 : decode prog_12_method_127_code 54 = .ok (.istore_n 2, 1) := by decide +kernel
theorem d_TM_heardBy_55 : decode prog_12_method_127_code 55 = .ok (.iinc 4 1, 3) := by decide +kernel
theorem d_TM_heardBy_58 : decode prog_12_method_127_code 58 = .ok (.goto (-36), 3) := by decide +kernel
theorem d_TM_heardBy_61 : decode prog_12_method_127_code 61 = .ok (.goto (-49), 3) := by decide +kernel
theorem d_TM_heardBy_64 : decode prog_12_method_127_code 64 = .ok (.iload_n 2, 1) := by decide +kernel
theorem d_TM_heardBy_65 : decode prog_12_method_127_code 65 = .ok (.ireturn, 1) := by decide +kernel
theorem d_TM_circles_0 : decode prog_12_method_129_code 0 = .ok (.iconst 0, 1) := by decide +kernel
theorem d_TM_circles_1 : decode prog_12_method_129_code 1 = .ok (.istore_n 1, 1) := by decide +kernel
theorem d_TM_circles_2 : decode prog_12_method_129_code 2 = .ok (.iconst 0, 1) := by decide +kernel
theorem d_TM_circles_3 : decode prog_12_method_129_code 3 = .ok (.istore_n 2, 1) := by decide +kernel
theorem d_TM_circles_4 : decode prog_12_method_129_code 4 = .ok (.iload_n 2, 1) := by decide +kernel
theorem d_TM_circles_5 : decode prog_12_method_129_code 5 = .ok (.aload_n 0, 1) := by decide +kernel
theorem d_TM_circles_6 : decode prog_12_method_129_code 6 = .ok (.getfield 7, 3) := by decide +kernel
theorem d_TM_circles_9 : decode prog_12_method_129_code 9 = .ok (.iconst 0, 1) := by decide +kernel
theorem d_TM_circles_10 : decode prog_12_method_129_code 10 = .ok (.iaload, 1) := by decide +kernel
theorem d_TM_circles_11 : decode prog_12_method_129_code 11 = .ok (.if_icmp .ge 74, 3) := by decide +kernel
theorem d_TM_circles_14 : decode prog_12_method_129_code 14 = .ok (.iconst 1, 1) := by decide +kernel
theorem d_TM_circles_15 : decode prog_12_method_129_code 15 = .ok (.istore_n 3, 1) := by decide +kernel
theorem d_TM_circles_16 : decode prog_12_method_129_code 16 = .ok (.iconst 0, 1) := by decide +kernel
theorem d_TM_circles_17 : decode prog_12_method_129_code 17 = .ok (.istore 4, 2) := by decide +kernel
theorem d_TM_circles_19 : decode prog_12_method_129_code 19 = .ok (.iload 4, 2) := by decide +kernel
theorem d_TM_circles_21 : decode prog_12_method_129_code 21 = .ok (.iload_n 2, 1) := by decide +kernel
theorem d_TM_circles_22 : decode prog_12_method_129_code 22 = .ok (.if_icmp .ge 45, 3) := by decide +kernel
theorem d_TM_circles_25 : decode prog_12_method_129_code 25 = .ok (.iload_n 3, 1) := by decide +kernel
theorem d_TM_circles_26 : decode prog_12_method_129_code 26 = .ok (.ifCond .eq 33, 3) := by decide +kernel
theorem d_TM_circles_29 : decode prog_12_method_129_code 29 = .ok (.aload_n 0, 1) := by decide +kernel
theorem d_TM_circles_30 : decode prog_12_method_129_code 30 = .ok (.iload_n 2, 1) := by decide +kernel
theorem d_TM_circles_31 : decode prog_12_method_129_code 31 = .ok (.invokevirtual 416, 3) := by decide +kernel
theorem d_TM_circles_34 : decode prog_12_method_129_code 34 = .ok (.iload 4, 2) := by decide +kernel
theorem d_TM_circles_36 : decode prog_12_method_129_code 36 = .ok (.invokestatic 229, 3) := by decide +kernel
theorem d_TM_circles_39 : decode prog_12_method_129_code 39 = .ok (.ifCond .eq 16, 3) := by decide +kernel
theorem d_TM_circles_42 : decode prog_12_method_129_code 42 = .ok (.aload_n 0, 1) := by decide +kernel
theorem d_TM_circles_43 : decode prog_12_method_129_code 43 = .ok (.iload 4, 2) := by decide +kernel
theorem d_TM_circles_45 : decode prog_12_method_129_code 45 = .ok (.invokevirtual 416, 3) := by decide +kernel
theorem d_TM_circles_48 : decode prog_12_method_129_code 48 = .ok (.iload_n 2, 1) := by decide +kernel
theorem d_TM_circles_49 : decode prog_12_method_129_code 49 = .ok (.invokestatic 229, 3) := by decide +kernel
theorem d_TM_circles_52 : decode prog_12_method_129_code 52 = .ok (.ifCond .ne 7, 3) := by decide +kernel
theorem d_TM_circles_55 : decode prog_12_method_129_code 55 = .ok (.iconst 1, 1) := by decide +kernel
theorem d_TM_circles_56 : decode prog_12_method_129_code 56 = .ok (.goto 4, 3) := by decide +kernel
theorem d_TM_circles_59 : decode prog_12_method_129_code 59 = .ok (.iconst 0, 1) := by decide +kernel
theorem d_TM_circles_60 : decode prog_12_method_129_code 60 = .ok (.istore_n 3, 1) := by decide +kernel
theorem d_TM_circles_61 : decode prog_12_method_129_code 61 = .ok (.iinc 4 1, 3) := by decide +kernel
theorem d_TM_circles_64 : decode prog_12_method_129_code 64 = .ok (.goto (-45), 3) := by decide +kernel
theorem d_TM_circles_67 : decode prog_12_method_129_code 67 = .ok (.iload_n 1, 1) := by decide +kernel
theorem d_TM_circles_68 : decode prog_12_method_129_code 68 = .ok (.iload_n 3, 1) := by decide +kernel
theorem d_TM_circles_69 : decode prog_12_method_129_code 69 = .ok (.ifCond .eq 7, 3) := by decide +kernel
theorem d_TM_circles_72 : decode prog_12_method_129_code 72 = .ok (.iconst 1, 1) := by decide +kernel
theorem d_TM_circles_73 : decode prog_12_method_129_code 73 = .ok (.goto 4, 3) := by decide +kernel
theorem d_TM_circles_76 : decode prog_12_method_129_code 76 = .ok (.iconst 0, 1) := by decide +kernel
theorem d_TM_circles_77 : decode prog_12_method_129_code 77 = .ok (.iadd, 1) := by decide +kernel
theorem d_TM_circles_78 : decode prog_12_method_129_code 78 = .ok (.istore_n 1, 1) := by decide +kernel
theorem d_TM_circles_79 : decode prog_12_method_129_code 79 = .ok (.iinc 2 1, 3) := by decide +kernel
theorem d_TM_circles_82 : decode prog_12_method_129_code 82 = .ok (.goto (-78), 3) := by decide +kernel
theorem d_TM_circles_85 : decode prog_12_method_129_code 85 = .ok (.iload_n 1, 1) := by decide +kernel
theorem d_TM_circles_86 : decode prog_12_method_129_code 86 = .ok (.ireturn, 1) := by decide +kernel
theorem d_TM_loud_0 : decode prog_12_method_131_code 0 = .ok (.iconst (-1), 1) := by decide +kernel
theorem d_TM_loud_1 : decode prog_12_method_131_code 1 = .ok (.istore_n 1, 1) := by decide +kernel
theorem d_TM_loud_2 : decode prog_12_method_131_code 2 = .ok (.iconst 0, 1) := by decide +kernel
theorem d_TM_loud_3 : decode prog_12_method_131_code 3 = .ok (.istore_n 2, 1) := by decide +kernel
theorem d_TM_loud_4 : decode prog_12_method_131_code 4 = .ok (.iload_n 2, 1) := by decide +kernel
theorem d_TM_loud_5 : decode prog_12_method_131_code 5 = .ok (.aload_n 0, 1) := by decide +kernel
theorem d_TM_loud_6 : decode prog_12_method_131_code 6 = .ok (.getfield 7, 3) := by decide +kernel
theorem d_TM_loud_9 : decode prog_12_method_131_code 9 = .ok (.iconst 0, 1) := by decide +kernel
theorem d_TM_loud_10 : decode prog_12_method_131_code 10 = .ok (.iaload, 1) := by decide +kernel
theorem d_TM_loud_11 : decode prog_12_method_131_code 11 = .ok (.if_icmp .ge 33, 3) := by decide +kernel
theorem d_TM_loud_14 : decode prog_12_method_131_code 14 = .ok (.aload_n 0, 1) := by decide +kernel
theorem d_TM_loud_15 : decode prog_12_method_131_code 15 = .ok (.iload_n 2, 1) := by decide +kernel
theorem d_TM_loud_16 : decode prog_12_method_131_code 16 = .ok (.invokevirtual 419, 3) := by decide +kernel
theorem d_TM_loud_19 : decode prog_12_method_131_code 19 = .ok (.iload_n 1, 1) := by decide +kernel
theorem d_TM_loud_20 : decode prog_12_method_131_code 20 = .ok (.iconst (-1), 1) := by decide +kernel
theorem d_TM_loud_21 : decode prog_12_method_131_code 21 = .ok (.if_icmp .ne 7, 3) := by decide +kernel
theorem d_TM_loud_24 : decode prog_12_method_131_code 24 = .ok (.iconst 0, 1) := by decide +kernel
theorem d_TM_loud_25 : decode prog_12_method_131_code 25 = .ok (.goto 8, 3) := by decide +kernel
theorem d_TM_loud_28 : decode prog_12_method_131_code 28 = .ok (.aload_n 0, 1) := by decide +kernel
theorem d_TM_loud_29 : decode prog_12_method_131_code 29 = .ok (.iload_n 1, 1) := by decide +kernel
theorem d_TM_loud_30 : decode prog_12_method_131_code 30 = .ok (.invokevirtual 419, 3) := by decide +kernel
theorem d_TM_loud_33 : decode prog_12_method_131_code 33 = .ok (.if_icmp .le 5, 3) := by decide +kernel
theorem d_TM_loud_36 : decode prog_12_method_131_code 36 = .ok (.iload_n 2, 1) := by decide +kernel
theorem d_TM_loud_37 : decode prog_12_method_131_code 37 = .ok (.istore_n 1, 1) := by decide +kernel
theorem d_TM_loud_38 : decode prog_12_method_131_code 38 = .ok (.iinc 2 1, 3) := by decide +kernel
theorem d_TM_loud_41 : decode prog_12_method_131_code 41 = .ok (.goto (-37), 3) := by decide +kernel
theorem d_TM_loud_44 : decode prog_12_method_131_code 44 = .ok (.iload_n 1, 1) := by decide +kernel
theorem d_TM_loud_45 : decode prog_12_method_131_code 45 = .ok (.ireturn, 1) := by decide +kernel
theorem d_TM_hearers_0 : decode prog_12_method_130_code 0 = .ok (.iconst 0, 1) := by decide +kernel
theorem d_TM_hearers_1 : decode prog_12_method_130_code 1 = .ok (.istore_n 2, 1) := by decide +kernel
theorem d_TM_hearers_2 : decode prog_12_method_130_code 2 = .ok (.iconst 0, 1) := by decide +kernel
theorem d_TM_hearers_3 : decode prog_12_method_130_code 3 = .ok (.istore_n 3, 1) := by decide +kernel
theorem d_TM_hearers_4 : decode prog_12_method_130_code 4 = .ok (.iload_n 3, 1) := by decide +kernel
theorem d_TM_hearers_5 : decode prog_12_method_130_code 5 = .ok (.aload_n 0, 1) := by decide +kernel
theorem d_TM_hearers_6 : decode prog_12_method_130_code 6 = .ok (.getfield 7, 3) := by decide +kernel
theorem d_TM_hearers_9 : decode prog_12_method_130_code 9 = .ok (.iconst 0, 1) := by decide +kernel
theorem d_TM_hearers_10 : decode prog_12_method_130_code 10 = .ok (.iaload, 1) := by decide +kernel
theorem d_TM_hearers_11 : decode prog_12_method_130_code 11 = .ok (.if_icmp .ge 25, 3) := by decide +kernel
theorem d_TM_hearers_14 : decode prog_12_method_130_code 14 = .ok (.iload_n 2, 1) := by decide +kernel
theorem d_TM_hearers_15 : decode prog_12_method_130_code 15 = .ok (.aload_n 0, 1) := by decide +kernel
theorem d_TM_hearers_16 : decode prog_12_method_130_code 16 = .ok (.getfield 7, 3) := by decide +kernel
theorem d_TM_hearers_19 : decode prog_12_method_130_code 19 = .ok (.bipush 34, 2) := by decide +kernel
theorem d_TM_hearers_21 : decode prog_12_method_130_code 21 = .ok (.iload_n 3, 1) := by decide +kernel
theorem d_TM_hearers_22 : decode prog_12_method_130_code 22 = .ok (.iadd, 1) := by decide +kernel
theorem d_TM_hearers_23 : decode prog_12_method_130_code 23 = .ok (.iaload, 1) := by decide +kernel
theorem d_TM_hearers_24 : decode prog_12_method_130_code 24 = .ok (.iload_n 1, 1) := by decide +kernel
theorem d_TM_hearers_25 : decode prog_12_method_130_code 25 = .ok (.ishr, 1) := by decide +kernel
theorem d_TM_hearers_26 : decode prog_12_method_130_code 26 = .ok (.iconst 1, 1) := by decide +kernel
theorem d_TM_hearers_27 : decode prog_12_method_130_code 27 = .ok (.iand, 1) := by decide +kernel
theorem d_TM_hearers_28 : decode prog_12_method_130_code 28 = .ok (.iadd, 1) := by decide +kernel
theorem d_TM_hearers_29 : decode prog_12_method_130_code 29 = .ok (.istore_n 2, 1) := by decide +kernel
theorem d_TM_hearers_30 : decode prog_12_method_130_code 30 = .ok (.iinc 3 1, 3) := by decide +kernel
theorem d_TM_hearers_33 : decode prog_12_method_130_code 33 = .ok (.goto (-29), 3) := by decide +kernel
theorem d_TM_hearers_36 : decode prog_12_method_130_code 36 = .ok (.iload_n 2, 1) := by decide +kernel
theorem d_TM_hearers_37 : decode prog_12_method_130_code 37 = .ok (.ireturn, 1) := by decide +kernel
theorem d_TM_part_0 : decode prog_12_method_134_code 0 = .ok (.iconst 0, 1) := by decide +kernel
theorem d_TM_part_1 : decode prog_12_method_134_code 1 = .ok (.istore_n 1, 1) := by decide +kernel
theorem d_TM_part_2 : decode prog_12_method_134_code 2 = .ok (.iconst 1, 1) := by decide +kernel
theorem d_TM_part_3 : decode prog_12_method_134_code 3 = .ok (.istore_n 2, 1) := by decide +kernel
theorem d_TM_part_4 : decode prog_12_method_134_code 4 = .ok (.iload_n 2, 1) := by decide +kernel
theorem d_TM_part_5 : decode prog_12_method_134_code 5 = .ok (.aload_n 0, 1) := by decide +kernel
theorem d_TM_part_6 : decode prog_12_method_134_code 6 = .ok (.getfield 7, 3) := by decide +kernel
theorem d_TM_part_9 : decode prog_12_method_134_code 9 = .ok (.iconst 0, 1) := by decide +kernel
theorem d_TM_part_10 : decode prog_12_method_134_code 10 = .ok (.iaload, 1) := by decide +kernel
theorem d_TM_part_11 : decode prog_12_method_134_code 11 = .ok (.if_icmp .gt 24, 3) := by decide +kernel
theorem d_TM_part_14 : decode prog_12_method_134_code 14 = .ok (.aload_n 0, 1) := by decide +kernel
theorem d_TM_part_15 : decode prog_12_method_134_code 15 = .ok (.iload_n 2, 1) := by decide +kernel
theorem d_TM_part_16 : decode prog_12_method_134_code 16 = .ok (.invokevirtual 425, 3) := by decide +kernel
theorem d_TM_part_19 : decode prog_12_method_134_code 19 = .ok (.aload_n 0, 1) := by decide +kernel
theorem d_TM_part_20 : decode prog_12_method_134_code 20 = .ok (.iload_n 1, 1) := by decide +kernel
theorem d_TM_part_21 : decode prog_12_method_134_code 21 = .ok (.invokevirtual 425, 3) := by decide +kernel
theorem d_TM_part_24 : decode prog_12_method_134_code 24 = .ok (.if_icmp .le 5, 3) := by decide +kernel
theorem d_TM_part_27 : decode prog_12_method_134_code 27 = .ok (.iload_n 2, 1) := by decide +kernel
theorem d_TM_part_28 : decode prog_12_method_134_code 28 = .ok (.istore_n 1, 1) := by decide +kernel
theorem d_TM_part_29 : decode prog_12_method_134_code 29 = .ok (.iinc 2 1, 3) := by decide +kernel
theorem d_TM_part_32 : decode prog_12_method_134_code 32 = .ok (.goto (-28), 3) := by decide +kernel
theorem d_TM_part_35 : decode prog_12_method_134_code 35 = .ok (.iload_n 1, 1) := by decide +kernel
theorem d_TM_part_36 : decode prog_12_method_134_code 36 = .ok (.ireturn, 1) := by decide +kernel
theorem d_TM_unlikeBy_0 : decode prog_12_method_133_code 0 = .ok (.iconst 0, 1) := by decide +kernel
theorem d_TM_unlikeBy_1 : decode prog_12_method_133_code 1 = .ok (.istore_n 2, 1) := by decide +kernel
theorem d_TM_unlikeBy_2 : decode prog_12_method_133_code 2 = .ok (.iconst 0, 1) := by decide +kernel
theorem d_TM_unlikeBy_3 : decode prog_12_method_133_code 3 = .ok (.istore_n 3, 1) := by decide +kernel
theorem d_TM_unlikeBy_4 : decode prog_12_method_133_code 4 = .ok (.iload_n 3, 1) := by decide +kernel
theorem d_TM_unlikeBy_5 : decode prog_12_method_133_code 5 = .ok (.aload_n 0, 1) := by decide +kernel
theorem d_TM_unlikeBy_6 : decode prog_12_method_133_code 6 = .ok (.getfield 7, 3) := by decide +kernel
theorem d_TM_unlikeBy_9 : decode prog_12_method_133_code 9 = .ok (.iconst 1, 1) := by decide +kernel
theorem d_TM_unlikeBy_10 : decode prog_12_method_133_code 10 = .ok (.iaload, 1) := by decide +kernel
theorem d_TM_unlikeBy_11 : decode prog_12_method_133_code 11 = .ok (.if_icmp .ge 20, 3) := by decide +kernel
theorem d_TM_unlikeBy_14 : decode prog_12_method_133_code 14 = .ok (.iload_n 2, 1) := by decide +kernel
theorem d_TM_unlikeBy_15 : decode prog_12_method_133_code 15 = .ok (.iconst 1, 1) := by decide +kernel
theorem d_TM_unlikeBy_16 : decode prog_12_method_133_code 16 = .ok (.aload_n 0, 1) := by decide +kernel
theorem d_TM_unlikeBy_17 : decode prog_12_method_133_code 17 = .ok (.iload_n 3, 1) := by decide +kernel
theorem d_TM_unlikeBy_18 : decode prog_12_method_133_code 18 = .ok (.iload_n 1, 1) := by decide +kernel
theorem d_TM_unlikeBy_19 : decode prog_12_method_133_code 19 = .ok (.invokevirtual 422, 3) := by decide +kernel
theorem d_TM_unlikeBy_22 : decode prog_12_method_133_code 22 = .ok (.ishl, 1) := by decide +kernel
theorem d_TM_unlikeBy_23 : decode prog_12_method_133_code 23 = .ok (.ior, 1) := by decide +kernel
theorem d_TM_unlikeBy_24 : decode prog_12_method_133_code 24 = .ok (.istore_n 2, 1) := by decide +kernel
theorem d_TM_unlikeBy_25 : decode prog_12_method_133_code 25 = .ok (.iinc 3 1, 3) := by decide +kernel
theorem d_TM_unlikeBy_28 : decode prog_12_method_133_code 28 = .ok (.goto (-24), 3) := by decide +kernel
theorem d_TM_unlikeBy_31 : decode prog_12_method_133_code 31 = .ok (.iload_n 2, 1) := by decide +kernel
theorem d_TM_unlikeBy_32 : decode prog_12_method_133_code 32 = .ok (.invokestatic 267, 3) := by decide +kernel
theorem d_TM_unlikeBy_35 : decode prog_12_method_133_code 35 = .ok (.ireturn, 1) := by decide +kernel
theorem d_TM_countBy_0 : decode prog_12_method_132_code 0 = .ok (.iconst 0, 1) := by decide +kernel
theorem d_TM_countBy_1 : decode prog_12_method_132_code 1 = .ok (.istore_n 3, 1) := by decide +kernel
theorem d_TM_countBy_2 : decode prog_12_method_132_code 2 = .ok (.iconst 0, 1) := by decide +kernel
theorem d_TM_countBy_3 : decode prog_12_method_132_code 3 = .ok (.istore 4, 2) := by decide +kernel
theorem d_TM_countBy_5 : decode prog_12_method_132_code 5 = .ok (.iload 4, 2) := by decide +kernel
theorem d_TM_countBy_7 : decode prog_12_method_132_code 7 = .ok (.aload_n 0, 1) := by decide +kernel
theorem d_TM_countBy_8 : decode prog_12_method_132_code 8 = .ok (.getfield 7, 3) := by decide +kernel
theorem d_TM_countBy_11 : decode prog_12_method_132_code 11 = .ok (.iconst 0, 1) := by decide +kernel
theorem d_TM_countBy_12 : decode prog_12_method_132_code 12 = .ok (.iaload, 1) := by decide +kernel
theorem d_TM_countBy_13 : decode prog_12_method_132_code 13 = .ok (.if_icmp .ge 28, 3) := by decide +kernel
theorem d_TM_countBy_16 : decode prog_12_method_132_code 16 = .ok (.iload_n 3, 1) := by decide +kernel
theorem d_TM_countBy_17 : decode prog_12_method_132_code 17 = .ok (.aload_n 0, 1) := by decide +kernel
theorem d_TM_countBy_18 : decode prog_12_method_132_code 18 = .ok (.iload_n 1, 1) := by decide +kernel
theorem d_TM_countBy_19 : decode prog_12_method_132_code 19 = .ok (.iload 4, 2) := by decide +kernel
theorem d_TM_countBy_21 : decode prog_12_method_132_code 21 = .ok (.iload_n 2, 1) := by decide +kernel
theorem d_TM_countBy_22 : decode prog_12_method_132_code 22 = .ok (.invokevirtual 283, 3) := by decide +kernel
theorem d_TM_countBy_25 : decode prog_12_method_132_code 25 = .ok (.ifCond .eq 7, 3) := by decide +kernel
theorem d_TM_countBy_28 : decode prog_12_method_132_code 28 = .ok (.iconst 1, 1) := by decide +kernel
theorem d_TM_countBy_29 : decode prog_12_method_132_code 29 = .ok (.goto 4, 3) := by decide +kernel
theorem d_TM_countBy_32 : decode prog_12_method_132_code 32 = .ok (.iconst 0, 1) := by decide +kernel
theorem d_TM_countBy_33 : decode prog_12_method_132_code 33 = .ok (.iadd, 1) := by decide +kernel
theorem d_TM_countBy_34 : decode prog_12_method_132_code 34 = .ok (.istore_n 3, 1) := by decide +kernel
theorem d_TM_countBy_35 : decode prog_12_method_132_code 35 = .ok (.iinc 4 1, 3) := by decide +kernel
theorem d_TM_countBy_38 : decode prog_12_method_132_code 38 = .ok (.goto (-33), 3) := by decide +kernel
theorem d_TM_countBy_41 : decode prog_12_method_132_code 41 = .ok (.iload_n 3, 1) := by decide +kernel
theorem d_TM_countBy_42 : decode prog_12_method_132_code 42 = .ok (.ireturn, 1) := by decide +kernel
theorem d_TM_game_0 : decode prog_12_method_138_code 0 = .ok (.iload_n 1, 1) := by decide +kernel
theorem d_TM_game_1 : decode prog_12_method_138_code 1 = .ok (.iconst 0, 1) := by decide +kernel
theorem d_TM_game_2 : decode prog_12_method_138_code 2 = .ok (.bipush 8, 2) := by decide +kernel
theorem d_TM_game_4 : decode prog_12_method_138_code 4 = .ok (.invokestatic 69, 3) := by decide +kernel
theorem d_TM_game_7 : decode prog_12_method_138_code 7 = .ok (.ifCond .ne 5, 3) := by decide +kernel
theorem d_TM_game_10 : decode prog_12_method_138_code 10 = .ok (.iconst (-1), 1) := by decide +kernel
theorem d_TM_game_11 : decode prog_12_method_138_code 11 = .ok (.ireturn, 1) := by decide +kernel
theorem d_TM_game_12 : decode prog_12_method_138_code 12 = .ok (.aload_n 0, 1) := by decide +kernel
theorem d_TM_game_13 : decode prog_12_method_138_code 13 = .ok (.iload_n 1, 1) := by decide +kernel
theorem d_TM_game_14 : decode prog_12_method_138_code 14 = .ok (.invokevirtual 434, 3) := by decide +kernel
theorem d_TM_game_17 : decode prog_12_method_138_code 17 = .ok (.aload_n 0, 1) := by decide +kernel
theorem d_TM_game_18 : decode prog_12_method_138_code 18 = .ok (.getfield 62, 3) := by decide +kernel
theorem d_TM_game_21 : decode prog_12_method_138_code 21 = .ok (.bipush 9, 2) := by decide +kernel
theorem d_TM_game_23 : decode prog_12_method_138_code 23 = .ok (.iload_n 1, 1) := by decide +kernel
theorem d_TM_game_24 : decode prog_12_method_138_code 24 = .ok (.imul, 1) := by decide +kernel
theorem d_TM_game_25 : decode prog_12_method_138_code 25 = .ok (.aload_n 0, 1) := by decide +kernel
theorem d_TM_game_26 : decode prog_12_method_138_code 26 = .ok (.getfield 7, 3) := by decide +kernel
theorem d_TM_game_29 : decode prog_12_method_138_code 29 = .ok (.bipush 7, 2) := by decide +kernel
theorem d_TM_game_31 : decode prog_12_method_138_code 31 = .ok (.iaload, 1) := by decide +kernel
theorem d_TM_game_32 : decode prog_12_method_138_code 32 = .ok (.iadd, 1) := by decide +kernel
theorem d_TM_game_33 : decode prog_12_method_138_code 33 = .ok (.iaload, 1) := by decide +kernel
theorem d_TM_game_34 : decode prog_12_method_138_code 34 = .ok (.ireturn, 1) := by decide +kernel
theorem d_TM_layGames_0 : decode prog_12_method_137_code 0 = .ok (.aload_n 0, 1) := by decide +kernel
theorem d_TM_layGames_1 : decode prog_12_method_137_code 1 = .ok (.invokevirtual 362, 3) := by decide +kernel
theorem d_TM_layGames_4 : decode prog_12_method_137_code 4 = .ok (.iconst 0, 1) := by decide +kernel
theorem d_TM_layGames_5 : decode prog_12_method_137_code 5 = .ok (.istore_n 2, 1) := by decide +kernel
theorem d_TM_layGames_6 : decode prog_12_method_137_code 6 = .ok (.iload_n 2, 1) := by decide +kernel
theorem d_TM_layGames_7 : decode prog_12_method_137_code 7 = .ok (.aload_n 0, 1) := by decide +kernel
theorem d_TM_layGames_8 : decode prog_12_method_137_code 8 = .ok (.getfield 7, 3) := by decide +kernel
theorem d_TM_layGames_11 : decode prog_12_method_137_code 11 = .ok (.iconst 0, 1) := by decide +kernel
theorem d_TM_layGames_12 : decode prog_12_method_137_code 12 = .ok (.iaload, 1) := by decide +kernel
theorem d_TM_layGames_13 : decode prog_12_method_137_code 13 = .ok (.if_icmp .gt 16, 3) := by decide +kernel
theorem d_TM_layGames_16 : decode prog_12_method_137_code 16 = .ok (.aload_n 0, 1) := by decide +kernel
theorem d_TM_layGames_17 : decode prog_12_method_137_code 17 = .ok (.getfield 62, 3) := by decide +kernel
theorem d_TM_layGames_20 : decode prog_12_method_137_code 20 = .ok (.iload_n 2, 1) := by decide +kernel
theorem d_TM_layGames_21 : decode prog_12_method_137_code 21 = .ok (.iload_n 2, 1) := by decide +kernel
theorem d_TM_layGames_22 : decode prog_12_method_137_code 22 = .ok (.iastore, 1) := by decide +kernel
theorem d_TM_layGames_23 : decode prog_12_method_137_code 23 = .ok (.iinc 2 1, 3) := by decide +kernel
theorem d_TM_layGames_26 : decode prog_12_method_137_code 26 = .ok (.goto (-20), 3) := by decide +kernel
theorem d_TM_layGames_29 : decode prog_12_method_137_code 29 = .ok (.iconst 1, 1) := by decide +kernel
theorem d_TM_layGames_30 : decode prog_12_method_137_code 30 = .ok (.istore_n 2, 1) := by decide +kernel
theorem d_TM_layGames_31 : decode prog_12_method_137_code 31 = .ok (.iload_n 2, 1) := by decide +kernel
theorem d_TM_layGames_32 : decode prog_12_method_137_code 32 = .ok (.iload_n 1, 1) := by decide +kernel
theorem d_TM_layGames_33 : decode prog_12_method_137_code 33 = .ok (.if_icmp .gt 136, 3) := by decide +kernel
theorem d_TM_layGames_36 : decode prog_12_method_137_code 36 = .ok (.iload_n 1, 1) := by decide +kernel
theorem d_TM_layGames_37 : decode prog_12_method_137_code 37 = .ok (.iload_n 2, 1) := by decide +kernel
theorem d_TM_layGames_38 : decode prog_12_method_137_code 38 = .ok (.isub, 1) := by decide +kernel
theorem d_TM_layGames_39 : decode prog_12_method_137_code 39 = .ok (.iconst 2, 1) := by decide +kernel
theorem d_TM_layGames_40 : decode prog_12_method_137_code 40 = .ok (.irem, 1) := by decide +kernel
theorem d_TM_layGames_41 : decode prog_12_method_137_code 41 = .ok (.ifCond .ne 7, 3) := by decide +kernel
theorem d_TM_layGames_44 : decode prog_12_method_137_code 44 = .ok (.iconst 1, 1) := by decide +kernel
theorem d_TM_layGames_45 : decode prog_12_method_137_code 45 = .ok (.goto 4, 3) := by decide +kernel
theorem d_TM_layGames_48 : decode prog_12_method_137_code 48 = .ok (.iconst 0, 1) := by decide +kernel
theorem d_TM_layGames_49 : decode prog_12_method_137_code 49 = .ok (.istore_n 3, 1) := by decide +kernel
theorem d_TM_layGames_50 : decode prog_12_method_137_code 50 = .ok (.iconst 0, 1) := by decide +kernel
theorem d_TM_layGames_51 : decode prog_12_method_137_code 51 = .ok (.istore 4, 2) := by decide +kernel
theorem d_TM_layGames_53 : decode prog_12_method_137_code 53 = .ok (.iload 4, 2) := by decide +kernel
theorem d_TM_layGames_55 : decode prog_12_method_137_code 55 = .ok (.aload_n 0, 1) := by decide +kernel
theorem d_TM_layGames_56 : decode prog_12_method_137_code 56 = .ok (.getfield 7, 3) := by decide +kernel
theorem d_TM_layGames_59 : decode prog_12_method_137_code 59 = .ok (.iconst 0, 1) := by decide +kernel
theorem d_TM_layGames_60 : decode prog_12_method_137_code 60 = .ok (.iaload, 1) := by decide +kernel
theorem d_TM_layGames_61 : decode prog_12_method_137_code 61 = .ok (.if_icmp .gt 102, 3) := by decide +kernel
theorem d_TM_layGames_64 : decode prog_12_method_137_code 64 = .ok (.iconst (-1), 1) := by decide +kernel
theorem d_TM_layGames_65 : decode prog_12_method_137_code 65 = .ok (.istore 5, 2) := by decide +kernel
theorem d_TM_layGames_67 : decode prog_12_method_137_code 67 = .ok (.iconst 0, 1) := by decide +kernel
theorem d_TM_layGames_68 : decode prog_12_method_137_code 68 = .ok (.istore 6, 2) := by decide +kernel
theorem d_TM_layGames_70 : decode prog_12_method_137_code 70 = .ok (.iload 6, 2) := by decide +kernel
theorem d_TM_layGames_72 : decode prog_12_method_137_code 72 = .ok (.aload_n 0, 1) := by decide +kernel
theorem d_TM_layGames_73 : decode prog_12_method_137_code 73 = .ok (.getfield 7, 3) := by decide +kernel
theorem d_TM_layGames_76 : decode prog_12_method_137_code 76 = .ok (.iconst 0, 1) := by decide +kernel
theorem d_TM_layGames_77 : decode prog_12_method_137_code 77 = .ok (.iaload, 1) := by decide +kernel
theorem d_TM_layGames_78 : decode prog_12_method_137_code 78 = .ok (.if_icmp .gt 65, 3) := by decide +kernel
theorem d_TM_layGames_81 : decode prog_12_method_137_code 81 = .ok (.aload_n 0, 1) := by decide +kernel
theorem d_TM_layGames_82 : decode prog_12_method_137_code 82 = .ok (.iload 4, 2) := by decide +kernel
theorem d_TM_layGames_84 : decode prog_12_method_137_code 84 = .ok (.iload 6, 2) := by decide +kernel
theorem d_TM_layGames_86 : decode prog_12_method_137_code 86 = .ok (.invokevirtual 428, 3) := by decide +kernel
theorem d_TM_layGames_89 : decode prog_12_method_137_code 89 = .ok (.ifCond .ne 6, 3) := by decide +kernel
theorem d_TM_layGames_92 : decode prog_12_method_137_code 92 = .ok (.goto 45, 3) := by decide +kernel
theorem d_TM_layGames_95 : decode prog_12_method_137_code 95 = .ok (.aload_n 0, 1) := by decide +kernel
theorem d_TM_layGames_96 : decode prog_12_method_137_code 96 = .ok (.iload_n 2, 1) := by decide +kernel
theorem d_TM_layGames_97 : decode prog_12_method_137_code 97 = .ok (.iconst 1, 1) := by decide +kernel
theorem d_TM_layGames_98 : decode prog_12_method_137_code 98 = .ok (.isub, 1) := by decide +kernel
theorem d_TM_layGames_99 : decode prog_12_method_137_code 99 = .ok (.iload 6, 2) := by decide +kernel
theorem d_TM_layGames_101 : decode prog_12_method_137_code 101 = .ok (.invokevirtual 431, 3) := by decide +kernel
theorem d_TM_layGames_104 : decode prog_12_method_137_code 104 = .ok (.istore 7, 2) := by decide +kernel
theorem d_TM_layGames_106 : decode prog_12_method_137_code 106 = .ok (.iload 5, 2) := by decide +kernel
theorem d_TM_layGames_108 : decode prog_12_method_137_code 108 = .ok (.iconst (-1), 1) := by decide +kernel
theorem d_TM_layGames_109 : decode prog_12_method_137_code 109 = .ok (.if_icmp .eq 24, 3) := by decide +kernel
theorem d_TM_layGames_112 : decode prog_12_method_137_code 112 = .ok (.iload_n 3, 1) := by decide +kernel
theorem d_TM_layGames_113 : decode prog_12_method_137_code 113 = .ok (.ifCond .eq 13, 3) := by decide +kernel
theorem d_TM_layGames_116 : decode prog_12_method_137_code 116 = .ok (.iload 7, 2) := by decide +kernel
theorem d_TM_layGames_118 : decode prog_12_method_137_code 118 = .ok (.iload 5, 2) := by decide +kernel
theorem d_TM_layGames_120 : decode prog_12_method_137_code 120 = .ok (.if_icmp .le 17, 3) := by decide +kernel
theorem d_TM_layGames_123 : decode prog_12_method_137_code 123 = .ok (.goto 10, 3) := by decide +kernel
theorem d_TM_layGames_126 : decode prog_12_method_137_code 126 = .ok (.iload 7, 2) := by decide +kernel
theorem d_TM_layGames_128 : decode prog_12_method_137_code 128 = .ok (.iload 5, 2) := by decide +kernel
theorem d_TM_layGames_130 : decode prog_12_method_137_code 130 = .ok (.if_icmp .ge 7, 3) := by decide +kernel
theorem d_TM_layGames_133 : decode prog_12_method_137_code 133 = .ok (.iload 7, 2) := by decide +kernel
theorem d_TM_layGames_135 : decode prog_12_method_137_code 135 = .ok (.istore 5, 2) := by decide +kernel
theorem d_TM_layGames_137 : decode prog_12_method_137_code 137 = .ok (.iinc 6 1, 3) := by decide +kernel
theorem d_TM_layGames_140 : decode prog_12_method_137_code 140 = .ok (.goto (-70), 3) := by decide +kernel
theorem d_TM_layGames_143 : decode prog_12_method_137_code 143 = .ok (.aload_n 0, 1) := by decide +kernel
theorem d_TM_layGames_144 : decode prog_12_method_137_code 144 = .ok (.getfield 62, 3) := by decide +kernel
theorem d_TM_layGames_147 : decode prog_12_method_137_code 147 = .ok (.bipush 9, 2) := by decide +kernel
theorem d_TM_layGames_149 : decode prog_12_method_137_code 149 = .ok (.iload_n 2, 1) := by decide +kernel
theorem d_TM_layGames_150 : decode prog_12_method_137_code 150 = .ok (.imul, 1) := by decide +kernel
theorem d_TM_layGames_151 : decode prog_12_method_137_code 151 = .ok (.iload 4, 2) := by decide +kernel
theorem d_TM_layGames_153 : decode prog_12_method_137_code 153 = .ok (.iadd, 1) := by decide +kernel
theorem d_TM_layGames_154 : decode prog_12_method_137_code 154 = .ok (.iload 5, 2) := by decide +kernel
theorem d_TM_layGames_156 : decode prog_12_method_137_code 156 = .ok (.iastore, 1) := by decide +kernel
theorem d_TM_layGames_157 : decode prog_12_method_137_code 157 = .ok (.iinc 4 1, 3) := by decide +kernel
theorem d_TM_layGames_160 : decode prog_12_method_137_code 160 = .ok (.goto (-107), 3) := by decide +kernel
theorem d_TM_layGames_163 : decode prog_12_method_137_code 163 = .ok (.iinc 2 1, 3) := by decide +kernel
theorem d_TM_layGames_166 : decode prog_12_method_137_code 166 = .ok (.goto (-135), 3) := by decide +kernel
theorem d_TM_layGames_169 : decode prog_12_method_137_code 169 = .ok (.return_, 1) := by decide +kernel
theorem d_TM_canTell_0 : decode prog_12_method_136_code 0 = .ok (.iload_n 2, 1) := by decide +kernel
theorem d_TM_canTell_1 : decode prog_12_method_136_code 1 = .ok (.iload_n 1, 1) := by decide +kernel
theorem d_TM_canTell_2 : decode prog_12_method_136_code 2 = .ok (.isub, 1) := by decide +kernel
theorem d_TM_canTell_3 : decode prog_12_method_136_code 3 = .ok (.iconst (-1), 1) := by decide +kernel
theorem d_TM_canTell_4 : decode prog_12_method_136_code 4 = .ok (.iconst 1, 1) := by decide +kernel
theorem d_TM_canTell_5 : decode prog_12_method_136_code 5 = .ok (.invokestatic 69, 3) := by decide +kernel
theorem d_TM_canTell_8 : decode prog_12_method_136_code 8 = .ok (.ifCond .eq 15, 3) := by decide +kernel
theorem d_TM_canTell_11 : decode prog_12_method_136_code 11 = .ok (.aload_n 0, 1) := by decide +kernel
theorem d_TM_canTell_12 : decode prog_12_method_136_code 12 = .ok (.iload_n 2, 1) := by decide +kernel
theorem d_TM_canTell_13 : decode prog_12_method_136_code 13 = .ok (.invokevirtual 311, 3) := by decide +kernel
theorem d_TM_canTell_16 : decode prog_12_method_136_code 16 = .ok (.ifCond .eq 7, 3) := by decide +kernel
theorem d_TM_canTell_19 : decode prog_12_method_136_code 19 = .ok (.iconst 1, 1) := by decide +kernel
theorem d_TM_canTell_20 : decode prog_12_method_136_code 20 = .ok (.goto 4, 3) := by decide +kernel
theorem d_TM_canTell_23 : decode prog_12_method_136_code 23 = .ok (.iconst 0, 1) := by decide +kernel
theorem d_TM_canTell_24 : decode prog_12_method_136_code 24 = .ok (.ireturn, 1) := by decide +kernel
theorem d_TM_byTold_0 : decode prog_12_method_135_code 0 = .ok (.aload_n 0, 1) := by decide +kernel
theorem d_TM_byTold_1 : decode prog_12_method_135_code 1 = .ok (.getfield 62, 3) := by decide +kernel
theorem d_TM_byTold_4 : decode prog_12_method_135_code 4 = .ok (.bipush 9, 2) := by decide +kernel
theorem d_TM_byTold_6 : decode prog_12_method_135_code 6 = .ok (.iload_n 1, 1) := by decide +kernel
theorem d_TM_byTold_7 : decode prog_12_method_135_code 7 = .ok (.imul, 1) := by decide +kernel
theorem d_TM_byTold_8 : decode prog_12_method_135_code 8 = .ok (.aload_n 0, 1) := by decide +kernel
theorem d_TM_byTold_9 : decode prog_12_method_135_code 9 = .ok (.getfield 53, 3) := by decide +kernel
theorem d_TM_byTold_12 : decode prog_12_method_135_code 12 = .ok (.iload_n 2, 1) := by decide +kernel
theorem d_TM_byTold_13 : decode prog_12_method_135_code 13 = .ok (.iaload, 1) := by decide +kernel
theorem d_TM_byTold_14 : decode prog_12_method_135_code 14 = .ok (.iadd, 1) := by decide +kernel
theorem d_TM_byTold_15 : decode prog_12_method_135_code 15 = .ok (.iaload, 1) := by decide +kernel
theorem d_TM_byTold_16 : decode prog_12_method_135_code 16 = .ok (.ireturn, 1) := by decide +kernel
theorem d_TM_choice_0 : decode prog_12_method_139_code 0 = .ok (.iload_n 1, 1) := by decide +kernel
theorem d_TM_choice_1 : decode prog_12_method_139_code 1 = .ok (.iconst 1, 1) := by decide +kernel
theorem d_TM_choice_2 : decode prog_12_method_139_code 2 = .ok (.bipush 8, 2) := by decide +kernel
theorem d_TM_choice_4 : decode prog_12_method_139_code 4 = .ok (.invokestatic 69, 3) := by decide +kernel
theorem d_TM_choice_7 : decode prog_12_method_139_code 7 = .ok (.ifCond .ne 5, 3) := by decide +kernel
theorem d_TM_choice_10 : decode prog_12_method_139_code 10 = .ok (.iconst (-1), 1) := by decide +kernel
theorem d_TM_choice_11 : decode prog_12_method_139_code 11 = .ok (.ireturn, 1) := by decide +kernel
theorem d_TM_choice_12 : decode prog_12_method_139_code 12 = .ok (.aload_n 0, 1) := by decide +kernel
theorem d_TM_choice_13 : decode prog_12_method_139_code 13 = .ok (.iload_n 1, 1) := by decide +kernel
theorem d_TM_choice_14 : decode prog_12_method_139_code 14 = .ok (.invokevirtual 434, 3) := by decide +kernel
theorem d_TM_choice_17 : decode prog_12_method_139_code 17 = .ok (.iconst 0, 1) := by decide +kernel
theorem d_TM_choice_18 : decode prog_12_method_139_code 18 = .ok (.istore_n 2, 1) := by decide +kernel
theorem d_TM_choice_19 : decode prog_12_method_139_code 19 = .ok (.aload_n 0, 1) := by decide +kernel
theorem d_TM_choice_20 : decode prog_12_method_139_code 20 = .ok (.aload_n 0, 1) := by decide +kernel
theorem d_TM_choice_21 : decode prog_12_method_139_code 21 = .ok (.getfield 7, 3) := by decide +kernel
theorem d_TM_choice_24 : decode prog_12_method_139_code 24 = .ok (.bipush 7, 2) := by decide +kernel
theorem d_TM_choice_26 : decode prog_12_method_139_code 26 = .ok (.iaload, 1) := by decide +kernel
theorem d_TM_choice_27 : decode prog_12_method_139_code 27 = .ok (.iload_n 2, 1) := by decide +kernel
theorem d_TM_choice_28 : decode prog_12_method_139_code 28 = .ok (.invokevirtual 428, 3) := by decide +kernel
theorem d_TM_choice_31 : decode prog_12_method_139_code 31 = .ok (.ifCond .eq 31, 3) := by decide +kernel
theorem d_TM_choice_34 : decode prog_12_method_139_code 34 = .ok (.aload_n 0, 1) := by decide +kernel
theorem d_TM_choice_35 : decode prog_12_method_139_code 35 = .ok (.iload_n 1, 1) := by decide +kernel
theorem d_TM_choice_36 : decode prog_12_method_139_code 36 = .ok (.iconst 1, 1) := by decide +kernel
theorem d_TM_choice_37 : decode prog_12_method_139_code 37 = .ok (.isub, 1) := by decide +kernel
theorem d_TM_choice_38 : decode prog_12_method_139_code 38 = .ok (.iload_n 2, 1) := by decide +kernel
theorem d_TM_choice_39 : decode prog_12_method_139_code 39 = .ok (.invokevirtual 431, 3) := by decide +kernel
theorem d_TM_choice_42 : decode prog_12_method_139_code 42 = .ok (.aload_n 0, 1) := by decide +kernel
theorem d_TM_choice_43 : decode prog_12_method_139_code 43 = .ok (.getfield 62, 3) := by decide +kernel
theorem d_TM_choice_46 : decode prog_12_method_139_code 46 = .ok (.bipush 9, 2) := by decide +kernel
theorem d_TM_choice_48 : decode prog_12_method_139_code 48 = .ok (.iload_n 1, 1) := by decide +kernel
theorem d_TM_choice_49 : decode prog_12_method_139_code 49 = .ok (.imul, 1) := by decide +kernel
theorem d_TM_choice_50 : decode prog_12_method_139_code 50 = .ok (.aload_n 0, 1) := by decide +kernel
theorem d_TM_choice_51 : decode prog_12_method_139_code 51 = .ok (.getfield 7, 3) := by decide +kernel
theorem d_TM_choice_54 : decode prog_12_method_139_code 54 = .ok (.bipush 7, 2) := by decide +kernel
theorem d_TM_choice_56 : decode prog_12_method_139_code 56 = .ok (.iaload, 1) := by decide +kernel
theorem d_TM_choice_57 : decode prog_12_method_139_code 57 = .ok (.iadd, 1) := by decide +kernel
theorem d_TM_choice_58 : decode prog_12_method_139_code 58 = .ok (.iaload, 1) := by decide +kernel
theorem d_TM_choice_59 : decode prog_12_method_139_code 59 = .ok (.if_icmp .eq 9, 3) := by decide +kernel
theorem d_TM_choice_62 : decode prog_12_method_139_code 62 = .ok (.iinc 2 1, 3) := by decide +kernel
theorem d_TM_choice_65 : decode prog_12_method_139_code 65 = .ok (.goto (-46), 3) := by decide +kernel
theorem d_TM_choice_68 : decode prog_12_method_139_code 68 = .ok (.iload_n 2, 1) := by decide +kernel
theorem d_TM_choice_69 : decode prog_12_method_139_code 69 = .ok (.ireturn, 1) := by decide +kernel
theorem d_TM_party_0 : decode prog_12_method_140_code 0 = .ok (.iload_n 1, 1) := by decide +kernel
theorem d_TM_party_1 : decode prog_12_method_140_code 1 = .ok (.iconst (-1), 1) := by decide +kernel
theorem d_TM_party_2 : decode prog_12_method_140_code 2 = .ok (.if_icmp .ne 13, 3) := by decide +kernel
theorem d_TM_party_5 : decode prog_12_method_140_code 5 = .ok (.aload_n 0, 1) := by decide +kernel
theorem d_TM_party_6 : decode prog_12_method_140_code 6 = .ok (.getfield 7, 3) := by decide +kernel
theorem d_TM_party_9 : decode prog_12_method_140_code 9 = .ok (.bipush 84, 2) := by decide +kernel
theorem d_TM_party_11 : decode prog_12_method_140_code 11 = .ok (.iconst 0, 1) := by decide +kernel
theorem d_TM_party_12 : decode prog_12_method_140_code 12 = .ok (.iastore, 1) := by decide +kernel
theorem d_TM_party_13 : decode prog_12_method_140_code 13 = .ok (.iconst 0, 1) := by decide +kernel
theorem d_TM_party_14 : decode prog_12_method_140_code 14 = .ok (.ireturn, 1) := by decide +kernel
theorem d_TM_party_15 : decode prog_12_method_140_code 15 = .ok (.iload_n 2, 1) := by decide +kernel
theorem d_TM_party_16 : decode prog_12_method_140_code 16 = .ok (.iconst 0, 1) := by decide +kernel
theorem d_TM_party_17 : decode prog_12_method_140_code 17 = .ok (.bipush 8, 2) := by decide +kernel
theorem d_TM_party_19 : decode prog_12_method_140_code 19 = .ok (.invokestatic 69, 3) := by decide +kernel
theorem d_TM_party_22 : decode prog_12_method_140_code 22 = .ok (.ifCond .eq 24, 3) := by decide +kernel
theorem d_TM_party_25 : decode prog_12_method_140_code 25 = .ok (.iload_n 1, 1) := by decide +kernel
theorem d_TM_party_26 : decode prog_12_method_140_code 26 = .ok (.iconst 0, 1) := by decide +kernel
theorem d_TM_party_27 : decode prog_12_method_140_code 27 = .ok (.iload_n 2, 1) := by decide +kernel
theorem d_TM_party_28 : decode prog_12_method_140_code 28 = .ok (.invokestatic 69, 3) := by decide +kernel
theorem d_TM_party_31 : decode prog_12_method_140_code 31 = .ok (.ifCond .eq 15, 3) := by decide +kernel
theorem d_TM_party_34 : decode prog_12_method_140_code 34 = .ok (.aload_n 0, 1) := by decide +kernel
theorem d_TM_party_35 : decode prog_12_method_140_code 35 = .ok (.getfield 7, 3) := by decide +kernel
theorem d_TM_party_38 : decode prog_12_method_140_code 38 = .ok (.bipush 84, 2) := by decide +kernel
theorem d_TM_party_40 : decode prog_12_method_140_code 40 = .ok (.iaload, 1) := by decide +kernel
theorem d_TM_party_41 : decode prog_12_method_140_code 41 = .ok (.bipush 8, 2) := by decide +kernel
theorem d_TM_party_43 : decode prog_12_method_140_code 43 = .ok (.if_icmp .ne 6, 3) := by decide +kernel
theorem d_TM_party_46 : decode prog_12_method_140_code 46 = .ok (.bipush (-2), 2) := by decide +kernel
theorem d_TM_party_48 : decode prog_12_method_140_code 48 = .ok (.ireturn, 1) := by decide +kernel
theorem d_TM_party_49 : decode prog_12_method_140_code 49 = .ok (.aload_n 0, 1) := by decide +kernel
theorem d_TM_party_50 : decode prog_12_method_140_code 50 = .ok (.getfield 7, 3) := by decide +kernel
theorem d_TM_party_53 : decode prog_12_method_140_code 53 = .ok (.bipush 68, 2) := by decide +kernel
theorem d_TM_party_55 : decode prog_12_method_140_code 55 = .ok (.iconst 2, 1) := by decide +kernel
theorem d_TM_party_56 : decode prog_12_method_140_code 56 = .ok (.aload_n 0, 1) := by decide +kernel
theorem d_TM_party_57 : decode prog_12_method_140_code 57 = .ok (.getfield 7, 3) := by decide +kernel
theorem d_TM_party_60 : decode prog_12_method_140_code 60 = .ok (.bipush 84, 2) := by decide +kernel
theorem d_TM_party_62 : decode prog_12_method_140_code 62 = .ok (.iaload, 1) := by decide +kernel
theorem d_TM_party_63 : decode prog_12_method_140_code 63 = .ok (.imul, 1) := by decide +kernel
theorem d_TM_party_64 : decode prog_12_method_140_code 64 = .ok (.iadd, 1) := by decide +kernel
theorem d_TM_party_65 : decode prog_12_method_140_code 65 = .ok (.iload_n 1, 1) := by decide +kernel
theorem d_TM_party_66 : decode prog_12_method_140_code 66 = .ok (.iastore, 1) := by decide +kernel
theorem d_TM_party_67 : decode prog_12_method_140_code 67 = .ok (.aload_n 0, 1) := by decide +kernel
theorem d_TM_party_68 : decode prog_12_method_140_code 68 = .ok (.getfield 7, 3) := by decide +kernel
theorem d_TM_party_71 : decode prog_12_method_140_code 71 = .ok (.bipush 68, 2) := by decide +kernel
theorem d_TM_party_73 : decode prog_12_method_140_code 73 = .ok (.iconst 2, 1) := by decide +kernel
theorem d_TM_party_74 : decode prog_12_method_140_code 74 = .ok (.aload_n 0, 1) := by decide +kernel
theorem d_TM_party_75 : decode prog_12_method_140_code 75 = .ok (.getfield 7, 3) := by decide +kernel
theorem d_TM_party_78 : decode prog_12_method_140_code 78 = .ok (.bipush 84, 2) := by decide +kernel
theorem d_TM_party_80 : decode prog_12_method_140_code 80 = .ok (.iaload, 1) := by decide +kernel
theorem d_TM_party_81 : decode prog_12_method_140_code 81 = .ok (.imul, 1) := by decide +kernel
theorem d_TM_party_82 : decode prog_12_method_140_code 82 = .ok (.iadd, 1) := by decide +kernel
theorem d_TM_party_83 : decode prog_12_method_140_code 83 = .ok (.iconst 1, 1) := by decide +kernel
theorem d_TM_party_84 : decode prog_12_method_140_code 84 = .ok (.iadd, 1) := by decide +kernel
theorem d_TM_party_85 : decode prog_12_method_140_code 85 = .ok (.iload_n 2, 1) := by decide +kernel
theorem d_TM_party_86 : decode prog_12_method_140_code 86 = .ok (.iastore, 1) := by decide +kernel
theorem d_TM_party_87 : decode prog_12_method_140_code 87 = .ok (.aload_n 0, 1) := by decide +kernel
theorem d_TM_party_88 : decode prog_12_method_140_code 88 = .ok (.getfield 7, 3) := by decide +kernel
theorem d_TM_party_91 : decode prog_12_method_140_code 91 = .ok (.bipush 84, 2) := by decide +kernel
theorem d_TM_party_93 : decode prog_12_method_140_code 93 = .ok (.dup2, 1) := by decide +kernel
theorem d_TM_party_94 : decode prog_12_method_140_code 94 = .ok (.iaload, 1) := by decide +kernel
theorem d_TM_party_95 : decode prog_12_method_140_code 95 = .ok (.iconst 1, 1) := by decide +kernel
theorem d_TM_party_96 : decode prog_12_method_140_code 96 = .ok (.iadd, 1) := by decide +kernel
theorem d_TM_party_97 : decode prog_12_method_140_code 97 = .ok (.iastore, 1) := by decide +kernel
theorem d_TM_party_98 : decode prog_12_method_140_code 98 = .ok (.aload_n 0, 1) := by decide +kernel
theorem d_TM_party_99 : decode prog_12_method_140_code 99 = .ok (.getfield 7, 3) := by decide +kernel
theorem d_TM_party_102 : decode prog_12_method_140_code 102 = .ok (.bipush 84, 2) := by decide +kernel
theorem d_TM_party_104 : decode prog_12_method_140_code 104 = .ok (.iaload, 1) := by decide +kernel
theorem d_TM_party_105 : decode prog_12_method_140_code 105 = .ok (.ireturn, 1) := by decide +kernel
theorem d_TM_lives_0 : decode prog_12_method_142_code 0 = .ok (.iload_n 1, 1) := by decide +kernel
theorem d_TM_lives_1 : decode prog_12_method_142_code 1 = .ok (.iconst 0, 1) := by decide +kernel
theorem d_TM_lives_2 : decode prog_12_method_142_code 2 = .ok (.bipush 8, 2) := by decide +kernel
theorem d_TM_lives_4 : decode prog_12_method_142_code 4 = .ok (.invokestatic 69, 3) := by decide +kernel
theorem d_TM_lives_7 : decode prog_12_method_142_code 7 = .ok (.ifCond .eq 11, 3) := by decide +kernel
theorem d_TM_lives_10 : decode prog_12_method_142_code 10 = .ok (.aload_n 0, 1) := by decide +kernel
theorem d_TM_lives_11 : decode prog_12_method_142_code 11 = .ok (.iload_n 1, 1) := by decide +kernel
theorem d_TM_lives_12 : decode prog_12_method_142_code 12 = .ok (.invokevirtual 437, 3) := by decide +kernel
theorem d_TM_lives_15 : decode prog_12_method_142_code 15 = .ok (.goto 4, 3) := by decide +kernel
theorem d_TM_lives_18 : decode prog_12_method_142_code 18 = .ok (.iconst (-1), 1) := by decide +kernel
theorem d_TM_lives_19 : decode prog_12_method_142_code 19 = .ok (.ireturn, 1) := by decide +kernel
theorem d_TM_livesBy_0 : decode prog_12_method_141_code 0 = .ok (.iconst 0, 1) := by decide +kernel
theorem d_TM_livesBy_1 : decode prog_12_method_141_code 1 = .ok (.istore_n 2, 1) := by decide +kernel
theorem d_TM_livesBy_2 : decode prog_12_method_141_code 2 = .ok (.iconst 0, 1) := by decide +kernel
theorem d_TM_livesBy_3 : decode prog_12_method_141_code 3 = .ok (.istore_n 3, 1) := by decide +kernel
theorem d_TM_livesBy_4 : decode prog_12_method_141_code 4 = .ok (.iload_n 3, 1) := by decide +kernel
theorem d_TM_livesBy_5 : decode prog_12_method_141_code 5 = .ok (.aload_n 0, 1) := by decide +kernel
theorem d_TM_livesBy_6 : decode prog_12_method_141_code 6 = .ok (.getfield 7, 3) := by decide +kernel
theorem d_TM_livesBy_9 : decode prog_12_method_141_code 9 = .ok (.bipush 84, 2) := by decide +kernel
theorem d_TM_livesBy_11 : decode prog_12_method_141_code 11 = .ok (.iaload, 1) := by decide +kernel
theorem d_TM_livesBy_12 : decode prog_12_method_141_code 12 = .ok (.if_icmp .ge 48, 3) := by decide +kernel
theorem d_TM_livesBy_15 : decode prog_12_method_141_code 15 = .ok (.iload_n 2, 1) := by decide +kernel
theorem d_TM_livesBy_16 : decode prog_12_method_141_code 16 = .ok (.iload_n 1, 1) := by decide +kernel
theorem d_TM_livesBy_17 : decode prog_12_method_141_code 17 = .ok (.aload_n 0, 1) := by decide +kernel
theorem d_TM_livesBy_18 : decode prog_12_method_141_code 18 = .ok (.getfield 7, 3) := by decide +kernel
theorem d_TM_livesBy_21 : decode prog_12_method_141_code 21 = .ok (.bipush 68, 2) := by decide +kernel
theorem d_TM_livesBy_23 : decode prog_12_method_141_code 23 = .ok (.iconst 2, 1) := by decide +kernel
theorem d_TM_livesBy_24 : decode prog_12_method_141_code 24 = .ok (.iload_n 3, 1) := by decide +kernel
theorem d_TM_livesBy_25 : decode prog_12_method_141_code 25 = .ok (.imul, 1) := by decide +kernel
theorem d_TM_livesBy_26 : decode prog_12_method_141_code 26 = .ok (.iadd, 1) := by decide +kernel
theorem d_TM_livesBy_27 : decode prog_12_method_141_code 27 = .ok (.iaload, 1) := by decide +kernel
theorem d_TM_livesBy_28 : decode prog_12_method_141_code 28 = .ok (.aload_n 0, 1) := by decide +kernel
theorem d_TM_livesBy_29 : decode prog_12_method_141_code 29 = .ok (.getfield 7, 3) := by decide +kernel
theorem d_TM_livesBy_32 : decode prog_12_method_141_code 32 = .ok (.bipush 68, 2) := by decide +kernel
theorem d_TM_livesBy_34 : decode prog_12_method_141_code 34 = .ok (.iconst 2, 1) := by decide +kernel
theorem d_TM_livesBy_35 : decode prog_12_method_141_code 35 = .ok (.iload_n 3, 1) := by decide +kernel
theorem d_TM_livesBy_36 : decode prog_12_method_141_code 36 = .ok (.imul, 1) := by decide +kernel
theorem d_TM_livesBy_37 : decode prog_12_method_141_code 37 = .ok (.iadd, 1) := by decide +kernel
theorem d_TM_livesBy_38 : decode prog_12_method_141_code 38 = .ok (.iconst 1, 1) := by decide +kernel
theorem d_TM_livesBy_39 : decode prog_12_method_141_code 39 = .ok (.iadd, 1) := by decide +kernel
theorem d_TM_livesBy_40 : decode prog_12_method_141_code 40 = .ok (.iaload, 1) := by decide +kernel
theorem d_TM_livesBy_41 : decode prog_12_method_141_code 41 = .ok (.invokestatic 69, 3) := by decide +kernel
theorem d_TM_livesBy_44 : decode prog_12_method_141_code 44 = .ok (.ifCond .eq 7, 3) := by decide +kernel
theorem d_TM_livesBy_47 : decode prog_12_method_141_code 47 = .ok (.iconst 1, 1) := by decide +kernel
theorem d_TM_livesBy_48 : decode prog_12_method_141_code 48 = .ok (.goto 4, 3) := by decide +kernel
theorem d_TM_livesBy_51 : decode prog_12_method_141_code 51 = .ok (.iconst 0, 1) := by decide +kernel
theorem d_TM_livesBy_52 : decode prog_12_method_141_code 52 = .ok (.iadd, 1) := by decide +kernel
theorem d_TM_livesBy_53 : decode prog_12_method_141_code 53 = .ok (.istore_n 2, 1) := by decide +kernel
theorem d_TM_livesBy_54 : decode prog_12_method_141_code 54 = .ok (.iinc 3 1, 3) := by decide +kernel
theorem d_TM_livesBy_57 : decode prog_12_method_141_code 57 = .ok (.goto (-53), 3) := by decide +kernel
theorem d_TM_livesBy_60 : decode prog_12_method_141_code 60 = .ok (.iload_n 2, 1) := by decide +kernel
theorem d_TM_livesBy_61 : decode prog_12_method_141_code 61 = .ok (.ireturn, 1) := by decide +kernel
theorem d_TM_most_0 : decode prog_12_method_143_code 0 = .ok (.iconst 0, 1) := by decide +kernel
theorem d_TM_most_1 : decode prog_12_method_143_code 1 = .ok (.istore_n 1, 1) := by decide +kernel
theorem d_TM_most_2 : decode prog_12_method_143_code 2 = .ok (.iconst 1, 1) := by decide +kernel
theorem d_TM_most_3 : decode prog_12_method_143_code 3 = .ok (.istore_n 2, 1) := by decide +kernel
theorem d_TM_most_4 : decode prog_12_method_143_code 4 = .ok (.iload_n 2, 1) := by decide +kernel
theorem d_TM_most_5 : decode prog_12_method_143_code 5 = .ok (.bipush 8, 2) := by decide +kernel
theorem d_TM_most_7 : decode prog_12_method_143_code 7 = .ok (.if_icmp .gt 24, 3) := by decide +kernel
theorem d_TM_most_10 : decode prog_12_method_143_code 10 = .ok (.aload_n 0, 1) := by decide +kernel
theorem d_TM_most_11 : decode prog_12_method_143_code 11 = .ok (.iload_n 2, 1) := by decide +kernel
theorem d_TM_most_12 : decode prog_12_method_143_code 12 = .ok (.invokevirtual 437, 3) := by decide +kernel
theorem d_TM_most_15 : decode prog_12_method_143_code 15 = .ok (.aload_n 0, 1) := by decide +kernel
theorem d_TM_most_16 : decode prog_12_method_143_code 16 = .ok (.iload_n 1, 1) := by decide +kernel
theorem d_TM_most_17 : decode prog_12_method_143_code 17 = .ok (.invokevirtual 437, 3) := by decide +kernel
theorem d_TM_most_20 : decode prog_12_method_143_code 20 = .ok (.if_icmp .le 5, 3) := by decide +kernel
theorem d_TM_most_23 : decode prog_12_method_143_code 23 = .ok (.iload_n 2, 1) := by decide +kernel
theorem d_TM_most_24 : decode prog_12_method_143_code 24 = .ok (.istore_n 1, 1) := by decide +kernel
theorem d_TM_most_25 : decode prog_12_method_143_code 25 = .ok (.iinc 2 1, 3) := by decide +kernel
theorem d_TM_most_28 : decode prog_12_method_143_code 28 = .ok (.goto (-24), 3) := by decide +kernel
theorem d_TM_most_31 : decode prog_12_method_143_code 31 = .ok (.iload_n 1, 1) := by decide +kernel
theorem d_TM_most_32 : decode prog_12_method_143_code 32 = .ok (.ireturn, 1) := by decide +kernel
theorem d_TM_fewest_0 : decode prog_12_method_145_code 0 = .ok (.sipush 511, 3) := by decide +kernel
theorem d_TM_fewest_3 : decode prog_12_method_145_code 3 = .ok (.istore_n 2, 1) := by decide +kernel
theorem d_TM_fewest_4 : decode prog_12_method_145_code 4 = .ok (.sipush 511, 3) := by decide +kernel
theorem d_TM_fewest_7 : decode prog_12_method_145_code 7 = .ok (.istore_n 3, 1) := by decide +kernel
theorem d_TM_fewest_8 : decode prog_12_method_145_code 8 = .ok (.iload_n 3, 1) := by decide +kernel
theorem d_TM_fewest_9 : decode prog_12_method_145_code 9 = .ok (.ifCond .lt 30, 3) := by decide +kernel
theorem d_TM_fewest_12 : decode prog_12_method_145_code 12 = .ok (.iload_n 3, 1) := by decide +kernel
theorem d_TM_fewest_13 : decode prog_12_method_145_code 13 = .ok (.invokestatic 267, 3) := by decide +kernel
theorem d_TM_fewest_16 : decode prog_12_method_145_code 16 = .ok (.iload_n 2, 1) := by decide +kernel
theorem d_TM_fewest_17 : decode prog_12_method_145_code 17 = .ok (.invokestatic 267, 3) := by decide +kernel
theorem d_TM_fewest_20 : decode prog_12_method_145_code 20 = .ok (.if_icmp .gt 13, 3) := by decide +kernel
theorem d_TM_fewest_23 : decode prog_12_method_145_code 23 = .ok (.aload_n 0, 1) := by decide +kernel
theorem d_TM_fewest_24 : decode prog_12_method_145_code 24 = .ok (.iload_n 3, 1) := by decide +kernel
theorem d_TM_fewest_25 : decode prog_12_method_145_code 25 = .ok (.invokevirtual 440, 3) := by decide +kernel
theorem d_TM_fewest_28 : decode prog_12_method_145_code 28 = .ok (.ifCond .eq 5, 3) := by decide +kernel
theorem d_TM_fewest_31 : decode prog_12_method_145_code 31 = .ok (.iload_n 3, 1) := by decide +kernel
theorem d_TM_fewest_32 : decode prog_12_method_145_code 32 = .ok (.istore_n 2, 1) := by decide +kernel
theorem d_TM_fewest_33 : decode prog_12_method_145_code 33 = .ok (.iinc 3 (-1), 3) := by decide +kernel
theorem d_TM_fewest_36 : decode prog_12_method_145_code 36 = .ok (.goto (-28), 3) := by decide +kernel
theorem d_TM_fewest_39 : decode prog_12_method_145_code 39 = .ok (.iload_n 1, 1) := by decide +kernel
theorem d_TM_fewest_40 : decode prog_12_method_145_code 40 = .ok (.ifCond .eq 10, 3) := by decide +kernel
theorem d_TM_fewest_43 : decode prog_12_method_145_code 43 = .ok (.iload_n 2, 1) := by decide +kernel
theorem d_TM_fewest_44 : decode prog_12_method_145_code 44 = .ok (.invokestatic 267, 3) := by decide +kernel
theorem d_TM_fewest_47 : decode prog_12_method_145_code 47 = .ok (.goto 4, 3) := by decide +kernel
theorem d_TM_fewest_50 : decode prog_12_method_145_code 50 = .ok (.iload_n 2, 1) := by decide +kernel
theorem d_TM_fewest_51 : decode prog_12_method_145_code 51 = .ok (.ireturn, 1) := by decide +kernel
theorem d_TM_doAllLive_0 : decode prog_12_method_144_code 0 = .ok (.iconst 0, 1) := by decide +kernel
theorem d_TM_doAllLive_1 : decode prog_12_method_144_code 1 = .ok (.istore_n 2, 1) := by decide +kernel
theorem d_TM_doAllLive_2 : decode prog_12_method_144_code 2 = .ok (.iload_n 2, 1) := by decide +kernel
theorem d_TM_doAllLive_3 : decode prog_12_method_144_code 3 = .ok (.aload_n 0, 1) := by decide +kernel
theorem d_TM_doAllLive_4 : decode prog_12_method_144_code 4 = .ok (.getfield 7, 3) := by decide +kernel
theorem d_TM_doAllLive_7 : decode prog_12_method_144_code 7 = .ok (.bipush 84, 2) := by decide +kernel
theorem d_TM_doAllLive_9 : decode prog_12_method_144_code 9 = .ok (.iaload, 1) := by decide +kernel
theorem d_TM_doAllLive_10 : decode prog_12_method_144_code 10 = .ok (.if_icmp .ge 57, 3) := by decide +kernel
theorem d_TM_doAllLive_13 : decode prog_12_method_144_code 13 = .ok (.iload_n 1, 1) := by decide +kernel
theorem d_TM_doAllLive_14 : decode prog_12_method_144_code 14 = .ok (.aload_n 0, 1) := by decide +kernel
theorem d_TM_doAllLive_15 : decode prog_12_method_144_code 15 = .ok (.getfield 7, 3) := by decide +kernel
theorem d_TM_doAllLive_18 : decode prog_12_method_144_code 18 = .ok (.bipush 68, 2) := by decide +kernel
theorem d_TM_doAllLive_20 : decode prog_12_method_144_code 20 = .ok (.iconst 2, 1) := by decide +kernel
theorem d_TM_doAllLive_21 : decode prog_12_method_144_code 21 = .ok (.iload_n 2, 1) := by decide +kernel
theorem d_TM_doAllLive_22 : decode prog_12_method_144_code 22 = .ok (.imul, 1) := by decide +kernel
theorem d_TM_doAllLive_23 : decode prog_12_method_144_code 23 = .ok (.iadd, 1) := by decide +kernel
theorem d_TM_doAllLive_24 : decode prog_12_method_144_code 24 = .ok (.iaload, 1) := by decide +kernel
theorem d_TM_doAllLive_25 : decode prog_12_method_144_code 25 = .ok (.ishr, 1) := by decide +kernel
theorem d_TM_doAllLive_26 : decode prog_12_method_144_code 26 = .ok (.iconst 2, 1) := by decide +kernel
theorem d_TM_doAllLive_27 : decode prog_12_method_144_code 27 = .ok (.aload_n 0, 1) := by decide +kernel
theorem d_TM_doAllLive_28 : decode prog_12_method_144_code 28 = .ok (.getfield 7, 3) := by decide +kernel
theorem d_TM_doAllLive_31 : decode prog_12_method_144_code 31 = .ok (.bipush 68, 2) := by decide +kernel
theorem d_TM_doAllLive_33 : decode prog_12_method_144_code 33 = .ok (.iconst 2, 1) := by decide +kernel
theorem d_TM_doAllLive_34 : decode prog_12_method_144_code 34 = .ok (.iload_n 2, 1) := by decide +kernel
theorem d_TM_doAllLive_35 : decode prog_12_method_144_code 35 = .ok (.imul, 1) := by decide +kernel
theorem d_TM_doAllLive_36 : decode prog_12_method_144_code 36 = .ok (.iadd, 1) := by decide +kernel
theorem d_TM_doAllLive_37 : decode prog_12_method_144_code 37 = .ok (.iconst 1, 1) := by decide +kernel
theorem d_TM_doAllLive_38 : decode prog_12_method_144_code 38 = .ok (.iadd, 1) := by decide +kernel
theorem d_TM_doAllLive_39 : decode prog_12_method_144_code 39 = .ok (.iaload, 1) := by decide +kernel
theorem d_TM_doAllLive_40 : decode prog_12_method_144_code 40 = .ok (.aload_n 0, 1) := by decide +kernel
theorem d_TM_doAllLive_41 : decode prog_12_method_144_code 41 = .ok (.getfield 7, 3) := by decide +kernel
theorem d_TM_doAllLive_44 : decode prog_12_method_144_code 44 = .ok (.bipush 68, 2) := by decide +kernel
theorem d_TM_doAllLive_46 : decode prog_12_method_144_code 46 = .ok (.iconst 2, 1) := by decide +kernel
theorem d_TM_doAllLive_47 : decode prog_12_method_144_code 47 = .ok (.iload_n 2, 1) := by decide +kernel
theorem d_TM_doAllLive_48 : decode prog_12_method_144_code 48 = .ok (.imul, 1) := by decide +kernel
theorem d_TM_doAllLive_49 : decode prog_12_method_144_code 49 = .ok (.iadd, 1) := by decide +kernel
theorem d_TM_doAllLive_50 : decode prog_12_method_144_code 50 = .ok (.iaload, 1) := by decide +kernel
theorem d_TM_doAllLive_51 : decode prog_12_method_144_code 51 = .ok (.isub, 1) := by decide +kernel
theorem d_TM_doAllLive_52 : decode prog_12_method_144_code 52 = .ok (.ishl, 1) := by decide +kernel
theorem d_TM_doAllLive_53 : decode prog_12_method_144_code 53 = .ok (.iconst 1, 1) := by decide +kernel
theorem d_TM_doAllLive_54 : decode prog_12_method_144_code 54 = .ok (.isub, 1) := by decide +kernel
theorem d_TM_doAllLive_55 : decode prog_12_method_144_code 55 = .ok (.iand, 1) := by decide +kernel
theorem d_TM_doAllLive_56 : decode prog_12_method_144_code 56 = .ok (.ifCond .ne 5, 3) := by decide +kernel
theorem d_TM_doAllLive_59 : decode prog_12_method_144_code 59 = .ok (.iconst 0, 1) := by decide +kernel
theorem d_TM_doAllLive_60 : decode prog_12_method_144_code 60 = .ok (.ireturn, 1) := by decide +kernel
theorem d_TM_doAllLive_61 : decode prog_12_method_144_code 61 = .ok (.iinc 2 1, 3) := by decide +kernel
theorem d_TM_doAllLive_64 : decode prog_12_method_144_code 64 = .ok (.goto (-62), 3) := by decide +kernel
theorem d_TM_doAllLive_67 : decode prog_12_method_144_code 67 = .ok (.iconst 1, 1) := by decide +kernel
theorem d_TM_doAllLive_68 : decode prog_12_method_144_code 68 = .ok (.ireturn, 1) := by decide +kernel
theorem d_TM_decimal_0 : decode prog_12_method_148_code 0 = .ok (.iload_n 1, 1) := by decide +kernel
theorem d_TM_decimal_1 : decode prog_12_method_148_code 1 = .ok (.iload_n 2, 1) := by decide +kernel
theorem d_TM_decimal_2 : decode prog_12_method_148_code 2 = .ok (.invokestatic 443, 3) := by decide +kernel
theorem d_TM_decimal_5 : decode prog_12_method_148_code 5 = .ok (.ifCond .eq 28, 3) := by decide +kernel
theorem d_TM_decimal_8 : decode prog_12_method_148_code 8 = .ok (.iload_n 3, 1) := by decide +kernel
theorem d_TM_decimal_9 : decode prog_12_method_148_code 9 = .ok (.iconst 0, 1) := by decide +kernel
theorem d_TM_decimal_10 : decode prog_12_method_148_code 10 = .ok (.sipush 999, 3) := by decide +kernel
theorem d_TM_decimal_13 : decode prog_12_method_148_code 13 = .ok (.invokestatic 69, 3) := by decide +kernel
theorem d_TM_decimal_16 : decode prog_12_method_148_code 16 = .ok (.ifCond .eq 17, 3) := by decide +kernel
theorem d_TM_decimal_19 : decode prog_12_method_148_code 19 = .ok (.iload_n 1, 1) := by decide +kernel
theorem d_TM_decimal_20 : decode prog_12_method_148_code 20 = .ok (.iload_n 2, 1) := by decide +kernel
theorem d_TM_decimal_21 : decode prog_12_method_148_code 21 = .ok (.iload_n 3, 1) := by decide +kernel
theorem d_TM_decimal_22 : decode prog_12_method_148_code 22 = .ok (.invokestatic 446, 3) := by decide +kernel
theorem d_TM_decimal_25 : decode prog_12_method_148_code 25 = .ok (.bipush 10, 2) := by decide +kernel
theorem d_TM_decimal_27 : decode prog_12_method_148_code 27 = .ok (.imul, 1) := by decide +kernel
theorem d_TM_decimal_28 : decode prog_12_method_148_code 28 = .ok (.iload_n 2, 1) := by decide +kernel
theorem d_TM_decimal_29 : decode prog_12_method_148_code 29 = .ok (.idiv, 1) := by decide +kernel
theorem d_TM_decimal_30 : decode prog_12_method_148_code 30 = .ok (.goto 4, 3) := by decide +kernel
theorem d_TM_decimal_33 : decode prog_12_method_148_code 33 = .ok (.iconst (-1), 1) := by decide +kernel
theorem d_TM_decimal_34 : decode prog_12_method_148_code 34 = .ok (.ireturn, 1) := by decide +kernel
theorem d_TM_isPart_0 : decode prog_12_method_146_code 0 = .ok (.iload_n 1, 1) := by decide +kernel
theorem d_TM_isPart_1 : decode prog_12_method_146_code 1 = .ok (.iconst 1, 1) := by decide +kernel
theorem d_TM_isPart_2 : decode prog_12_method_146_code 2 = .ok (.bipush 99, 2) := by decide +kernel
theorem d_TM_isPart_4 : decode prog_12_method_146_code 4 = .ok (.invokestatic 69, 3) := by decide +kernel
theorem d_TM_isPart_7 : decode prog_12_method_146_code 7 = .ok (.ifCond .eq 18, 3) := by decide +kernel
theorem d_TM_isPart_10 : decode prog_12_method_146_code 10 = .ok (.iload_n 0, 1) := by decide +kernel
theorem d_TM_isPart_11 : decode prog_12_method_146_code 11 = .ok (.iconst 0, 1) := by decide +kernel
theorem d_TM_isPart_12 : decode prog_12_method_146_code 12 = .ok (.iload_n 1, 1) := by decide +kernel
theorem d_TM_isPart_13 : decode prog_12_method_146_code 13 = .ok (.iconst 1, 1) := by decide +kernel
theorem d_TM_isPart_14 : decode prog_12_method_146_code 14 = .ok (.isub, 1) := by decide +kernel
theorem d_TM_isPart_15 : decode prog_12_method_146_code 15 = .ok (.invokestatic 69, 3) := by decide +kernel
theorem d_TM_isPart_18 : decode prog_12_method_146_code 18 = .ok (.ifCond .eq 7, 3) := by decide +kernel
theorem d_TM_isPart_21 : decode prog_12_method_146_code 21 = .ok (.iconst 1, 1) := by decide +kernel
theorem d_TM_isPart_22 : decode prog_12_method_146_code 22 = .ok (.goto 4, 3) := by decide +kernel
theorem d_TM_isPart_25 : decode prog_12_method_146_code 25 = .ok (.iconst 0, 1) := by decide +kernel
theorem d_TM_isPart_26 : decode prog_12_method_146_code 26 = .ok (.ireturn, 1) := by decide +kernel
theorem d_TM_leftBehind_0 : decode prog_12_method_147_code 0 = .ok (.iload_n 0, 1) := by decide +kernel
theorem d_TM_leftBehind_1 : decode prog_12_method_147_code 1 = .ok (.istore_n 3, 1) := by decide +kernel
theorem d_TM_leftBehind_2 : decode prog_12_method_147_code 2 = .ok (.iconst 0, 1) := by decide +kernel
theorem d_TM_leftBehind_3 : decode prog_12_method_147_code 3 = .ok (.istore 4, 2) := by decide +kernel
theorem d_TM_leftBehind_5 : decode prog_12_method_147_code 5 = .ok (.iload 4, 2) := by decide +kernel
theorem d_TM_leftBehind_7 : decode prog_12_method_147_code 7 = .ok (.iload_n 2, 1) := by decide +kernel
theorem d_TM_leftBehind_8 : decode prog_12_method_147_code 8 = .ok (.if_icmp .ge 16, 3) := by decide +kernel
theorem d_TM_leftBehind_11 : decode prog_12_method_147_code 11 = .ok (.iload_n 3, 1) := by decide +kernel
theorem d_TM_leftBehind_12 : decode prog_12_method_147_code 12 = .ok (.bipush 10, 2) := by decide +kernel
theorem d_TM_leftBehind_14 : decode prog_12_method_147_code 14 = .ok (.imul, 1) := by decide +kernel
theorem d_TM_leftBehind_15 : decode prog_12_method_147_code 15 = .ok (.iload_n 1, 1) := by decide +kernel
theorem d_TM_leftBehind_16 : decode prog_12_method_147_code 16 = .ok (.irem, 1) := by decide +kernel
theorem d_TM_leftBehind_17 : decode prog_12_method_147_code 17 = .ok (.istore_n 3, 1) := by decide +kernel
theorem d_TM_leftBehind_18 : decode prog_12_method_147_code 18 = .ok (.iinc 4 1, 3) := by decide +kernel
theorem d_TM_leftBehind_21 : decode prog_12_method_147_code 21 = .ok (.goto (-16), 3) := by decide +kernel
theorem d_TM_leftBehind_24 : decode prog_12_method_147_code 24 = .ok (.iload_n 3, 1) := by decide +kernel
theorem d_TM_leftBehind_25 : decode prog_12_method_147_code 25 = .ok (.ireturn, 1) := by decide +kernel
theorem d_TM_decimals_0 : decode prog_12_method_149_code 0 = .ok (.iload_n 1, 1) := by decide +kernel
theorem d_TM_decimals_1 : decode prog_12_method_149_code 1 = .ok (.iload_n 2, 1) := by decide +kernel
theorem d_TM_decimals_2 : decode prog_12_method_149_code 2 = .ok (.invokestatic 443, 3) := by decide +kernel
theorem d_TM_decimals_5 : decode prog_12_method_149_code 5 = .ok (.ifCond .ne 5, 3) := by decide +kernel
theorem d_TM_decimals_8 : decode prog_12_method_149_code 8 = .ok (.iconst (-1), 1) := by decide +kernel
theorem d_TM_decimals_9 : decode prog_12_method_149_code 9 = .ok (.ireturn, 1) := by decide +kernel
theorem d_TM_decimals_10 : decode prog_12_method_149_code 10 = .ok (.iload_n 1, 1) := by decide +kernel
theorem d_TM_decimals_11 : decode prog_12_method_149_code 11 = .ok (.iload_n 2, 1) := by decide +kernel
theorem d_TM_decimals_12 : decode prog_12_method_149_code 12 = .ok (.bipush 99, 2) := by decide +kernel
theorem d_TM_decimals_14 : decode prog_12_method_149_code 14 = .ok (.invokestatic 446, 3) := by decide +kernel
theorem d_TM_decimals_17 : decode prog_12_method_149_code 17 = .ok (.istore 4, 2) := by decide +kernel
theorem d_TM_decimals_19 : decode prog_12_method_149_code 19 = .ok (.iconst 1, 1) := by decide +kernel
theorem d_TM_decimals_20 : decode prog_12_method_149_code 20 = .ok (.istore 5, 2) := by decide +kernel
theorem d_TM_decimals_22 : decode prog_12_method_149_code 22 = .ok (.iload 4, 2) := by decide +kernel
theorem d_TM_decimals_24 : decode prog_12_method_149_code 24 = .ok (.iload_n 2, 1) := by decide +kernel
theorem d_TM_decimals_25 : decode prog_12_method_149_code 25 = .ok (.iload 5, 2) := by decide +kernel
theorem d_TM_decimals_27 : decode prog_12_method_149_code 27 = .ok (.invokestatic 446, 3) := by decide +kernel
theorem d_TM_decimals_30 : decode prog_12_method_149_code 30 = .ok (.iload 4, 2) := by decide +kernel
theorem d_TM_decimals_32 : decode prog_12_method_149_code 32 = .ok (.if_icmp .eq 9, 3) := by decide +kernel
theorem d_TM_decimals_35 : decode prog_12_method_149_code 35 = .ok (.iinc 5 1, 3) := by decide +kernel
theorem d_TM_decimals_38 : decode prog_12_method_149_code 38 = .ok (.goto (-16), 3) := by decide +kernel
theorem d_TM_decimals_41 : decode prog_12_method_149_code 41 = .ok (.iload_n 3, 1) := by decide +kernel
theorem d_TM_decimals_42 : decode prog_12_method_149_code 42 = .ok (.ifCond .eq 6, 3) := by decide +kernel
theorem d_TM_decimals_45 : decode prog_12_method_149_code 45 = .ok (.iload 5, 2) := by decide +kernel
theorem d_TM_decimals_47 : decode prog_12_method_149_code 47 = .ok (.ireturn, 1) := by decide +kernel
theorem d_TM_decimals_48 : decode prog_12_method_149_code 48 = .ok (.iconst 0, 1) := by decide +kernel
theorem d_TM_decimals_49 : decode prog_12_method_149_code 49 = .ok (.istore 6, 2) := by decide +kernel
theorem d_TM_decimals_51 : decode prog_12_method_149_code 51 = .ok (.iload_n 1, 1) := by decide +kernel
theorem d_TM_decimals_52 : decode prog_12_method_149_code 52 = .ok (.iload_n 2, 1) := by decide +kernel
theorem d_TM_decimals_53 : decode prog_12_method_149_code 53 = .ok (.iload 6, 2) := by decide +kernel
theorem d_TM_decimals_55 : decode prog_12_method_149_code 55 = .ok (.invokestatic 446, 3) := by decide +kernel
theorem d_TM_decimals_58 : decode prog_12_method_149_code 58 = .ok (.iload_n 1, 1) := by decide +kernel
theorem d_TM_decimals_59 : decode prog_12_method_149_code 59 = .ok (.iload_n 2, 1) := by decide +kernel
theorem d_TM_decimals_60 : decode prog_12_method_149_code 60 = .ok (.iload 6, 2) := by decide +kernel
theorem d_TM_decimals_62 : decode prog_12_method_149_code 62 = .ok (.iload 5, 2) := by decide +kernel
theorem d_TM_decimals_64 : decode prog_12_method_149_code 64 = .ok (.iadd, 1) := by decide +kernel
theorem d_TM_decimals_65 : decode prog_12_method_149_code 65 = .ok (.invokestatic 446, 3) := by decide +kernel
theorem d_TM_decimals_68 : decode prog_12_method_149_code 68 = .ok (.if_icmp .eq 9, 3) := by decide +kernel
theorem d_TM_decimals_71 : decode prog_12_method_149_code 71 = .ok (.iinc 6 1, 3) := by decide +kernel
theorem d_TM_decimals_74 : decode prog_12_method_149_code 74 = .ok (.goto (-23), 3) := by decide +kernel
theorem d_TM_decimals_77 : decode prog_12_method_149_code 77 = .ok (.iload 6, 2) := by decide +kernel
theorem d_TM_decimals_79 : decode prog_12_method_149_code 79 = .ok (.ireturn, 1) := by decide +kernel
theorem d_TM_village_0 : decode prog_12_method_150_code 0 = .ok (.iload_n 1, 1) := by decide +kernel
theorem d_TM_village_1 : decode prog_12_method_150_code 1 = .ok (.iconst 0, 1) := by decide +kernel
theorem d_TM_village_2 : decode prog_12_method_150_code 2 = .ok (.bipush 9, 2) := by decide +kernel
theorem d_TM_village_4 : decode prog_12_method_150_code 4 = .ok (.invokestatic 69, 3) := by decide +kernel
theorem d_TM_village_7 : decode prog_12_method_150_code 7 = .ok (.ifCond .eq 13, 3) := by decide +kernel
theorem d_TM_village_10 : decode prog_12_method_150_code 10 = .ok (.iload_n 2, 1) := by decide +kernel
theorem d_TM_village_11 : decode prog_12_method_150_code 11 = .ok (.iconst 0, 1) := by decide +kernel
theorem d_TM_village_12 : decode prog_12_method_150_code 12 = .ok (.bipush 99, 2) := by decide +kernel
theorem d_TM_village_14 : decode prog_12_method_150_code 14 = .ok (.invokestatic 69, 3) := by decide +kernel
theorem d_TM_village_17 : decode prog_12_method_150_code 17 = .ok (.ifCond .ne 5, 3) := by decide +kernel
theorem d_TM_village_20 : decode prog_12_method_150_code 20 = .ok (.iconst 0, 1) := by decide +kernel
theorem d_TM_village_21 : decode prog_12_method_150_code 21 = .ok (.ireturn, 1) := by decide +kernel
theorem d_TM_village_22 : decode prog_12_method_150_code 22 = .ok (.aload_n 0, 1) := by decide +kernel
theorem d_TM_village_23 : decode prog_12_method_150_code 23 = .ok (.getfield 7, 3) := by decide +kernel
theorem d_TM_village_26 : decode prog_12_method_150_code 26 = .ok (.bipush 58, 2) := by decide +kernel
theorem d_TM_village_28 : decode prog_12_method_150_code 28 = .ok (.iload_n 1, 1) := by decide +kernel
theorem d_TM_village_29 : decode prog_12_method_150_code 29 = .ok (.iadd, 1) := by decide +kernel
theorem d_TM_village_30 : decode prog_12_method_150_code 30 = .ok (.iload_n 2, 1) := by decide +kernel
theorem d_TM_village_31 : decode prog_12_method_150_code 31 = .ok (.iastore, 1) := by decide +kernel
theorem d_TM_village_32 : decode prog_12_method_150_code 32 = .ok (.iconst 1, 1) := by decide +kernel
theorem d_TM_village_33 : decode prog_12_method_150_code 33 = .ok (.ireturn, 1) := by decide +kernel
theorem d_TM_window_0 : decode prog_12_method_152_code 0 = .ok (.iload_n 1, 1) := by decide +kernel
theorem d_TM_window_1 : decode prog_12_method_152_code 1 = .ok (.iconst 0, 1) := by decide +kernel
theorem d_TM_window_2 : decode prog_12_method_152_code 2 = .ok (.bipush 9, 2) := by decide +kernel
theorem d_TM_window_4 : decode prog_12_method_152_code 4 = .ok (.invokestatic 69, 3) := by decide +kernel
theorem d_TM_window_7 : decode prog_12_method_152_code 7 = .ok (.ifCond .eq 22, 3) := by decide +kernel
theorem d_TM_window_10 : decode prog_12_method_152_code 10 = .ok (.iload_n 2, 1) := by decide +kernel
theorem d_TM_window_11 : decode prog_12_method_152_code 11 = .ok (.iconst 0, 1) := by decide +kernel
theorem d_TM_window_12 : decode prog_12_method_152_code 12 = .ok (.bipush 10, 2) := by decide +kernel
theorem d_TM_window_14 : decode prog_12_method_152_code 14 = .ok (.invokestatic 69, 3) := by decide +kernel
theorem d_TM_window_17 : decode prog_12_method_152_code 17 = .ok (.ifCond .eq 12, 3) := by decide +kernel
theorem d_TM_window_20 : decode prog_12_method_152_code 20 = .ok (.aload_n 0, 1) := by decide +kernel
theorem d_TM_window_21 : decode prog_12_method_152_code 21 = .ok (.iload_n 1, 1) := by decide +kernel
theorem d_TM_window_22 : decode prog_12_method_152_code 22 = .ok (.iload_n 2, 1) := by decide +kernel
theorem d_TM_window_23 : decode prog_12_method_152_code 23 = .ok (.invokevirtual 449, 3) := by decide +kernel
theorem d_TM_window_26 : decode prog_12_method_152_code 26 = .ok (.goto 4, 3) := by decide +kernel
theorem d_TM_window_29 : decode prog_12_method_152_code 29 = .ok (.iconst (-1), 1) := by decide +kernel
theorem d_TM_window_30 : decode prog_12_method_152_code 30 = .ok (.ireturn, 1) := by decide +kernel
theorem d_TM_windowOf_0 : decode prog_12_method_151_code 0 = .ok (.iconst 0, 1) := by decide +kernel
theorem d_TM_windowOf_1 : decode prog_12_method_151_code 1 = .ok (.istore_n 3, 1) := by decide +kernel
theorem d_TM_windowOf_2 : decode prog_12_method_151_code 2 = .ok (.iconst 0, 1) := by decide +kernel
theorem d_TM_windowOf_3 : decode prog_12_method_151_code 3 = .ok (.istore 4, 2) := by decide +kernel
theorem d_TM_windowOf_5 : decode prog_12_method_151_code 5 = .ok (.iload 4, 2) := by decide +kernel
theorem d_TM_windowOf_7 : decode prog_12_method_151_code 7 = .ok (.iload_n 2, 1) := by decide +kernel
theorem d_TM_windowOf_8 : decode prog_12_method_151_code 8 = .ok (.if_icmp .ge 27, 3) := by decide +kernel
theorem d_TM_windowOf_11 : decode prog_12_method_151_code 11 = .ok (.iload_n 3, 1) := by decide +kernel
theorem d_TM_windowOf_12 : decode prog_12_method_151_code 12 = .ok (.aload_n 0, 1) := by decide +kernel
theorem d_TM_windowOf_13 : decode prog_12_method_151_code 13 = .ok (.getfield 7, 3) := by decide +kernel
theorem d_TM_windowOf_16 : decode prog_12_method_151_code 16 = .ok (.bipush 58, 2) := by decide +kernel
theorem d_TM_windowOf_18 : decode prog_12_method_151_code 18 = .ok (.iload_n 1, 1) := by decide +kernel
theorem d_TM_windowOf_19 : decode prog_12_method_151_code 19 = .ok (.iload 4, 2) := by decide +kernel
theorem d_TM_windowOf_21 : decode prog_12_method_151_code 21 = .ok (.iadd, 1) := by decide +kernel
theorem d_TM_windowOf_22 : decode prog_12_method_151_code 22 = .ok (.bipush 10, 2) := by decide +kernel
theorem d_TM_windowOf_24 : decode prog_12_method_151_code 24 = .ok (.irem, 1) := by decide +kernel
theorem d_TM_windowOf_25 : decode prog_12_method_151_code 25 = .ok (.iadd, 1) := by decide +kernel
theorem d_TM_windowOf_26 : decode prog_12_method_151_code 26 = .ok (.iaload, 1) := by decide +kernel
theorem d_TM_windowOf_27 : decode prog_12_method_151_code 27 = .ok (.iadd, 1) := by decide +kernel
theorem d_TM_windowOf_28 : decode prog_12_method_151_code 28 = .ok (.istore_n 3, 1) := by decide +kernel
theorem d_TM_windowOf_29 : decode prog_12_method_151_code 29 = .ok (.iinc 4 1, 3) := by decide +kernel
theorem d_TM_windowOf_32 : decode prog_12_method_151_code 32 = .ok (.goto (-27), 3) := by decide +kernel
theorem d_TM_windowOf_35 : decode prog_12_method_151_code 35 = .ok (.iload_n 3, 1) := by decide +kernel
theorem d_TM_windowOf_36 : decode prog_12_method_151_code 36 = .ok (.ireturn, 1) := by decide +kernel
theorem d_TM_busiest_0 : decode prog_12_method_153_code 0 = .ok (.iload_n 1, 1) := by decide +kernel
theorem d_TM_busiest_1 : decode prog_12_method_153_code 1 = .ok (.iconst 0, 1) := by decide +kernel
theorem d_TM_busiest_2 : decode prog_12_method_153_code 2 = .ok (.bipush 10, 2) := by decide +kernel
theorem d_TM_busiest_4 : decode prog_12_method_153_code 4 = .ok (.invokestatic 69, 3) := by decide +kernel
theorem d_TM_busiest_7 : decode prog_12_method_153_code 7 = .ok (.ifCond .ne 5, 3) := by decide +kernel
theorem d_TM_busiest_10 : decode prog_12_method_153_code 10 = .ok (.iconst (-1), 1) := by decide +kernel
theorem d_TM_busiest_11 : decode prog_12_method_153_code 11 = .ok (.ireturn, 1) := by decide +kernel
theorem d_TM_busiest_12 : decode prog_12_method_153_code 12 = .ok (.iconst 0, 1) := by decide +kernel
theorem d_TM_busiest_13 : decode prog_12_method_153_code 13 = .ok (.istore_n 2, 1) := by decide +kernel
theorem d_TM_busiest_14 : decode prog_12_method_153_code 14 = .ok (.iconst 1, 1) := by decide +kernel
theorem d_TM_busiest_15 : decode prog_12_method_153_code 15 = .ok (.istore_n 3, 1) := by decide +kernel
theorem d_TM_busiest_16 : decode prog_12_method_153_code 16 = .ok (.iload_n 3, 1) := by decide +kernel
theorem d_TM_busiest_17 : decode prog_12_method_153_code 17 = .ok (.bipush 10, 2) := by decide +kernel
theorem d_TM_busiest_19 : decode prog_12_method_153_code 19 = .ok (.if_icmp .ge 26, 3) := by decide +kernel
theorem d_TM_busiest_22 : decode prog_12_method_153_code 22 = .ok (.aload_n 0, 1) := by decide +kernel
theorem d_TM_busiest_23 : decode prog_12_method_153_code 23 = .ok (.iload_n 3, 1) := by decide +kernel
theorem d_TM_busiest_24 : decode prog_12_method_153_code 24 = .ok (.iload_n 1, 1) := by decide +kernel
theorem d_TM_busiest_25 : decode prog_12_method_153_code 25 = .ok (.invokevirtual 449, 3) := by decide +kernel
theorem d_TM_busiest_28 : decode prog_12_method_153_code 28 = .ok (.aload_n 0, 1) := by decide +kernel
theorem d_TM_busiest_29 : decode prog_12_method_153_code 29 = .ok (.iload_n 2, 1) := by decide +kernel
theorem d_TM_busiest_30 : decode prog_12_method_153_code 30 = .ok (.iload_n 1, 1) := by decide +kernel
theorem d_TM_busiest_31 : decode prog_12_method_153_code 31 = .ok (.invokevirtual 449, 3) := by decide +kernel
theorem d_TM_busiest_34 : decode prog_12_method_153_code 34 = .ok (.if_icmp .le 5, 3) := by decide +kernel
theorem d_TM_busiest_37 : decode prog_12_method_153_code 37 = .ok (.iload_n 3, 1) := by decide +kernel
theorem d_TM_busiest_38 : decode prog_12_method_153_code 38 = .ok (.istore_n 2, 1) := by decide +kernel
theorem d_TM_busiest_39 : decode prog_12_method_153_code 39 = .ok (.iinc 3 1, 3) := by decide +kernel
theorem d_TM_busiest_42 : decode prog_12_method_153_code 42 = .ok (.goto (-26), 3) := by decide +kernel
theorem d_TM_busiest_45 : decode prog_12_method_153_code 45 = .ok (.iload_n 2, 1) := by decide +kernel
theorem d_TM_busiest_46 : decode prog_12_method_153_code 46 = .ok (.ireturn, 1) := by decide +kernel
theorem d_TM_said_0 : decode prog_12_method_154_code 0 = .ok (.iload_n 1, 1) := by decide +kernel
theorem d_TM_said_1 : decode prog_12_method_154_code 1 = .ok (.iconst (-1), 1) := by decide +kernel
theorem d_TM_said_2 : decode prog_12_method_154_code 2 = .ok (.if_icmp .ne 12, 3) := by decide +kernel
theorem d_TM_said_5 : decode prog_12_method_154_code 5 = .ok (.aload_n 0, 1) := by decide +kernel
theorem d_TM_said_6 : decode prog_12_method_154_code 6 = .ok (.getfield 7, 3) := by decide +kernel
theorem d_TM_said_9 : decode prog_12_method_154_code 9 = .ok (.iconst 4, 1) := by decide +kernel
theorem d_TM_said_10 : decode prog_12_method_154_code 10 = .ok (.iconst 0, 1) := by decide +kernel
theorem d_TM_said_11 : decode prog_12_method_154_code 11 = .ok (.iastore, 1) := by decide +kernel
theorem d_TM_said_12 : decode prog_12_method_154_code 12 = .ok (.iconst 0, 1) := by decide +kernel
theorem d_TM_said_13 : decode prog_12_method_154_code 13 = .ok (.ireturn, 1) := by decide +kernel
theorem d_TM_said_14 : decode prog_12_method_154_code 14 = .ok (.iload_n 1, 1) := by decide +kernel
theorem d_TM_said_15 : decode prog_12_method_154_code 15 = .ok (.iconst 0, 1) := by decide +kernel
theorem d_TM_said_16 : decode prog_12_method_154_code 16 = .ok (.bipush 8, 2) := by decide +kernel
theorem d_TM_said_18 : decode prog_12_method_154_code 18 = .ok (.invokestatic 69, 3) := by decide +kernel
theorem d_TM_said_21 : decode prog_12_method_154_code 21 = .ok (.ifCond .eq 24, 3) := by decide +kernel
theorem d_TM_said_24 : decode prog_12_method_154_code 24 = .ok (.iload_n 2, 1) := by decide +kernel
theorem d_TM_said_25 : decode prog_12_method_154_code 25 = .ok (.iconst 0, 1) := by decide +kernel
theorem d_TM_said_26 : decode prog_12_method_154_code 26 = .ok (.bipush 8, 2) := by decide +kernel
theorem d_TM_said_28 : decode prog_12_method_154_code 28 = .ok (.invokestatic 69, 3) := by decide +kernel
theorem d_TM_said_31 : decode prog_12_method_154_code 31 = .ok (.ifCond .eq 14, 3) := by decide +kernel
theorem d_TM_said_34 : decode prog_12_method_154_code 34 = .ok (.aload_n 0, 1) := by decide +kernel
theorem d_TM_said_35 : decode prog_12_method_154_code 35 = .ok (.getfield 7, 3) := by decide +kernel
theorem d_TM_said_38 : decode prog_12_method_154_code 38 = .ok (.iconst 4, 1) := by decide +kernel
theorem d_TM_said_39 : decode prog_12_method_154_code 39 = .ok (.iaload, 1) := by decide +kernel
theorem d_TM_said_40 : decode prog_12_method_154_code 40 = .ok (.bipush 8, 2) := by decide +kernel
theorem d_TM_said_42 : decode prog_12_method_154_code 42 = .ok (.if_icmp .ne 6, 3) := by decide +kernel
theorem d_TM_said_45 : decode prog_12_method_154_code 45 = .ok (.bipush (-2), 2) := by decide +kernel
theorem d_TM_said_47 : decode prog_12_method_154_code 47 = .ok (.ireturn, 1) := by decide +kernel
theorem d_TM_said_48 : decode prog_12_method_154_code 48 = .ok (.aload_n 0, 1) := by decide +kernel
theorem d_TM_said_49 : decode prog_12_method_154_code 49 = .ok (.getfield 7, 3) := by decide +kernel
theorem d_TM_said_52 : decode prog_12_method_154_code 52 = .ok (.bipush 42, 2) := by decide +kernel
theorem d_TM_said_54 : decode prog_12_method_154_code 54 = .ok (.iconst 2, 1) := by decide +kernel
theorem d_TM_said_55 : decode prog_12_method_154_code 55 = .ok (.aload_n 0, 1) := by decide +kernel
theorem d_TM_said_56 : decode prog_12_method_154_code 56 = .ok (.getfield 7, 3) := by decide +kernel
theorem d_TM_said_59 : decode prog_12_method_154_code 59 = .ok (.iconst 4, 1) := by decide +kernel
theorem d_TM_said_60 : decode prog_12_method_154_code 60 = .ok (.iaload, 1) := by decide +kernel
theorem d_TM_said_61 : decode prog_12_method_154_code 61 = .ok (.imul, 1) := by decide +kernel
theorem d_TM_said_62 : decode prog_12_method_154_code 62 = .ok (.iadd, 1) := by decide +kernel
theorem d_TM_said_63 : decode prog_12_method_154_code 63 = .ok (.iload_n 1, 1) := by decide +kernel
theorem d_TM_said_64 : decode prog_12_method_154_code 64 = .ok (.iastore, 1) := by decide +kernel
theorem d_TM_said_65 : decode prog_12_method_154_code 65 = .ok (.aload_n 0, 1) := by decide +kernel
theorem d_TM_said_66 : decode prog_12_method_154_code 66 = .ok (.getfield 7, 3) := by decide +kernel
theorem d_TM_said_69 : decode prog_12_method_154_code 69 = .ok (.bipush 42, 2) := by decide +kernel
theorem d_TM_said_71 : decode prog_12_method_154_code 71 = .ok (.iconst 2, 1) := by decide +kernel
theorem d_TM_said_72 : decode prog_12_method_154_code 72 = .ok (.aload_n 0, 1) := by decide +kernel
theorem d_TM_said_73 : decode prog_12_method_154_code 73 = .ok (.getfield 7, 3) := by decide +kernel
theorem d_TM_said_76 : decode prog_12_method_154_code 76 = .ok (.iconst 4, 1) := by decide +kernel
theorem d_TM_said_77 : decode prog_12_method_154_code 77 = .ok (.iaload, 1) := by decide +kernel
theorem d_TM_said_78 : decode prog_12_method_154_code 78 = .ok (.imul, 1) := by decide +kernel
theorem d_TM_said_79 : decode prog_12_method_154_code 79 = .ok (.iadd, 1) := by decide +kernel
theorem d_TM_said_80 : decode prog_12_method_154_code 80 = .ok (.iconst 1, 1) := by decide +kernel
theorem d_TM_said_81 : decode prog_12_method_154_code 81 = .ok (.iadd, 1) := by decide +kernel
theorem d_TM_said_82 : decode prog_12_method_154_code 82 = .ok (.iload_n 2, 1) := by decide +kernel
theorem d_TM_said_83 : decode prog_12_method_154_code 83 = .ok (.iastore, 1) := by decide +kernel
theorem d_TM_said_84 : decode prog_12_method_154_code 84 = .ok (.aload_n 0, 1) := by decide +kernel
theorem d_TM_said_85 : decode prog_12_method_154_code 85 = .ok (.getfield 7, 3) := by decide +kernel
theorem d_TM_said_88 : decode prog_12_method_154_code 88 = .ok (.iconst 4, 1) := by decide +kernel
theorem d_TM_said_89 : decode prog_12_method_154_code 89 = .ok (.dup2, 1) := by decide +kernel
theorem d_TM_said_90 : decode prog_12_method_154_code 90 = .ok (.iaload, 1) := by decide +kernel
theorem d_TM_said_91 : decode prog_12_method_154_code 91 = .ok (.iconst 1, 1) := by decide +kernel
theorem d_TM_said_92 : decode prog_12_method_154_code 92 = .ok (.iadd, 1) := by decide +kernel
theorem d_TM_said_93 : decode prog_12_method_154_code 93 = .ok (.iastore, 1) := by decide +kernel
theorem d_TM_said_94 : decode prog_12_method_154_code 94 = .ok (.aload_n 0, 1) := by decide +kernel
theorem d_TM_said_95 : decode prog_12_method_154_code 95 = .ok (.getfield 7, 3) := by decide +kernel
theorem d_TM_said_98 : decode prog_12_method_154_code 98 = .ok (.iconst 4, 1) := by decide +kernel
theorem d_TM_said_99 : decode prog_12_method_154_code 99 = .ok (.iaload, 1) := by decide +kernel
theorem d_TM_said_100 : decode prog_12_method_154_code 100 = .ok (.ireturn, 1) := by decide +kernel
theorem d_TM_whose_0 : decode prog_12_method_155_code 0 = .ok (.iconst 0, 1) := by decide +kernel
theorem d_TM_whose_1 : decode prog_12_method_155_code 1 = .ok (.istore_n 1, 1) := by decide +kernel
theorem d_TM_whose_2 : decode prog_12_method_155_code 2 = .ok (.iconst 0, 1) := by decide +kernel
theorem d_TM_whose_3 : decode prog_12_method_155_code 3 = .ok (.istore_n 2, 1) := by decide +kernel
theorem d_TM_whose_4 : decode prog_12_method_155_code 4 = .ok (.iload_n 2, 1) := by decide +kernel
theorem d_TM_whose_5 : decode prog_12_method_155_code 5 = .ok (.aload_n 0, 1) := by decide +kernel
theorem d_TM_whose_6 : decode prog_12_method_155_code 6 = .ok (.getfield 7, 3) := by decide +kernel
theorem d_TM_whose_9 : decode prog_12_method_155_code 9 = .ok (.iconst 1, 1) := by decide +kernel
theorem d_TM_whose_10 : decode prog_12_method_155_code 10 = .ok (.iaload, 1) := by decide +kernel
theorem d_TM_whose_11 : decode prog_12_method_155_code 11 = .ok (.if_icmp .ge 85, 3) := by decide +kernel
theorem d_TM_whose_14 : decode prog_12_method_155_code 14 = .ok (.iconst 1, 1) := by decide +kernel
theorem d_TM_whose_15 : decode prog_12_method_155_code 15 = .ok (.istore_n 3, 1) := by decide +kernel
theorem d_TM_whose_16 : decode prog_12_method_155_code 16 = .ok (.bipush 42, 2) := by decide +kernel
theorem d_TM_whose_18 : decode prog_12_method_155_code 18 = .ok (.istore 4, 2) := by decide +kernel
theorem d_TM_whose_20 : decode prog_12_method_155_code 20 = .ok (.iload 4, 2) := by decide +kernel
theorem d_TM_whose_22 : decode prog_12_method_155_code 22 = .ok (.bipush 42, 2) := by decide +kernel
theorem d_TM_whose_24 : decode prog_12_method_155_code 24 = .ok (.iconst 2, 1) := by decide +kernel
theorem d_TM_whose_25 : decode prog_12_method_155_code 25 = .ok (.aload_n 0, 1) := by decide +kernel
theorem d_TM_whose_26 : decode prog_12_method_155_code 26 = .ok (.getfield 7, 3) := by decide +kernel
theorem d_TM_whose_29 : decode prog_12_method_155_code 29 = .ok (.iconst 4, 1) := by decide +kernel
theorem d_TM_whose_30 : decode prog_12_method_155_code 30 = .ok (.iaload, 1) := by decide +kernel
theorem d_TM_whose_31 : decode prog_12_method_155_code 31 = .ok (.imul, 1) := by decide +kernel
theorem d_TM_whose_32 : decode prog_12_method_155_code 32 = .ok (.iadd, 1) := by decide +kernel
theorem d_TM_whose_33 : decode prog_12_method_155_code 33 = .ok (.if_icmp .ge 43, 3) := by decide +kernel
theorem d_TM_whose_36 : decode prog_12_method_155_code 36 = .ok (.iload_n 3, 1) := by decide +kernel
theorem d_TM_whose_37 : decode prog_12_method_155_code 37 = .ok (.ifCond .eq 31, 3) := by decide +kernel
theorem d_TM_whose_40 : decode prog_12_method_155_code 40 = .ok (.aload_n 0, 1) := by decide +kernel
theorem d_TM_whose_41 : decode prog_12_method_155_code 41 = .ok (.iload_n 2, 1) := by decide +kernel
theorem d_TM_whose_42 : decode prog_12_method_155_code 42 = .ok (.aload_n 0, 1) := by decide +kernel
theorem d_TM_whose_43 : decode prog_12_method_155_code 43 = .ok (.getfield 7, 3) := by decide +kernel
theorem d_TM_whose_46 : decode prog_12_method_155_code 46 = .ok (.iload 4, 2) := by decide +kernel
theorem d_TM_whose_48 : decode prog_12_method_155_code 48 = .ok (.iaload, 1) := by decide +kernel
theorem d_TM_whose_49 : decode prog_12_method_155_code 49 = .ok (.invokevirtual 422, 3) := by decide +kernel
theorem d_TM_whose_52 : decode prog_12_method_155_code 52 = .ok (.aload_n 0, 1) := by decide +kernel
theorem d_TM_whose_53 : decode prog_12_method_155_code 53 = .ok (.getfield 7, 3) := by decide +kernel
theorem d_TM_whose_56 : decode prog_12_method_155_code 56 = .ok (.iload 4, 2) := by decide +kernel
theorem d_TM_whose_58 : decode prog_12_method_155_code 58 = .ok (.iconst 1, 1) := by decide +kernel
theorem d_TM_whose_59 : decode prog_12_method_155_code 59 = .ok (.iadd, 1) := by decide +kernel
theorem d_TM_whose_60 : decode prog_12_method_155_code 60 = .ok (.iaload, 1) := by decide +kernel
theorem d_TM_whose_61 : decode prog_12_method_155_code 61 = .ok (.if_icmp .ne 7, 3) := by decide +kernel
theorem d_TM_whose_64 : decode prog_12_method_155_code 64 = .ok (.iconst 1, 1) := by decide +kernel
theorem d_TM_whose_65 : decode prog_12_method_155_code 65 = .ok (.goto 4, 3) := by decide +kernel
theorem d_TM_whose_68 : decode prog_12_method_155_code 68 = .ok (.iconst 0, 1) := by decide +kernel
theorem d_TM_whose_69 : decode prog_12_method_155_code 69 = .ok (.istore_n 3, 1) := by decide +kernel
theorem d_TM_whose_70 : decode prog_12_method_155_code 70 = .ok (.iinc 4 2, 3) := by decide +kernel
theorem d_TM_whose_73 : decode prog_12_method_155_code 73 = .ok (.goto (-53), 3) := by decide +kernel
theorem d_TM_whose_76 : decode prog_12_method_155_code 76 = .ok (.iload_n 1, 1) := by decide +kernel
theorem d_TM_whose_77 : decode prog_12_method_155_code 77 = .ok (.iload_n 3, 1) := by decide +kernel
theorem d_TM_whose_78 : decode prog_12_method_155_code 78 = .ok (.ifCond .eq 9, 3) := by decide +kernel
theorem d_TM_whose_81 : decode prog_12_method_155_code 81 = .ok (.iconst 1, 1) := by decide +kernel
theorem d_TM_whose_82 : decode prog_12_method_155_code 82 = .ok (.iload_n 2, 1) := by decide +kernel
theorem d_TM_whose_83 : decode prog_12_method_155_code 83 = .ok (.ishl, 1) := by decide +kernel
theorem d_TM_whose_84 : decode prog_12_method_155_code 84 = .ok (.goto 4, 3) := by decide +kernel
theorem d_TM_whose_87 : decode prog_12_method_155_code 87 = .ok (.iconst 0, 1) := by decide +kernel
theorem d_TM_whose_88 : decode prog_12_method_155_code 88 = .ok (.ior, 1) := by decide +kernel
theorem d_TM_whose_89 : decode prog_12_method_155_code 89 = .ok (.istore_n 1, 1) := by decide +kernel
theorem d_TM_whose_90 : decode prog_12_method_155_code 90 = .ok (.iinc 2 1, 3) := by decide +kernel
theorem d_TM_whose_93 : decode prog_12_method_155_code 93 = .ok (.goto (-89), 3) := by decide +kernel
theorem d_TM_whose_96 : decode prog_12_method_155_code 96 = .ok (.iload_n 1, 1) := by decide +kernel
theorem d_TM_whose_97 : decode prog_12_method_155_code 97 = .ok (.ireturn, 1) := by decide +kernel
theorem d_TM_image_0 : decode prog_12_method_156_code 0 = .ok (.aload_n 0, 1) := by decide +kernel
theorem d_TM_image_1 : decode prog_12_method_156_code 1 = .ok (.getfield 7, 3) := by decide +kernel
theorem d_TM_image_4 : decode prog_12_method_156_code 4 = .ok (.aload_n 0, 1) := by decide +kernel
theorem d_TM_image_5 : decode prog_12_method_156_code 5 = .ok (.getfield 13, 3) := by decide +kernel
theorem d_TM_image_8 : decode prog_12_method_156_code 8 = .ok (.invokestatic 65, 3) := by decide +kernel
theorem d_TM_image_11 : decode prog_12_method_156_code 11 = .ok (.aload_n 0, 1) := by decide +kernel
theorem d_TM_image_12 : decode prog_12_method_156_code 12 = .ok (.getfield 7, 3) := by decide +kernel
theorem d_TM_image_15 : decode prog_12_method_156_code 15 = .ok (.iconst 5, 1) := by decide +kernel
theorem d_TM_image_16 : decode prog_12_method_156_code 16 = .ok (.iaload, 1) := by decide +kernel
theorem d_TM_image_17 : decode prog_12_method_156_code 17 = .ok (.ireturn, 1) := by decide +kernel
theorem d_TM_back_0 : decode prog_12_method_157_code 0 = .ok (.aload_n 0, 1) := by decide +kernel
theorem d_TM_back_1 : decode prog_12_method_157_code 1 = .ok (.getfield 13, 3) := by decide +kernel
theorem d_TM_back_4 : decode prog_12_method_157_code 4 = .ok (.aload_n 0, 1) := by decide +kernel
theorem d_TM_back_5 : decode prog_12_method_157_code 5 = .ok (.getfield 7, 3) := by decide +kernel
theorem d_TM_back_8 : decode prog_12_method_157_code 8 = .ok (.invokestatic 65, 3) := by decide +kernel
theorem d_TM_back_11 : decode prog_12_method_157_code 11 = .ok (.aload_n 0, 1) := by decide +kernel
theorem d_TM_back_12 : decode prog_12_method_157_code 12 = .ok (.getfield 7, 3) := by decide +kernel
theorem d_TM_back_15 : decode prog_12_method_157_code 15 = .ok (.iconst 5, 1) := by decide +kernel
theorem d_TM_back_16 : decode prog_12_method_157_code 16 = .ok (.iaload, 1) := by decide +kernel
theorem d_TM_back_17 : decode prog_12_method_157_code 17 = .ok (.ireturn, 1) := by decide +kernel
theorem d_TM_about_0 : decode prog_12_method_158_code 0 = .ok (.iload_n 1, 1) := by decide +kernel
theorem d_TM_about_1 : decode prog_12_method_158_code 1 = .ok (.iconst 0, 1) := by decide +kernel
theorem d_TM_about_2 : decode prog_12_method_158_code 2 = .ok (.iconst 4, 1) := by decide +kernel
theorem d_TM_about_3 : decode prog_12_method_158_code 3 = .ok (.invokestatic 69, 3) := by decide +kernel
theorem d_TM_about_6 : decode prog_12_method_158_code 6 = .ok (.ifCond .eq 12, 3) := by decide +kernel
theorem d_TM_about_9 : decode prog_12_method_158_code 9 = .ok (.aload_n 0, 1) := by decide +kernel
theorem d_TM_about_10 : decode prog_12_method_158_code 10 = .ok (.getfield 7, 3) := by decide +kernel
theorem d_TM_about_13 : decode prog_12_method_158_code 13 = .ok (.iload_n 1, 1) := by decide +kernel
theorem d_TM_about_14 : decode prog_12_method_158_code 14 = .ok (.iaload, 1) := by decide +kernel
theorem d_TM_about_15 : decode prog_12_method_158_code 15 = .ok (.goto 17, 3) := by decide +kernel
theorem d_TM_about_18 : decode prog_12_method_158_code 18 = .ok (.iload_n 1, 1) := by decide +kernel
theorem d_TM_about_19 : decode prog_12_method_158_code 19 = .ok (.iconst 5, 1) := by decide +kernel
theorem d_TM_about_20 : decode prog_12_method_158_code 20 = .ok (.if_icmp .ne 10, 3) := by decide +kernel
theorem d_TM_about_23 : decode prog_12_method_158_code 23 = .ok (.aload_n 0, 1) := by decide +kernel
theorem d_TM_about_24 : decode prog_12_method_158_code 24 = .ok (.getfield 77, 3) := by decide +kernel
theorem d_TM_about_27 : decode prog_12_method_158_code 27 = .ok (.goto 5, 3) := by decide +kernel
theorem d_TM_about_30 : decode prog_12_method_158_code 30 = .ok (.bipush (-2), 2) := by decide +kernel
theorem d_TM_about_32 : decode prog_12_method_158_code 32 = .ok (.ireturn, 1) := by decide +kernel
