theorem d_TP_init_0 : decode prog_1_method_1_code 0 = .ok (.aload_n 0, 1) := by decide +kernel
theorem d_TP_init_1 : decode prog_1_method_1_code 1 = .ok (.invokespecial 1, 3) := by decide +kernel
theorem d_TP_init_4 : decode prog_1_method_1_code 4 = .ok (.aload_n 0, 1) := by decide +kernel
theorem d_TP_init_5 : decode prog_1_method_1_code 5 = .ok (.new 7, 3) := by decide +kernel
theorem d_TP_init_8 : decode prog_1_method_1_code 8 = .ok (.dup, 1) := by decide +kernel
theorem d_TP_init_9 : decode prog_1_method_1_code 9 = .ok (.invokespecial 9, 3) := by decide +kernel
theorem d_TP_init_12 : decode prog_1_method_1_code 12 = .ok (.putfield 10, 3) := by decide +kernel
theorem d_TP_init_15 : decode prog_1_method_1_code 15 = .ok (.aload_n 0, 1) := by decide +kernel
theorem d_TP_init_16 : decode prog_1_method_1_code 16 = .ok (.new 7, 3) := by decide +kernel
theorem d_TP_init_19 : decode prog_1_method_1_code 19 = .ok (.dup, 1) := by decide +kernel
theorem d_TP_init_20 : decode prog_1_method_1_code 20 = .ok (.invokespecial 9, 3) := by decide +kernel
theorem d_TP_init_23 : decode prog_1_method_1_code 23 = .ok (.putfield 16, 3) := by decide +kernel
theorem d_TP_init_26 : decode prog_1_method_1_code 26 = .ok (.aload_n 0, 1) := by decide +kernel
theorem d_TP_init_27 : decode prog_1_method_1_code 27 = .ok (.new 19, 3) := by decide +kernel
theorem d_TP_init_30 : decode prog_1_method_1_code 30 = .ok (.dup, 1) := by decide +kernel
theorem d_TP_init_31 : decode prog_1_method_1_code 31 = .ok (.invokespecial 21, 3) := by decide +kernel
theorem d_TP_init_34 : decode prog_1_method_1_code 34 = .ok (.putfield 22, 3) := by decide +kernel
theorem d_TP_init_37 : decode prog_1_method_1_code 37 = .ok (.aload_n 0, 1) := by decide +kernel
theorem d_TP_init_38 : decode prog_1_method_1_code 38 = .ok (.new 26, 3) := by decide +kernel
theorem d_TP_init_41 : decode prog_1_method_1_code 41 = .ok (.dup, 1) := by decide +kernel
theorem d_TP_init_42 : decode prog_1_method_1_code 42 = .ok (.aload_n 0, 1) := by decide +kernel
theorem d_TP_init_43 : decode prog_1_method_1_code 43 = .ok (.getfield 10, 3) := by decide +kernel
theorem d_TP_init_46 : decode prog_1_method_1_code 46 = .ok (.invokespecial 28, 3) := by decide +kernel
theorem d_TP_init_49 : decode prog_1_method_1_code 49 = .ok (.putfield 31, 3) := by decide +kernel
theorem d_TP_init_52 : decode prog_1_method_1_code 52 = .ok (.aload_n 0, 1) := by decide +kernel
theorem d_TP_init_53 : decode prog_1_method_1_code 53 = .ok (.new 35, 3) := by decide +kernel
theorem d_TP_init_56 : decode prog_1_method_1_code 56 = .ok (.dup, 1) := by decide +kernel
theorem d_TP_init_57 : decode prog_1_method_1_code 57 = .ok (.aload_n 0, 1) := by decide +kernel
theorem d_TP_init_58 : decode prog_1_method_1_code 58 = .ok (.getfield 10, 3) := by decide +kernel
theorem d_TP_init_61 : decode prog_1_method_1_code 61 = .ok (.aload_n 0, 1) := by decide +kernel
theorem d_TP_init_62 : decode prog_1_method_1_code 62 = .ok (.getfield 31, 3) := by decide +kernel
theorem d_TP_init_65 : decode prog_1_method_1_code 65 = .ok (.invokespecial 37, 3) := by decide +kernel
theorem d_TP_init_68 : decode prog_1_method_1_code 68 = .ok (.putfield 40, 3) := by decide +kernel
theorem d_TP_init_71 : decode prog_1_method_1_code 71 = .ok (.aload_n 0, 1) := by decide +kernel
theorem d_TP_init_72 : decode prog_1_method_1_code 72 = .ok (.new 44, 3) := by decide +kernel
theorem d_TP_init_75 : decode prog_1_method_1_code 75 = .ok (.dup, 1) := by decide +kernel
theorem d_TP_init_76 : decode prog_1_method_1_code 76 = .ok (.invokespecial 46, 3) := by decide +kernel
theorem d_TP_init_79 : decode prog_1_method_1_code 79 = .ok (.putfield 47, 3) := by decide +kernel
theorem d_TP_init_82 : decode prog_1_method_1_code 82 = .ok (.aload_n 0, 1) := by decide +kernel
theorem d_TP_init_83 : decode prog_1_method_1_code 83 = .ok (.new 51, 3) := by decide +kernel
theorem d_TP_init_86 : decode prog_1_method_1_code 86 = .ok (.dup, 1) := by decide +kernel
theorem d_TP_init_87 : decode prog_1_method_1_code 87 = .ok (.invokespecial 53, 3) := by decide +kernel
theorem d_TP_init_90 : decode prog_1_method_1_code 90 = .ok (.putfield 54, 3) := by decide +kernel
theorem d_TP_init_93 : decode prog_1_method_1_code 93 = .ok (.aload_n 0, 1) := by decide +kernel
theorem d_TP_init_94 : decode prog_1_method_1_code 94 = .ok (.new 58, 3) := by decide +kernel
theorem d_TP_init_97 : decode prog_1_method_1_code 97 = .ok (.dup, 1) := by decide +kernel
theorem d_TP_init_98 : decode prog_1_method_1_code 98 = .ok (.aload_n 0, 1) := by decide +kernel
theorem d_TP_init_99 : decode prog_1_method_1_code 99 = .ok (.getfield 54, 3) := by decide +kernel
theorem d_TP_init_102 : decode prog_1_method_1_code 102 = .ok (.invokespecial 60, 3) := by decide +kernel
theorem d_TP_init_105 : decode prog_1_method_1_code 105 = .ok (.putfield 63, 3) := by decide +kernel
theorem d_TP_init_108 : decode prog_1_method_1_code 108 = .ok (.aload_n 0, 1) := by decide +kernel
theorem d_TP_init_109 : decode prog_1_method_1_code 109 = .ok (.bipush 9, 2) := by decide +kernel
theorem d_TP_init_111 : decode prog_1_method_1_code 111 = .ok (.newarray .long, 2) := by decide +kernel
theorem d_TP_init_113 : decode prog_1_method_1_code 113 = .ok (.putfield 67, 3) := by decide +kernel
theorem d_TP_init_116 : decode prog_1_method_1_code 116 = .ok (.aload_n 0, 1) := by decide +kernel
theorem d_TP_init_117 : decode prog_1_method_1_code 117 = .ok (.bipush 8, 2) := by decide +kernel
theorem d_TP_init_119 : decode prog_1_method_1_code 119 = .ok (.newarray .int, 2) := by decide +kernel
theorem d_TP_init_121 : decode prog_1_method_1_code 121 = .ok (.putfield 71, 3) := by decide +kernel
theorem d_TP_init_124 : decode prog_1_method_1_code 124 = .ok (.aload_n 0, 1) := by decide +kernel
theorem d_TP_init_125 : decode prog_1_method_1_code 125 = .ok (.bipush 99, 2) := by decide +kernel
theorem d_TP_init_127 : decode prog_1_method_1_code 127 = .ok (.newarray .int, 2) := by decide +kernel
theorem d_TP_init_129 : decode prog_1_method_1_code 129 = .ok (.putfield 75, 3) := by decide +kernel
theorem d_TP_init_132 : decode prog_1_method_1_code 132 = .ok (.aload_n 0, 1) := by decide +kernel
theorem d_TP_init_133 : decode prog_1_method_1_code 133 = .ok (.iconst (-1), 1) := by decide +kernel
theorem d_TP_init_134 : decode prog_1_method_1_code 134 = .ok (.putfield 78, 3) := by decide +kernel
theorem d_TP_init_137 : decode prog_1_method_1_code 137 = .ok (.aload_n 0, 1) := by decide +kernel
theorem d_TP_init_138 : decode prog_1_method_1_code 138 = .ok (.iconst (-1), 1) := by decide +kernel
theorem d_TP_init_139 : decode prog_1_method_1_code 139 = .ok (.putfield 82, 3) := by decide +kernel
theorem d_TP_init_142 : decode prog_1_method_1_code 142 = .ok (.return_, 1) := by decide +kernel
theorem d_Ro_init_0 : decode prog_7_method_1_code 0 = .ok (.aload_n 0, 1) := by decide +kernel
theorem d_Ro_init_1 : decode prog_7_method_1_code 1 = .ok (.invokespecial 3, 3) := by decide +kernel
theorem d_Ro_init_4 : decode prog_7_method_1_code 4 = .ok (.aload_n 0, 1) := by decide +kernel
theorem d_Ro_init_5 : decode prog_7_method_1_code 5 = .ok (.bipush 8, 2) := by decide +kernel
theorem d_Ro_init_7 : decode prog_7_method_1_code 7 = .ok (.newarray .int, 2) := by decide +kernel
theorem d_Ro_init_9 : decode prog_7_method_1_code 9 = .ok (.putfield 9, 3) := by decide +kernel
theorem d_Ro_init_12 : decode prog_7_method_1_code 12 = .ok (.aload_n 0, 1) := by decide +kernel
theorem d_Ro_init_13 : decode prog_7_method_1_code 13 = .ok (.aload_n 1, 1) := by decide +kernel
theorem d_Ro_init_14 : decode prog_7_method_1_code 14 = .ok (.putfield 15, 3) := by decide +kernel
theorem d_Ro_init_17 : decode prog_7_method_1_code 17 = .ok (.aload_n 0, 1) := by decide +kernel
theorem d_Ro_init_18 : decode prog_7_method_1_code 18 = .ok (.aload_n 2, 1) := by decide +kernel
theorem d_Ro_init_19 : decode prog_7_method_1_code 19 = .ok (.putfield 19, 3) := by decide +kernel
theorem d_Ro_init_22 : decode prog_7_method_1_code 22 = .ok (.return_, 1) := by decide +kernel
theorem d_Ta_init_0 : decode prog_9_method_1_code 0 = .ok (.aload_n 0, 1) := by decide +kernel
theorem d_Ta_init_1 : decode prog_9_method_1_code 1 = .ok (.invokespecial 3, 3) := by decide +kernel
theorem d_Ta_init_4 : decode prog_9_method_1_code 4 = .ok (.aload_n 0, 1) := by decide +kernel
theorem d_Ta_init_5 : decode prog_9_method_1_code 5 = .ok (.sipush 300, 3) := by decide +kernel
theorem d_Ta_init_8 : decode prog_9_method_1_code 8 = .ok (.newarray .int, 2) := by decide +kernel
theorem d_Ta_init_10 : decode prog_9_method_1_code 10 = .ok (.putfield 9, 3) := by decide +kernel
theorem d_Ta_init_13 : decode prog_9_method_1_code 13 = .ok (.aload_n 0, 1) := by decide +kernel
theorem d_Ta_init_14 : decode prog_9_method_1_code 14 = .ok (.sipush 301, 3) := by decide +kernel
theorem d_Ta_init_17 : decode prog_9_method_1_code 17 = .ok (.newarray .int, 2) := by decide +kernel
theorem d_Ta_init_19 : decode prog_9_method_1_code 19 = .ok (.putfield 15, 3) := by decide +kernel
theorem d_Ta_init_22 : decode prog_9_method_1_code 22 = .ok (.aload_n 0, 1) := by decide +kernel
theorem d_Ta_init_23 : decode prog_9_method_1_code 23 = .ok (.sipush 301, 3) := by decide +kernel
theorem d_Ta_init_26 : decode prog_9_method_1_code 26 = .ok (.newarray .int, 2) := by decide +kernel
theorem d_Ta_init_28 : decode prog_9_method_1_code 28 = .ok (.putfield 18, 3) := by decide +kernel
theorem d_Ta_init_31 : decode prog_9_method_1_code 31 = .ok (.aload_n 0, 1) := by decide +kernel
theorem d_Ta_init_32 : decode prog_9_method_1_code 32 = .ok (.sipush 301, 3) := by decide +kernel
theorem d_Ta_init_35 : decode prog_9_method_1_code 35 = .ok (.newarray .int, 2) := by decide +kernel
theorem d_Ta_init_37 : decode prog_9_method_1_code 37 = .ok (.putfield 21, 3) := by decide +kernel
theorem d_Ta_init_40 : decode prog_9_method_1_code 40 = .ok (.return_, 1) := by decide +kernel
theorem d_Re_init_0 : decode prog_6_method_1_code 0 = .ok (.aload_n 0, 1) := by decide +kernel
theorem d_Re_init_1 : decode prog_6_method_1_code 1 = .ok (.invokespecial 3, 3) := by decide +kernel
theorem d_Re_init_4 : decode prog_6_method_1_code 4 = .ok (.aload_n 0, 1) := by decide +kernel
theorem d_Re_init_5 : decode prog_6_method_1_code 5 = .ok (.bipush 24, 2) := by decide +kernel
theorem d_Re_init_7 : decode prog_6_method_1_code 7 = .ok (.newarray .int, 2) := by decide +kernel
theorem d_Re_init_9 : decode prog_6_method_1_code 9 = .ok (.putfield 9, 3) := by decide +kernel
theorem d_Re_init_12 : decode prog_6_method_1_code 12 = .ok (.aload_n 0, 1) := by decide +kernel
theorem d_Re_init_13 : decode prog_6_method_1_code 13 = .ok (.bipush 24, 2) := by decide +kernel
theorem d_Re_init_15 : decode prog_6_method_1_code 15 = .ok (.newarray .int, 2) := by decide +kernel
theorem d_Re_init_17 : decode prog_6_method_1_code 17 = .ok (.putfield 15, 3) := by decide +kernel
theorem d_Re_init_20 : decode prog_6_method_1_code 20 = .ok (.aload_n 0, 1) := by decide +kernel
theorem d_Re_init_21 : decode prog_6_method_1_code 21 = .ok (.bipush 24, 2) := by decide +kernel
theorem d_Re_init_23 : decode prog_6_method_1_code 23 = .ok (.newarray .int, 2) := by decide +kernel
theorem d_Re_init_25 : decode prog_6_method_1_code 25 = .ok (.putfield 18, 3) := by decide +kernel
theorem d_Re_init_28 : decode prog_6_method_1_code 28 = .ok (.aload_n 0, 1) := by decide +kernel
theorem d_Re_init_29 : decode prog_6_method_1_code 29 = .ok (.sipush 300, 3) := by decide +kernel
theorem d_Re_init_32 : decode prog_6_method_1_code 32 = .ok (.newarray .int, 2) := by decide +kernel
theorem d_Re_init_34 : decode prog_6_method_1_code 34 = .ok (.putfield 21, 3) := by decide +kernel
theorem d_Re_init_37 : decode prog_6_method_1_code 37 = .ok (.aload_n 0, 1) := by decide +kernel
theorem d_Re_init_38 : decode prog_6_method_1_code 38 = .ok (.sipush 300, 3) := by decide +kernel
theorem d_Re_init_41 : decode prog_6_method_1_code 41 = .ok (.newarray .int, 2) := by decide +kernel
theorem d_Re_init_43 : decode prog_6_method_1_code 43 = .ok (.putfield 24, 3) := by decide +kernel
theorem d_Re_init_46 : decode prog_6_method_1_code 46 = .ok (.aload_n 0, 1) := by decide +kernel
theorem d_Re_init_47 : decode prog_6_method_1_code 47 = .ok (.aload_n 1, 1) := by decide +kernel
theorem d_Re_init_48 : decode prog_6_method_1_code 48 = .ok (.putfield 27, 3) := by decide +kernel
theorem d_Re_init_51 : decode prog_6_method_1_code 51 = .ok (.return_, 1) := by decide +kernel
theorem d_TP_person_0 : decode prog_1_method_2_code 0 = .ok (.aload_n 0, 1) := by decide +kernel
theorem d_TP_person_1 : decode prog_1_method_2_code 1 = .ok (.getfield 10, 3) := by decide +kernel
theorem d_TP_person_4 : decode prog_1_method_2_code 4 = .ok (.iload_n 1, 1) := by decide +kernel
theorem d_TP_person_5 : decode prog_1_method_2_code 5 = .ok (.iload_n 2, 1) := by decide +kernel
theorem d_TP_person_6 : decode prog_1_method_2_code 6 = .ok (.invokevirtual 85, 3) := by decide +kernel
theorem d_TP_person_9 : decode prog_1_method_2_code 9 = .ok (.ireturn, 1) := by decide +kernel
theorem d_TP_put_0 : decode prog_1_method_64_code 0 = .ok (.iload_n 1, 1) := by decide +kernel
theorem d_TP_put_1 : decode prog_1_method_64_code 1 = .ok (.ifCond .lt 13, 3) := by decide +kernel
theorem d_TP_put_4 : decode prog_1_method_64_code 4 = .ok (.iload_n 1, 1) := by decide +kernel
theorem d_TP_put_5 : decode prog_1_method_64_code 5 = .ok (.aload_n 0, 1) := by decide +kernel
theorem d_TP_put_6 : decode prog_1_method_64_code 6 = .ok (.arraylength, 1) := by decide +kernel
theorem d_TP_put_7 : decode prog_1_method_64_code 7 = .ok (.if_icmp .ge 7, 3) := by decide +kernel
theorem d_TP_put_10 : decode prog_1_method_64_code 10 = .ok (.aload_n 0, 1) := by decide +kernel
theorem d_TP_put_11 : decode prog_1_method_64_code 11 = .ok (.iload_n 1, 1) := by decide +kernel
theorem d_TP_put_12 : decode prog_1_method_64_code 12 = .ok (.iload_n 2, 1) := by decide +kernel
theorem d_TP_put_13 : decode prog_1_method_64_code 13 = .ok (.iastore, 1) := by decide +kernel
theorem d_TP_put_14 : decode prog_1_method_64_code 14 = .ok (.return_, 1) := by decide +kernel
theorem d_TP_hear_0 : decode prog_1_method_3_code 0 = .ok (.aload_n 0, 1) := by decide +kernel
theorem d_TP_hear_1 : decode prog_1_method_3_code 1 = .ok (.getfield 10, 3) := by decide +kernel
theorem d_TP_hear_4 : decode prog_1_method_3_code 4 = .ok (.iload_n 1, 1) := by decide +kernel
theorem d_TP_hear_5 : decode prog_1_method_3_code 5 = .ok (.iload_n 2, 1) := by decide +kernel
theorem d_TP_hear_6 : decode prog_1_method_3_code 6 = .ok (.invokevirtual 89, 3) := by decide +kernel
theorem d_TP_hear_9 : decode prog_1_method_3_code 9 = .ok (.ireturn, 1) := by decide +kernel
theorem d_TP_at_0 : decode prog_1_method_63_code 0 = .ok (.iload_n 1, 1) := by decide +kernel
theorem d_TP_at_1 : decode prog_1_method_63_code 1 = .ok (.ifCond .lt 15, 3) := by decide +kernel
theorem d_TP_at_4 : decode prog_1_method_63_code 4 = .ok (.iload_n 1, 1) := by decide +kernel
theorem d_TP_at_5 : decode prog_1_method_63_code 5 = .ok (.aload_n 0, 1) := by decide +kernel
theorem d_TP_at_6 : decode prog_1_method_63_code 6 = .ok (.arraylength, 1) := by decide +kernel
theorem d_TP_at_7 : decode prog_1_method_63_code 7 = .ok (.if_icmp .ge 9, 3) := by decide +kernel
theorem d_TP_at_10 : decode prog_1_method_63_code 10 = .ok (.aload_n 0, 1) := by decide +kernel
theorem d_TP_at_11 : decode prog_1_method_63_code 11 = .ok (.iload_n 1, 1) := by decide +kernel
theorem d_TP_at_12 : decode prog_1_method_63_code 12 = .ok (.iaload, 1) := by decide +kernel
theorem d_TP_at_13 : decode prog_1_method_63_code 13 = .ok (.goto 4, 3) := by decide +kernel
theorem d_TP_at_16 : decode prog_1_method_63_code 16 = .ok (.iconst 0, 1) := by decide +kernel
theorem d_TP_at_17 : decode prog_1_method_63_code 17 = .ok (.ireturn, 1) := by decide +kernel
theorem d_TP_feed_0 : decode prog_1_method_4_code 0 = .ok (.aload_n 0, 1) := by decide +kernel
theorem d_TP_feed_1 : decode prog_1_method_4_code 1 = .ok (.getfield 54, 3) := by decide +kernel
theorem d_TP_feed_4 : decode prog_1_method_4_code 4 = .ok (.getfield 93, 3) := by decide +kernel
theorem d_TP_feed_7 : decode prog_1_method_4_code 7 = .ok (.bipush 20, 2) := by decide +kernel
theorem d_TP_feed_9 : decode prog_1_method_4_code 9 = .ok (.iadd, 1) := by decide +kernel
theorem d_TP_feed_10 : decode prog_1_method_4_code 10 = .ok (.sipush 300, 3) := by decide +kernel
theorem d_TP_feed_13 : decode prog_1_method_4_code 13 = .ok (.if_icmp .le 5, 3) := by decide +kernel
theorem d_TP_feed_16 : decode prog_1_method_4_code 16 = .ok (.iconst (-1), 1) := by decide +kernel
theorem d_TP_feed_17 : decode prog_1_method_4_code 17 = .ok (.ireturn, 1) := by decide +kernel
theorem d_TP_feed_18 : decode prog_1_method_4_code 18 = .ok (.aload_n 0, 1) := by decide +kernel
theorem d_TP_feed_19 : decode prog_1_method_4_code 19 = .ok (.getfield 54, 3) := by decide +kernel
theorem d_TP_feed_22 : decode prog_1_method_4_code 22 = .ok (.iload_n 1, 1) := by decide +kernel
theorem d_TP_feed_23 : decode prog_1_method_4_code 23 = .ok (.invokevirtual 96, 3) := by decide +kernel
theorem d_TP_feed_26 : decode prog_1_method_4_code 26 = .ok (.aload_n 0, 1) := by decide +kernel
theorem d_TP_feed_27 : decode prog_1_method_4_code 27 = .ok (.getfield 54, 3) := by decide +kernel
theorem d_TP_feed_30 : decode prog_1_method_4_code 30 = .ok (.iload_n 2, 1) := by decide +kernel
theorem d_TP_feed_31 : decode prog_1_method_4_code 31 = .ok (.invokevirtual 96, 3) := by decide +kernel
theorem d_TP_feed_34 : decode prog_1_method_4_code 34 = .ok (.aload_n 0, 1) := by decide +kernel
theorem d_TP_feed_35 : decode prog_1_method_4_code 35 = .ok (.getfield 54, 3) := by decide +kernel
theorem d_TP_feed_38 : decode prog_1_method_4_code 38 = .ok (.iload_n 3, 1) := by decide +kernel
theorem d_TP_feed_39 : decode prog_1_method_4_code 39 = .ok (.invokevirtual 96, 3) := by decide +kernel
theorem d_TP_feed_42 : decode prog_1_method_4_code 42 = .ok (.aload_n 0, 1) := by decide +kernel
theorem d_TP_feed_43 : decode prog_1_method_4_code 43 = .ok (.getfield 54, 3) := by decide +kernel
theorem d_TP_feed_46 : decode prog_1_method_4_code 46 = .ok (.iload 4, 2) := by decide +kernel
theorem d_TP_feed_48 : decode prog_1_method_4_code 48 = .ok (.invokevirtual 96, 3) := by decide +kernel
theorem d_TP_feed_51 : decode prog_1_method_4_code 51 = .ok (.aload_n 0, 1) := by decide +kernel
theorem d_TP_feed_52 : decode prog_1_method_4_code 52 = .ok (.getfield 54, 3) := by decide +kernel
theorem d_TP_feed_55 : decode prog_1_method_4_code 55 = .ok (.iload 5, 2) := by decide +kernel
theorem d_TP_feed_57 : decode prog_1_method_4_code 57 = .ok (.invokevirtual 96, 3) := by decide +kernel
theorem d_TP_feed_60 : decode prog_1_method_4_code 60 = .ok (.aload_n 0, 1) := by decide +kernel
theorem d_TP_feed_61 : decode prog_1_method_4_code 61 = .ok (.getfield 54, 3) := by decide +kernel
theorem d_TP_feed_64 : decode prog_1_method_4_code 64 = .ok (.getfield 93, 3) := by decide +kernel
theorem d_TP_feed_67 : decode prog_1_method_4_code 67 = .ok (.ireturn, 1) := by decide +kernel
theorem d_Ta_addFour_0 : decode prog_9_method_2_code 0 = .ok (.bipush 24, 2) := by decide +kernel
theorem d_Ta_addFour_2 : decode prog_9_method_2_code 2 = .ok (.istore_n 2, 1) := by decide +kernel
theorem d_Ta_addFour_3 : decode prog_9_method_2_code 3 = .ok (.iload_n 2, 1) := by decide +kernel
theorem d_Ta_addFour_4 : decode prog_9_method_2_code 4 = .ok (.ifCond .lt 37, 3) := by decide +kernel
theorem d_Ta_addFour_7 : decode prog_9_method_2_code 7 = .ok (.aload_n 0, 1) := by decide +kernel
theorem d_Ta_addFour_8 : decode prog_9_method_2_code 8 = .ok (.getfield 9, 3) := by decide +kernel
theorem d_Ta_addFour_11 : decode prog_9_method_2_code 11 = .ok (.aload_n 0, 1) := by decide +kernel
theorem d_Ta_addFour_12 : decode prog_9_method_2_code 12 = .ok (.getfield 24, 3) := by decide +kernel
theorem d_Ta_addFour_15 : decode prog_9_method_2_code 15 = .ok (.iload_n 1, 1) := by decide +kernel
theorem d_Ta_addFour_16 : decode prog_9_method_2_code 16 = .ok (.iload_n 2, 1) := by decide +kernel
theorem d_Ta_addFour_17 : decode prog_9_method_2_code 17 = .ok (.ishr, 1) := by decide +kernel
theorem d_Ta_addFour_18 : decode prog_9_method_2_code 18 = .ok (.sipush 255, 3) := by decide +kernel
theorem d_Ta_addFour_21 : decode prog_9_method_2_code 21 = .ok (.iand, 1) := by decide +kernel
theorem d_Ta_addFour_22 : decode prog_9_method_2_code 22 = .ok (.invokestatic 28, 3) := by decide +kernel
theorem d_Ta_addFour_25 : decode prog_9_method_2_code 25 = .ok (.aload_n 0, 1) := by decide +kernel
theorem d_Ta_addFour_26 : decode prog_9_method_2_code 26 = .ok (.dup, 1) := by decide +kernel
theorem d_Ta_addFour_27 : decode prog_9_method_2_code 27 = .ok (.getfield 24, 3) := by decide +kernel
theorem d_Ta_addFour_30 : decode prog_9_method_2_code 30 = .ok (.iconst 1, 1) := by decide +kernel
theorem d_Ta_addFour_31 : decode prog_9_method_2_code 31 = .ok (.iadd, 1) := by decide +kernel
theorem d_Ta_addFour_32 : decode prog_9_method_2_code 32 = .ok (.putfield 24, 3) := by decide +kernel
theorem d_Ta_addFour_35 : decode prog_9_method_2_code 35 = .ok (.iinc 2 (-8), 3) := by decide +kernel
theorem d_Ta_addFour_38 : decode prog_9_method_2_code 38 = .ok (.goto (-35), 3) := by decide +kernel
theorem d_Ta_addFour_41 : decode prog_9_method_2_code 41 = .ok (.return_, 1) := by decide +kernel
theorem d_TP_end_0 : decode prog_1_method_5_code 0 = .ok (.iload_n 1, 1) := by decide +kernel
theorem d_TP_end_1 : decode prog_1_method_5_code 1 = .ok (.ifCond .lt 14, 3) := by decide +kernel
theorem d_TP_end_4 : decode prog_1_method_5_code 4 = .ok (.iload_n 1, 1) := by decide +kernel
theorem d_TP_end_5 : decode prog_1_method_5_code 5 = .ok (.aload_n 0, 1) := by decide +kernel
theorem d_TP_end_6 : decode prog_1_method_5_code 6 = .ok (.getfield 54, 3) := by decide +kernel
theorem d_TP_end_9 : decode prog_1_method_5_code 9 = .ok (.getfield 93, 3) := by decide +kernel
theorem d_TP_end_12 : decode prog_1_method_5_code 12 = .ok (.if_icmp .le 5, 3) := by decide +kernel
theorem d_TP_end_15 : decode prog_1_method_5_code 15 = .ok (.iconst (-1), 1) := by decide +kernel
theorem d_TP_end_16 : decode prog_1_method_5_code 16 = .ok (.ireturn, 1) := by decide +kernel
theorem d_TP_end_17 : decode prog_1_method_5_code 17 = .ok (.aload_n 0, 1) := by decide +kernel
theorem d_TP_end_18 : decode prog_1_method_5_code 18 = .ok (.getfield 54, 3) := by decide +kernel
theorem d_TP_end_21 : decode prog_1_method_5_code 21 = .ok (.iload_n 1, 1) := by decide +kernel
theorem d_TP_end_22 : decode prog_1_method_5_code 22 = .ok (.putfield 93, 3) := by decide +kernel
theorem d_TP_end_25 : decode prog_1_method_5_code 25 = .ok (.iload_n 1, 1) := by decide +kernel
theorem d_TP_end_26 : decode prog_1_method_5_code 26 = .ok (.ireturn, 1) := by decide +kernel
theorem d_TP_text_0 : decode prog_1_method_6_code 0 = .ok (.aload_n 0, 1) := by decide +kernel
theorem d_TP_text_1 : decode prog_1_method_6_code 1 = .ok (.getfield 10, 3) := by decide +kernel
theorem d_TP_text_4 : decode prog_1_method_6_code 4 = .ok (.getfield 100, 3) := by decide +kernel
theorem d_TP_text_7 : decode prog_1_method_6_code 7 = .ok (.iconst 4, 1) := by decide +kernel
theorem d_TP_text_8 : decode prog_1_method_6_code 8 = .ok (.if_icmp .lt 5, 3) := by decide +kernel
theorem d_TP_text_11 : decode prog_1_method_6_code 11 = .ok (.iconst (-1), 1) := by decide +kernel
theorem d_TP_text_12 : decode prog_1_method_6_code 12 = .ok (.ireturn, 1) := by decide +kernel
theorem d_TP_text_13 : decode prog_1_method_6_code 13 = .ok (.aload_n 0, 1) := by decide +kernel
theorem d_TP_text_14 : decode prog_1_method_6_code 14 = .ok (.getfield 63, 3) := by decide +kernel
theorem d_TP_text_17 : decode prog_1_method_6_code 17 = .ok (.invokevirtual 103, 3) := by decide +kernel
theorem d_TP_text_20 : decode prog_1_method_6_code 20 = .ok (.astore_n 1, 1) := by decide +kernel
theorem d_TP_text_21 : decode prog_1_method_6_code 21 = .ok (.aload_n 0, 1) := by decide +kernel
theorem d_TP_text_22 : decode prog_1_method_6_code 22 = .ok (.getfield 54, 3) := by decide +kernel
theorem d_TP_text_25 : decode prog_1_method_6_code 25 = .ok (.iconst 0, 1) := by decide +kernel
theorem d_TP_text_26 : decode prog_1_method_6_code 26 = .ok (.putfield 93, 3) := by decide +kernel
theorem d_TP_text_29 : decode prog_1_method_6_code 29 = .ok (.aload_n 0, 1) := by decide +kernel
theorem d_TP_text_30 : decode prog_1_method_6_code 30 = .ok (.aload_n 0, 1) := by decide +kernel
theorem d_TP_text_31 : decode prog_1_method_6_code 31 = .ok (.getfield 63, 3) := by decide +kernel
theorem d_TP_text_34 : decode prog_1_method_6_code 34 = .ok (.getfield 107, 3) := by decide +kernel
theorem d_TP_text_37 : decode prog_1_method_6_code 37 = .ok (.putfield 78, 3) := by decide +kernel
theorem d_TP_text_40 : decode prog_1_method_6_code 40 = .ok (.aload_n 0, 1) := by decide +kernel
theorem d_TP_text_41 : decode prog_1_method_6_code 41 = .ok (.aload_n 0, 1) := by decide +kernel
theorem d_TP_text_42 : decode prog_1_method_6_code 42 = .ok (.getfield 63, 3) := by decide +kernel
theorem d_TP_text_45 : decode prog_1_method_6_code 45 = .ok (.getfield 110, 3) := by decide +kernel
theorem d_TP_text_48 : decode prog_1_method_6_code 48 = .ok (.putfield 82, 3) := by decide +kernel
theorem d_TP_text_51 : decode prog_1_method_6_code 51 = .ok (.aload_n 1, 1) := by decide +kernel
theorem d_TP_text_52 : decode prog_1_method_6_code 52 = .ok (.ifnonnull 7, 3) := by decide +kernel
theorem d_TP_text_55 : decode prog_1_method_6_code 55 = .ok (.iconst (-1), 1) := by decide +kernel
theorem d_TP_text_56 : decode prog_1_method_6_code 56 = .ok (.goto 11, 3) := by decide +kernel
theorem d_TP_text_59 : decode prog_1_method_6_code 59 = .ok (.aload_n 0, 1) := by decide +kernel
theorem d_TP_text_60 : decode prog_1_method_6_code 60 = .ok (.getfield 10, 3) := by decide +kernel
theorem d_TP_text_63 : decode prog_1_method_6_code 63 = .ok (.aload_n 1, 1) := by decide +kernel
theorem d_TP_text_64 : decode prog_1_method_6_code 64 = .ok (.invokevirtual 113, 3) := by decide +kernel
theorem d_TP_text_67 : decode prog_1_method_6_code 67 = .ok (.ireturn, 1) := by decide +kernel
theorem d_Re_readAll_0 : decode prog_6_method_2_code 0 = .ok (.aload_n 0, 1) := by decide +kernel
theorem d_Re_readAll_1 : decode prog_6_method_2_code 1 = .ok (.iconst 0, 1) := by decide +kernel
theorem d_Re_readAll_2 : decode prog_6_method_2_code 2 = .ok (.putfield 31, 3) := by decide +kernel
theorem d_Re_readAll_5 : decode prog_6_method_2_code 5 = .ok (.aload_n 0, 1) := by decide +kernel
theorem d_Re_readAll_6 : decode prog_6_method_2_code 6 = .ok (.iconst 0, 1) := by decide +kernel
theorem d_Re_readAll_7 : decode prog_6_method_2_code 7 = .ok (.putfield 35, 3) := by decide +kernel
theorem d_Re_readAll_10 : decode prog_6_method_2_code 10 = .ok (.aload_n 0, 1) := by decide +kernel
theorem d_Re_readAll_11 : decode prog_6_method_2_code 11 = .ok (.iconst (-1), 1) := by decide +kernel
theorem d_Re_readAll_12 : decode prog_6_method_2_code 12 = .ok (.putfield 38, 3) := by decide +kernel
theorem d_Re_readAll_15 : decode prog_6_method_2_code 15 = .ok (.aload_n 0, 1) := by decide +kernel
theorem d_Re_readAll_16 : decode prog_6_method_2_code 16 = .ok (.iconst (-1), 1) := by decide +kernel
theorem d_Re_readAll_17 : decode prog_6_method_2_code 17 = .ok (.putfield 41, 3) := by decide +kernel
theorem d_Re_readAll_20 : decode prog_6_method_2_code 20 = .ok (.aload_n 0, 1) := by decide +kernel
theorem d_Re_readAll_21 : decode prog_6_method_2_code 21 = .ok (.iconst 0, 1) := by decide +kernel
theorem d_Re_readAll_22 : decode prog_6_method_2_code 22 = .ok (.putfield 44, 3) := by decide +kernel
theorem d_Re_readAll_25 : decode prog_6_method_2_code 25 = .ok (.aload_n 0, 1) := by decide +kernel
theorem d_Re_readAll_26 : decode prog_6_method_2_code 26 = .ok (.iconst (-1), 1) := by decide +kernel
theorem d_Re_readAll_27 : decode prog_6_method_2_code 27 = .ok (.putfield 47, 3) := by decide +kernel
theorem d_Re_readAll_30 : decode prog_6_method_2_code 30 = .ok (.aload_n 0, 1) := by decide +kernel
theorem d_Re_readAll_31 : decode prog_6_method_2_code 31 = .ok (.getfield 27, 3) := by decide +kernel
theorem d_Re_readAll_34 : decode prog_6_method_2_code 34 = .ok (.invokevirtual 50, 3) := by decide +kernel
theorem d_Re_readAll_37 : decode prog_6_method_2_code 37 = .ok (.aload_n 0, 1) := by decide +kernel
theorem d_Re_readAll_38 : decode prog_6_method_2_code 38 = .ok (.iconst (-1), 1) := by decide +kernel
theorem d_Re_readAll_39 : decode prog_6_method_2_code 39 = .ok (.putfield 55, 3) := by decide +kernel
theorem d_Re_readAll_42 : decode prog_6_method_2_code 42 = .ok (.aload_n 0, 1) := by decide +kernel
theorem d_Re_readAll_43 : decode prog_6_method_2_code 43 = .ok (.invokevirtual 58, 3) := by decide +kernel
theorem d_Re_readAll_46 : decode prog_6_method_2_code 46 = .ok (.iconst 0, 1) := by decide +kernel
theorem d_Re_readAll_47 : decode prog_6_method_2_code 47 = .ok (.istore_n 1, 1) := by decide +kernel
theorem d_Re_readAll_48 : decode prog_6_method_2_code 48 = .ok (.iload_n 1, 1) := by decide +kernel
theorem d_Re_readAll_49 : decode prog_6_method_2_code 49 = .ok (.bipush 24, 2) := by decide +kernel
theorem d_Re_readAll_51 : decode prog_6_method_2_code 51 = .ok (.if_icmp .gt 29, 3) := by decide +kernel
theorem d_Re_readAll_54 : decode prog_6_method_2_code 54 = .ok (.aload_n 0, 1) := by decide +kernel
theorem d_Re_readAll_55 : decode prog_6_method_2_code 55 = .ok (.getfield 44, 3) := by decide +kernel
theorem d_Re_readAll_58 : decode prog_6_method_2_code 58 = .ok (.ifCond .ne 22, 3) := by decide +kernel
theorem d_Re_readAll_61 : decode prog_6_method_2_code 61 = .ok (.aload_n 0, 1) := by decide +kernel
theorem d_Re_readAll_62 : decode prog_6_method_2_code 62 = .ok (.getfield 61, 3) := by decide +kernel
theorem d_Re_readAll_65 : decode prog_6_method_2_code 65 = .ok (.bipush 40, 2) := by decide +kernel
theorem d_Re_readAll_67 : decode prog_6_method_2_code 67 = .ok (.if_icmp .eq 13, 3) := by decide +kernel
theorem d_Re_readAll_70 : decode prog_6_method_2_code 70 = .ok (.aload_n 0, 1) := by decide +kernel
theorem d_Re_readAll_71 : decode prog_6_method_2_code 71 = .ok (.invokevirtual 66, 3) := by decide +kernel
theorem d_Re_readAll_74 : decode prog_6_method_2_code 74 = .ok (.iinc 1 1, 3) := by decide +kernel
theorem d_Re_readAll_77 : decode prog_6_method_2_code 77 = .ok (.goto (-29), 3) := by decide +kernel
theorem d_Re_readAll_80 : decode prog_6_method_2_code 80 = .ok (.aload_n 0, 1) := by decide +kernel
theorem d_Re_readAll_81 : decode prog_6_method_2_code 81 = .ok (.getfield 44, 3) := by decide +kernel
theorem d_Re_readAll_84 : decode prog_6_method_2_code 84 = .ok (.ifCond .ne 10, 3) := by decide +kernel
theorem d_Re_readAll_87 : decode prog_6_method_2_code 87 = .ok (.aload_n 0, 1) := by decide +kernel
theorem d_Re_readAll_88 : decode prog_6_method_2_code 88 = .ok (.invokevirtual 69, 3) := by decide +kernel
theorem d_Re_readAll_91 : decode prog_6_method_2_code 91 = .ok (.goto 4, 3) := by decide +kernel
theorem d_Re_readAll_94 : decode prog_6_method_2_code 94 = .ok (.aconst_null, 1) := by decide +kernel
theorem d_Re_readAll_95 : decode prog_6_method_2_code 95 = .ok (.areturn, 1) := by decide +kernel
theorem d_Ta_cutTokens_0 : decode prog_9_method_3_code 0 = .ok (.aload_n 0, 1) := by decide +kernel
theorem d_Ta_cutTokens_1 : decode prog_9_method_3_code 1 = .ok (.iconst 0, 1) := by decide +kernel
theorem d_Ta_cutTokens_2 : decode prog_9_method_3_code 2 = .ok (.putfield 32, 3) := by decide +kernel
theorem d_Ta_cutTokens_5 : decode prog_9_method_3_code 5 = .ok (.aload_n 0, 1) := by decide +kernel
theorem d_Ta_cutTokens_6 : decode prog_9_method_3_code 6 = .ok (.invokevirtual 35, 3) := by decide +kernel
theorem d_Ta_cutTokens_9 : decode prog_9_method_3_code 9 = .ok (.iconst 0, 1) := by decide +kernel
theorem d_Ta_cutTokens_10 : decode prog_9_method_3_code 10 = .ok (.istore_n 1, 1) := by decide +kernel
theorem d_Ta_cutTokens_11 : decode prog_9_method_3_code 11 = .ok (.iload_n 1, 1) := by decide +kernel
theorem d_Ta_cutTokens_12 : decode prog_9_method_3_code 12 = .ok (.sipush 300, 3) := by decide +kernel
theorem d_Ta_cutTokens_15 : decode prog_9_method_3_code 15 = .ok (.if_icmp .ge 76, 3) := by decide +kernel
theorem d_Ta_cutTokens_18 : decode prog_9_method_3_code 18 = .ok (.aload_n 0, 1) := by decide +kernel
theorem d_Ta_cutTokens_19 : decode prog_9_method_3_code 19 = .ok (.getfield 32, 3) := by decide +kernel
theorem d_Ta_cutTokens_22 : decode prog_9_method_3_code 22 = .ok (.aload_n 0, 1) := by decide +kernel
theorem d_Ta_cutTokens_23 : decode prog_9_method_3_code 23 = .ok (.getfield 24, 3) := by decide +kernel
theorem d_Ta_cutTokens_26 : decode prog_9_method_3_code 26 = .ok (.if_icmp .ge 65, 3) := by decide +kernel
theorem d_Ta_cutTokens_29 : decode prog_9_method_3_code 29 = .ok (.aload_n 0, 1) := by decide +kernel
theorem d_Ta_cutTokens_30 : decode prog_9_method_3_code 30 = .ok (.getfield 18, 3) := by decide +kernel
theorem d_Ta_cutTokens_33 : decode prog_9_method_3_code 33 = .ok (.iload_n 1, 1) := by decide +kernel
theorem d_Ta_cutTokens_34 : decode prog_9_method_3_code 34 = .ok (.aload_n 0, 1) := by decide +kernel
theorem d_Ta_cutTokens_35 : decode prog_9_method_3_code 35 = .ok (.getfield 32, 3) := by decide +kernel
theorem d_Ta_cutTokens_38 : decode prog_9_method_3_code 38 = .ok (.invokestatic 28, 3) := by decide +kernel
theorem d_Ta_cutTokens_41 : decode prog_9_method_3_code 41 = .ok (.aload_n 0, 1) := by decide +kernel
theorem d_Ta_cutTokens_42 : decode prog_9_method_3_code 42 = .ok (.iconst 0, 1) := by decide +kernel
theorem d_Ta_cutTokens_43 : decode prog_9_method_3_code 43 = .ok (.putfield 38, 3) := by decide +kernel
theorem d_Ta_cutTokens_46 : decode prog_9_method_3_code 46 = .ok (.aload_n 0, 1) := by decide +kernel
theorem d_Ta_cutTokens_47 : decode prog_9_method_3_code 47 = .ok (.getfield 15, 3) := by decide +kernel
theorem d_Ta_cutTokens_50 : decode prog_9_method_3_code 50 = .ok (.iload_n 1, 1) := by decide +kernel
theorem d_Ta_cutTokens_51 : decode prog_9_method_3_code 51 = .ok (.aload_n 0, 1) := by decide +kernel
theorem d_Ta_cutTokens_52 : decode prog_9_method_3_code 52 = .ok (.aload_n 0, 1) := by decide +kernel
theorem d_Ta_cutTokens_53 : decode prog_9_method_3_code 53 = .ok (.getfield 9, 3) := by decide +kernel
theorem d_Ta_cutTokens_56 : decode prog_9_method_3_code 56 = .ok (.aload_n 0, 1) := by decide +kernel
theorem d_Ta_cutTokens_57 : decode prog_9_method_3_code 57 = .ok (.getfield 32, 3) := by decide +kernel
theorem d_Ta_cutTokens_60 : decode prog_9_method_3_code 60 = .ok (.invokestatic 41, 3) := by decide +kernel
theorem d_Ta_cutTokens_63 : decode prog_9_method_3_code 63 = .ok (.invokevirtual 45, 3) := by decide +kernel
theorem d_Ta_cutTokens_66 : decode prog_9_method_3_code 66 = .ok (.invokestatic 28, 3) := by decide +kernel
theorem d_Ta_cutTokens_69 : decode prog_9_method_3_code 69 = .ok (.aload_n 0, 1) := by decide +kernel
theorem d_Ta_cutTokens_70 : decode prog_9_method_3_code 70 = .ok (.getfield 21, 3) := by decide +kernel
theorem d_Ta_cutTokens_73 : decode prog_9_method_3_code 73 = .ok (.iload_n 1, 1) := by decide +kernel
theorem d_Ta_cutTokens_74 : decode prog_9_method_3_code 74 = .ok (.aload_n 0, 1) := by decide +kernel
theorem d_Ta_cutTokens_75 : decode prog_9_method_3_code 75 = .ok (.getfield 38, 3) := by decide +kernel
theorem d_Ta_cutTokens_78 : decode prog_9_method_3_code 78 = .ok (.invokestatic 28, 3) := by decide +kernel
theorem d_Ta_cutTokens_81 : decode prog_9_method_3_code 81 = .ok (.aload_n 0, 1) := by decide +kernel
theorem d_Ta_cutTokens_82 : decode prog_9_method_3_code 82 = .ok (.invokevirtual 35, 3) := by decide +kernel
theorem d_Ta_cutTokens_85 : decode prog_9_method_3_code 85 = .ok (.iinc 1 1, 3) := by decide +kernel
theorem d_Ta_cutTokens_88 : decode prog_9_method_3_code 88 = .ok (.goto (-77), 3) := by decide +kernel
theorem d_Ta_cutTokens_91 : decode prog_9_method_3_code 91 = .ok (.aload_n 0, 1) := by decide +kernel
theorem d_Ta_cutTokens_92 : decode prog_9_method_3_code 92 = .ok (.getfield 15, 3) := by decide +kernel
theorem d_Ta_cutTokens_95 : decode prog_9_method_3_code 95 = .ok (.iload_n 1, 1) := by decide +kernel
theorem d_Ta_cutTokens_96 : decode prog_9_method_3_code 96 = .ok (.bipush 40, 2) := by decide +kernel
theorem d_Ta_cutTokens_98 : decode prog_9_method_3_code 98 = .ok (.invokestatic 28, 3) := by decide +kernel
theorem d_Ta_cutTokens_101 : decode prog_9_method_3_code 101 = .ok (.aload_n 0, 1) := by decide +kernel
theorem d_Ta_cutTokens_102 : decode prog_9_method_3_code 102 = .ok (.getfield 18, 3) := by decide +kernel
theorem d_Ta_cutTokens_105 : decode prog_9_method_3_code 105 = .ok (.iload_n 1, 1) := by decide +kernel
theorem d_Ta_cutTokens_106 : decode prog_9_method_3_code 106 = .ok (.aload_n 0, 1) := by decide +kernel
theorem d_Ta_cutTokens_107 : decode prog_9_method_3_code 107 = .ok (.getfield 24, 3) := by decide +kernel
theorem d_Ta_cutTokens_110 : decode prog_9_method_3_code 110 = .ok (.invokestatic 28, 3) := by decide +kernel
theorem d_Ta_cutTokens_113 : decode prog_9_method_3_code 113 = .ok (.aload_n 0, 1) := by decide +kernel
theorem d_Ta_cutTokens_114 : decode prog_9_method_3_code 114 = .ok (.getfield 21, 3) := by decide +kernel
theorem d_Ta_cutTokens_117 : decode prog_9_method_3_code 117 = .ok (.iload_n 1, 1) := by decide +kernel
theorem d_Ta_cutTokens_118 : decode prog_9_method_3_code 118 = .ok (.iconst 0, 1) := by decide +kernel
theorem d_Ta_cutTokens_119 : decode prog_9_method_3_code 119 = .ok (.invokestatic 28, 3) := by decide +kernel
theorem d_Ta_cutTokens_122 : decode prog_9_method_3_code 122 = .ok (.return_, 1) := by decide +kernel
theorem d_Ta_skipBlanks_0 : decode prog_9_method_4_code 0 = .ok (.aload_n 0, 1) := by decide +kernel
theorem d_Ta_skipBlanks_1 : decode prog_9_method_4_code 1 = .ok (.getfield 32, 3) := by decide +kernel
theorem d_Ta_skipBlanks_4 : decode prog_9_method_4_code 4 = .ok (.aload_n 0, 1) := by decide +kernel
theorem d_Ta_skipBlanks_5 : decode prog_9_method_4_code 5 = .ok (.getfield 24, 3) := by decide +kernel
theorem d_Ta_skipBlanks_8 : decode prog_9_method_4_code 8 = .ok (.if_icmp .ge 33, 3) := by decide +kernel
theorem d_Ta_skipBlanks_11 : decode prog_9_method_4_code 11 = .ok (.aload_n 0, 1) := by decide +kernel
theorem d_Ta_skipBlanks_12 : decode prog_9_method_4_code 12 = .ok (.getfield 9, 3) := by decide +kernel
theorem d_Ta_skipBlanks_15 : decode prog_9_method_4_code 15 = .ok (.aload_n 0, 1) := by decide +kernel
theorem d_Ta_skipBlanks_16 : decode prog_9_method_4_code 16 = .ok (.getfield 32, 3) := by decide +kernel
theorem d_Ta_skipBlanks_19 : decode prog_9_method_4_code 19 = .ok (.invokestatic 41, 3) := by decide +kernel
theorem d_Ta_skipBlanks_22 : decode prog_9_method_4_code 22 = .ok (.invokestatic 51, 3) := by decide +kernel
theorem d_Ta_skipBlanks_25 : decode prog_9_method_4_code 25 = .ok (.ifCond .eq 16, 3) := by decide +kernel
theorem d_Ta_skipBlanks_28 : decode prog_9_method_4_code 28 = .ok (.aload_n 0, 1) := by decide +kernel
theorem d_Ta_skipBlanks_29 : decode prog_9_method_4_code 29 = .ok (.dup, 1) := by decide +kernel
theorem d_Ta_skipBlanks_30 : decode prog_9_method_4_code 30 = .ok (.getfield 32, 3) := by decide +kernel
theorem d_Ta_skipBlanks_33 : decode prog_9_method_4_code 33 = .ok (.iconst 1, 1) := by decide +kernel
theorem d_Ta_skipBlanks_34 : decode prog_9_method_4_code 34 = .ok (.iadd, 1) := by decide +kernel
theorem d_Ta_skipBlanks_35 : decode prog_9_method_4_code 35 = .ok (.putfield 32, 3) := by decide +kernel
theorem d_Ta_skipBlanks_38 : decode prog_9_method_4_code 38 = .ok (.goto (-38), 3) := by decide +kernel
theorem d_Ta_skipBlanks_41 : decode prog_9_method_4_code 41 = .ok (.return_, 1) := by decide +kernel
theorem d_Ta_isBlank_0 : decode prog_9_method_10_code 0 = .ok (.iload_n 0, 1) := by decide +kernel
theorem d_Ta_isBlank_1 : decode prog_9_method_10_code 1 = .ok (.bipush 32, 2) := by decide +kernel
theorem d_Ta_isBlank_3 : decode prog_9_method_10_code 3 = .ok (.if_icmp .eq 9, 3) := by decide +kernel
theorem d_Ta_isBlank_6 : decode prog_9_method_10_code 6 = .ok (.iload_n 0, 1) := by decide +kernel
theorem d_Ta_isBlank_7 : decode prog_9_method_10_code 7 = .ok (.bipush 10, 2) := by decide +kernel
theorem d_Ta_isBlank_9 : decode prog_9_method_10_code 9 = .ok (.if_icmp .ne 7, 3) := by decide +kernel
theorem d_Ta_isBlank_12 : decode prog_9_method_10_code 12 = .ok (.iconst 1, 1) := by decide +kernel
theorem d_Ta_isBlank_13 : decode prog_9_method_10_code 13 = .ok (.goto 4, 3) := by decide +kernel
theorem d_Ta_isBlank_16 : decode prog_9_method_10_code 16 = .ok (.iconst 0, 1) := by decide +kernel
theorem d_Ta_isBlank_17 : decode prog_9_method_10_code 17 = .ok (.ireturn, 1) := by decide +kernel
theorem d_Ta_readToken_0 : decode prog_9_method_5_code 0 = .ok (.iload_n 1, 1) := by decide +kernel
theorem d_Ta_readToken_1 : decode prog_9_method_5_code 1 = .ok (.invokestatic 55, 3) := by decide +kernel
theorem d_Ta_readToken_4 : decode prog_9_method_5_code 4 = .ok (.ifCond .eq 8, 3) := by decide +kernel
theorem d_Ta_readToken_7 : decode prog_9_method_5_code 7 = .ok (.aload_n 0, 1) := by decide +kernel
theorem d_Ta_readToken_8 : decode prog_9_method_5_code 8 = .ok (.invokevirtual 58, 3) := by decide +kernel
theorem d_Ta_readToken_11 : decode prog_9_method_5_code 11 = .ok (.ireturn, 1) := by decide +kernel
theorem d_Ta_readToken_12 : decode prog_9_method_5_code 12 = .ok (.iload_n 1, 1) := by decide +kernel
theorem d_Ta_readToken_13 : decode prog_9_method_5_code 13 = .ok (.invokestatic 62, 3) := by decide +kernel
theorem d_Ta_readToken_16 : decode prog_9_method_5_code 16 = .ok (.ifCond .eq 8, 3) := by decide +kernel
theorem d_Ta_readToken_19 : decode prog_9_method_5_code 19 = .ok (.aload_n 0, 1) := by decide +kernel
theorem d_Ta_readToken_20 : decode prog_9_method_5_code 20 = .ok (.invokevirtual 65, 3) := by decide +kernel
theorem d_Ta_readToken_23 : decode prog_9_method_5_code 23 = .ok (.ireturn, 1) := by decide +kernel
theorem d_Ta_readToken_24 : decode prog_9_method_5_code 24 = .ok (.aload_n 0, 1) := by decide +kernel
theorem d_Ta_readToken_25 : decode prog_9_method_5_code 25 = .ok (.iload_n 1, 1) := by decide +kernel
theorem d_Ta_readToken_26 : decode prog_9_method_5_code 26 = .ok (.i2c, 1) := by decide +kernel
theorem d_Ta_readToken_27 : decode prog_9_method_5_code 27 = .ok (.invokevirtual 68, 3) := by decide +kernel
theorem d_Ta_readToken_30 : decode prog_9_method_5_code 30 = .ok (.ireturn, 1) := by decide +kernel
theorem d_Ta_isLetter_0 : decode prog_9_method_11_code 0 = .ok (.iload_n 0, 1) := by decide +kernel
theorem d_Ta_isLetter_1 : decode prog_9_method_11_code 1 = .ok (.bipush 97, 2) := by decide +kernel
theorem d_Ta_isLetter_3 : decode prog_9_method_11_code 3 = .ok (.if_icmp .lt 9, 3) := by decide +kernel
theorem d_Ta_isLetter_6 : decode prog_9_method_11_code 6 = .ok (.iload_n 0, 1) := by decide +kernel
theorem d_Ta_isLetter_7 : decode prog_9_method_11_code 7 = .ok (.bipush 122, 2) := by decide +kernel
theorem d_Ta_isLetter_9 : decode prog_9_method_11_code 9 = .ok (.if_icmp .le 15, 3) := by decide +kernel
theorem d_Ta_isLetter_12 : decode prog_9_method_11_code 12 = .ok (.iload_n 0, 1) := by decide +kernel
theorem d_Ta_isLetter_13 : decode prog_9_method_11_code 13 = .ok (.bipush 65, 2) := by decide +kernel
theorem d_Ta_isLetter_15 : decode prog_9_method_11_code 15 = .ok (.if_icmp .lt 13, 3) := by decide +kernel
theorem d_Ta_isLetter_18 : decode prog_9_method_11_code 18 = .ok (.iload_n 0, 1) := by decide +kernel
theorem d_Ta_isLetter_19 : decode prog_9_method_11_code 19 = .ok (.bipush 90, 2) := by decide +kernel
theorem d_Ta_isLetter_21 : decode prog_9_method_11_code 21 = .ok (.if_icmp .gt 7, 3) := by decide +kernel
theorem d_Ta_isLetter_24 : decode prog_9_method_11_code 24 = .ok (.iconst 1, 1) := by decide +kernel
theorem d_Ta_isLetter_25 : decode prog_9_method_11_code 25 = .ok (.goto 4, 3) := by decide +kernel
theorem d_Ta_isLetter_28 : decode prog_9_method_11_code 28 = .ok (.iconst 0, 1) := by decide +kernel
theorem d_Ta_isLetter_29 : decode prog_9_method_11_code 29 = .ok (.ireturn, 1) := by decide +kernel
theorem d_Ta_readWord_0 : decode prog_9_method_6_code 0 = .ok (.aload_n 0, 1) := by decide +kernel
theorem d_Ta_readWord_1 : decode prog_9_method_6_code 1 = .ok (.getfield 32, 3) := by decide +kernel
theorem d_Ta_readWord_4 : decode prog_9_method_6_code 4 = .ok (.istore_n 1, 1) := by decide +kernel
theorem d_Ta_readWord_5 : decode prog_9_method_6_code 5 = .ok (.aload_n 0, 1) := by decide +kernel
theorem d_Ta_readWord_6 : decode prog_9_method_6_code 6 = .ok (.getfield 32, 3) := by decide +kernel
theorem d_Ta_readWord_9 : decode prog_9_method_6_code 9 = .ok (.aload_n 0, 1) := by decide +kernel
theorem d_Ta_readWord_10 : decode prog_9_method_6_code 10 = .ok (.getfield 24, 3) := by decide +kernel
theorem d_Ta_readWord_13 : decode prog_9_method_6_code 13 = .ok (.if_icmp .ge 33, 3) := by decide +kernel
theorem d_Ta_readWord_16 : decode prog_9_method_6_code 16 = .ok (.aload_n 0, 1) := by decide +kernel
theorem d_Ta_readWord_17 : decode prog_9_method_6_code 17 = .ok (.getfield 9, 3) := by decide +kernel
theorem d_Ta_readWord_20 : decode prog_9_method_6_code 20 = .ok (.aload_n 0, 1) := by decide +kernel
theorem d_Ta_readWord_21 : decode prog_9_method_6_code 21 = .ok (.getfield 32, 3) := by decide +kernel
theorem d_Ta_readWord_24 : decode prog_9_method_6_code 24 = .ok (.invokestatic 41, 3) := by decide +kernel
theorem d_Ta_readWord_27 : decode prog_9_method_6_code 27 = .ok (.invokestatic 55, 3) := by decide +kernel
theorem d_Ta_readWord_30 : decode prog_9_method_6_code 30 = .ok (.ifCond .eq 16, 3) := by decide +kernel
theorem d_Ta_readWord_33 : decode prog_9_method_6_code 33 = .ok (.aload_n 0, 1) := by decide +kernel
theorem d_Ta_readWord_34 : decode prog_9_method_6_code 34 = .ok (.dup, 1) := by decide +kernel
theorem d_Ta_readWord_35 : decode prog_9_method_6_code 35 = .ok (.getfield 32, 3) := by decide +kernel
theorem d_Ta_readWord_38 : decode prog_9_method_6_code 38 = .ok (.iconst 1, 1) := by decide +kernel
theorem d_Ta_readWord_39 : decode prog_9_method_6_code 39 = .ok (.iadd, 1) := by decide +kernel
theorem d_Ta_readWord_40 : decode prog_9_method_6_code 40 = .ok (.putfield 32, 3) := by decide +kernel
theorem d_Ta_readWord_43 : decode prog_9_method_6_code 43 = .ok (.goto (-38), 3) := by decide +kernel
theorem d_Ta_readWord_46 : decode prog_9_method_6_code 46 = .ok (.iconst 0, 1) := by decide +kernel
theorem d_Ta_readWord_47 : decode prog_9_method_6_code 47 = .ok (.istore_n 2, 1) := by decide +kernel
theorem d_Ta_readWord_48 : decode prog_9_method_6_code 48 = .ok (.iload_n 2, 1) := by decide +kernel
theorem d_Ta_readWord_49 : decode prog_9_method_6_code 49 = .ok (.bipush 25, 2) := by decide +kernel
theorem d_Ta_readWord_51 : decode prog_9_method_6_code 51 = .ok (.if_icmp .gt 31, 3) := by decide +kernel
theorem d_Ta_readWord_54 : decode prog_9_method_6_code 54 = .ok (.aload_n 0, 1) := by decide +kernel
theorem d_Ta_readWord_55 : decode prog_9_method_6_code 55 = .ok (.getfield 32, 3) := by decide +kernel
theorem d_Ta_readWord_58 : decode prog_9_method_6_code 58 = .ok (.iload_n 1, 1) := by decide +kernel
theorem d_Ta_readWord_59 : decode prog_9_method_6_code 59 = .ok (.isub, 1) := by decide +kernel
theorem d_Ta_readWord_60 : decode prog_9_method_6_code 60 = .ok (.bipush 6, 2) := by decide +kernel
theorem d_Ta_readWord_62 : decode prog_9_method_6_code 62 = .ok (.if_icmp .gt 20, 3) := by decide +kernel
theorem d_Ta_readWord_65 : decode prog_9_method_6_code 65 = .ok (.aload_n 0, 1) := by decide +kernel
theorem d_Ta_readWord_66 : decode prog_9_method_6_code 66 = .ok (.iload_n 1, 1) := by decide +kernel
theorem d_Ta_readWord_67 : decode prog_9_method_6_code 67 = .ok (.iload_n 2, 1) := by decide +kernel
theorem d_Ta_readWord_68 : decode prog_9_method_6_code 68 = .ok (.invokevirtual 72, 3) := by decide +kernel
theorem d_Ta_readWord_71 : decode prog_9_method_6_code 71 = .ok (.ifCond .eq 5, 3) := by decide +kernel
theorem d_Ta_readWord_74 : decode prog_9_method_6_code 74 = .ok (.iload_n 2, 1) := by decide +kernel
theorem d_Ta_readWord_75 : decode prog_9_method_6_code 75 = .ok (.ireturn, 1) := by decide +kernel
theorem d_Ta_readWord_76 : decode prog_9_method_6_code 76 = .ok (.iinc 2 1, 3) := by decide +kernel
theorem d_Ta_readWord_79 : decode prog_9_method_6_code 79 = .ok (.goto (-31), 3) := by decide +kernel
theorem d_Ta_readWord_82 : decode prog_9_method_6_code 82 = .ok (.bipush 41, 2) := by decide +kernel
theorem d_Ta_readWord_84 : decode prog_9_method_6_code 84 = .ok (.ireturn, 1) := by decide +kernel
theorem d_Ta_isWord_0 : decode prog_9_method_7_code 0 = .ok (.iconst 0, 1) := by decide +kernel
theorem d_Ta_isWord_1 : decode prog_9_method_7_code 1 = .ok (.istore_n 3, 1) := by decide +kernel
theorem d_Ta_isWord_2 : decode prog_9_method_7_code 2 = .ok (.iload_n 3, 1) := by decide +kernel
theorem d_Ta_isWord_3 : decode prog_9_method_7_code 3 = .ok (.bipush 6, 2) := by decide +kernel
theorem d_Ta_isWord_5 : decode prog_9_method_7_code 5 = .ok (.if_icmp .ge 77, 3) := by decide +kernel
theorem d_Ta_isWord_8 : decode prog_9_method_7_code 8 = .ok (.iload_n 2, 1) := by decide +kernel
theorem d_Ta_isWord_9 : decode prog_9_method_7_code 9 = .ok (.bipush 6, 2) := by decide +kernel
theorem d_Ta_isWord_11 : decode prog_9_method_7_code 11 = .ok (.imul, 1) := by decide +kernel
theorem d_Ta_isWord_12 : decode prog_9_method_7_code 12 = .ok (.iload_n 3, 1) := by decide +kernel
theorem d_Ta_isWord_13 : decode prog_9_method_7_code 13 = .ok (.iadd, 1) := by decide +kernel
theorem d_Ta_isWord_14 : decode prog_9_method_7_code 14 = .ok (.istore 4, 2) := by decide +kernel
theorem d_Ta_isWord_16 : decode prog_9_method_7_code 16 = .ok (.iload 4, 2) := by decide +kernel
theorem d_Ta_isWord_18 : decode prog_9_method_7_code 18 = .ok (.ldc 76, 2) := by decide +kernel
theorem d_Ta_isWord_20 : decode prog_9_method_7_code 20 = .ok (.invokevirtual 78, 3) := by decide +kernel
theorem d_Ta_isWord_23 : decode prog_9_method_7_code 23 = .ok (.if_icmp .ge 13, 3) := by decide +kernel
theorem d_Ta_isWord_26 : decode prog_9_method_7_code 26 = .ok (.ldc 76, 2) := by decide +kernel
theorem d_Ta_isWord_28 : decode prog_9_method_7_code 28 = .ok (.iload 4, 2) := by decide +kernel
theorem d_Ta_isWord_30 : decode prog_9_method_7_code 30 = .ok (.invokevirtual 83, 3) := by decide +kernel
theorem d_Ta_isWord_33 : decode prog_9_method_7_code 33 = .ok (.goto 5, 3) := by decide +kernel
theorem d_Ta_isWord_36 : decode prog_9_method_7_code 36 = .ok (.bipush 32, 2) := by decide +kernel
theorem d_Ta_isWord_38 : decode prog_9_method_7_code 38 = .ok (.istore 5, 2) := by decide +kernel
theorem d_Ta_isWord_40 : decode prog_9_method_7_code 40 = .ok (.iload_n 1, 1) := by decide +kernel
theorem d_Ta_isWord_41 : decode prog_9_method_7_code 41 = .ok (.iload_n 3, 1) := by decide +kernel
theorem d_Ta_isWord_42 : decode prog_9_method_7_code 42 = .ok (.iadd, 1) := by decide +kernel
theorem d_Ta_isWord_43 : decode prog_9_method_7_code 43 = .ok (.aload_n 0, 1) := by decide +kernel
theorem d_Ta_isWord_44 : decode prog_9_method_7_code 44 = .ok (.getfield 32, 3) := by decide +kernel
theorem d_Ta_isWord_47 : decode prog_9_method_7_code 47 = .ok (.if_icmp .ge 16, 3) := by decide +kernel
theorem d_Ta_isWord_50 : decode prog_9_method_7_code 50 = .ok (.aload_n 0, 1) := by decide +kernel
theorem d_Ta_isWord_51 : decode prog_9_method_7_code 51 = .ok (.getfield 9, 3) := by decide +kernel
theorem d_Ta_isWord_54 : decode prog_9_method_7_code 54 = .ok (.iload_n 1, 1) := by decide +kernel
theorem d_Ta_isWord_55 : decode prog_9_method_7_code 55 = .ok (.iload_n 3, 1) := by decide +kernel
theorem d_Ta_isWord_56 : decode prog_9_method_7_code 56 = .ok (.iadd, 1) := by decide +kernel
theorem d_Ta_isWord_57 : decode prog_9_method_7_code 57 = .ok (.invokestatic 41, 3) := by decide +kernel
theorem d_Ta_isWord_60 : decode prog_9_method_7_code 60 = .ok (.goto 5, 3) := by decide +kernel
theorem d_Ta_isWord_63 : decode prog_9_method_7_code 63 = .ok (.bipush 32, 2) := by decide +kernel
theorem d_Ta_isWord_65 : decode prog_9_method_7_code 65 = .ok (.istore 6, 2) := by decide +kernel
theorem d_Ta_isWord_67 : decode prog_9_method_7_code 67 = .ok (.iload 6, 2) := by decide +kernel
theorem d_Ta_isWord_69 : decode prog_9_method_7_code 69 = .ok (.iload 5, 2) := by decide +kernel
theorem d_Ta_isWord_71 : decode prog_9_method_7_code 71 = .ok (.if_icmp .eq 5, 3) := by decide +kernel
theorem d_Ta_isWord_74 : decode prog_9_method_7_code 74 = .ok (.iconst 0, 1) := by decide +kernel
theorem d_Ta_isWord_75 : decode prog_9_method_7_code 75 = .ok (.ireturn, 1) := by decide +kernel
theorem d_Ta_isWord_76 : decode prog_9_method_7_code 76 = .ok (.iinc 3 1, 3) := by decide +kernel
theorem d_Ta_isWord_79 : decode prog_9_method_7_code 79 = .ok (.goto (-77), 3) := by decide +kernel
theorem d_Ta_isWord_82 : decode prog_9_method_7_code 82 = .ok (.iconst 1, 1) := by decide +kernel
theorem d_Ta_isWord_83 : decode prog_9_method_7_code 83 = .ok (.ireturn, 1) := by decide +kernel
theorem d_Ta_isDigit_0 : decode prog_9_method_12_code 0 = .ok (.iload_n 0, 1) := by decide +kernel
theorem d_Ta_isDigit_1 : decode prog_9_method_12_code 1 = .ok (.bipush 48, 2) := by decide +kernel
theorem d_Ta_isDigit_3 : decode prog_9_method_12_code 3 = .ok (.if_icmp .lt 13, 3) := by decide +kernel
theorem d_Ta_isDigit_6 : decode prog_9_method_12_code 6 = .ok (.iload_n 0, 1) := by decide +kernel
theorem d_Ta_isDigit_7 : decode prog_9_method_12_code 7 = .ok (.bipush 57, 2) := by decide +kernel
theorem d_Ta_isDigit_9 : decode prog_9_method_12_code 9 = .ok (.if_icmp .gt 7, 3) := by decide +kernel
theorem d_Ta_isDigit_12 : decode prog_9_method_12_code 12 = .ok (.iconst 1, 1) := by decide +kernel
theorem d_Ta_isDigit_13 : decode prog_9_method_12_code 13 = .ok (.goto 4, 3) := by decide +kernel
theorem d_Ta_isDigit_16 : decode prog_9_method_12_code 16 = .ok (.iconst 0, 1) := by decide +kernel
theorem d_Ta_isDigit_17 : decode prog_9_method_12_code 17 = .ok (.ireturn, 1) := by decide +kernel
theorem d_Ta_readNumber_0 : decode prog_9_method_8_code 0 = .ok (.aload_n 0, 1) := by decide +kernel
theorem d_Ta_readNumber_1 : decode prog_9_method_8_code 1 = .ok (.getfield 32, 3) := by decide +kernel
theorem d_Ta_readNumber_4 : decode prog_9_method_8_code 4 = .ok (.aload_n 0, 1) := by decide +kernel
theorem d_Ta_readNumber_5 : decode prog_9_method_8_code 5 = .ok (.getfield 24, 3) := by decide +kernel
theorem d_Ta_readNumber_8 : decode prog_9_method_8_code 8 = .ok (.if_icmp .ge 65, 3) := by decide +kernel
theorem d_Ta_readNumber_11 : decode prog_9_method_8_code 11 = .ok (.aload_n 0, 1) := by decide +kernel
theorem d_Ta_readNumber_12 : decode prog_9_method_8_code 12 = .ok (.getfield 9, 3) := by decide +kernel
theorem d_Ta_readNumber_15 : decode prog_9_method_8_code 15 = .ok (.aload_n 0, 1) := by decide +kernel
theorem d_Ta_readNumber_16 : decode prog_9_method_8_code 16 = .ok (.getfield 32, 3) := by decide +kernel
theorem d_Ta_readNumber_19 : decode prog_9_method_8_code 19 = .ok (.invokestatic 41, 3) := by decide +kernel
theorem d_Ta_readNumber_22 : decode prog_9_method_8_code 22 = .ok (.invokestatic 62, 3) := by decide +kernel
theorem d_Ta_readNumber_25 : decode prog_9_method_8_code 25 = .ok (.ifCond .eq 48, 3) := by decide +kernel
theorem d_Ta_readNumber_28 : decode prog_9_method_8_code 28 = .ok (.aload_n 0, 1) := by decide +kernel
theorem d_Ta_readNumber_29 : decode prog_9_method_8_code 29 = .ok (.sipush 10000, 3) := by decide +kernel
theorem d_Ta_readNumber_32 : decode prog_9_method_8_code 32 = .ok (.aload_n 0, 1) := by decide +kernel
theorem d_Ta_readNumber_33 : decode prog_9_method_8_code 33 = .ok (.getfield 38, 3) := by decide +kernel
theorem d_Ta_readNumber_36 : decode prog_9_method_8_code 36 = .ok (.bipush 10, 2) := by decide +kernel
theorem d_Ta_readNumber_38 : decode prog_9_method_8_code 38 = .ok (.imul, 1) := by decide +kernel
theorem d_Ta_readNumber_39 : decode prog_9_method_8_code 39 = .ok (.aload_n 0, 1) := by decide +kernel
theorem d_Ta_readNumber_40 : decode prog_9_method_8_code 40 = .ok (.getfield 9, 3) := by decide +kernel
theorem d_Ta_readNumber_43 : decode prog_9_method_8_code 43 = .ok (.aload_n 0, 1) := by decide +kernel
theorem d_Ta_readNumber_44 : decode prog_9_method_8_code 44 = .ok (.getfield 32, 3) := by decide +kernel
theorem d_Ta_readNumber_47 : decode prog_9_method_8_code 47 = .ok (.invokestatic 41, 3) := by decide +kernel
theorem d_Ta_readNumber_50 : decode prog_9_method_8_code 50 = .ok (.iadd, 1) := by decide +kernel
theorem d_Ta_readNumber_51 : decode prog_9_method_8_code 51 = .ok (.bipush 48, 2) := by decide +kernel
theorem d_Ta_readNumber_53 : decode prog_9_method_8_code 53 = .ok (.isub, 1) := by decide +kernel
theorem d_Ta_readNumber_54 : decode prog_9_method_8_code 54 = .ok (.invokestatic 87, 3) := by decide +kernel
theorem d_Ta_readNumber_57 : decode prog_9_method_8_code 57 = .ok (.putfield 38, 3) := by decide +kernel
theorem d_Ta_readNumber_60 : decode prog_9_method_8_code 60 = .ok (.aload_n 0, 1) := by decide +kernel
theorem d_Ta_readNumber_61 : decode prog_9_method_8_code 61 = .ok (.dup, 1) := by decide +kernel
theorem d_Ta_readNumber_62 : decode prog_9_method_8_code 62 = .ok (.getfield 32, 3) := by decide +kernel
theorem d_Ta_readNumber_65 : decode prog_9_method_8_code 65 = .ok (.iconst 1, 1) := by decide +kernel
theorem d_Ta_readNumber_66 : decode prog_9_method_8_code 66 = .ok (.iadd, 1) := by decide +kernel
theorem d_Ta_readNumber_67 : decode prog_9_method_8_code 67 = .ok (.putfield 32, 3) := by decide +kernel
theorem d_Ta_readNumber_70 : decode prog_9_method_8_code 70 = .ok (.goto (-70), 3) := by decide +kernel
theorem d_Ta_readNumber_73 : decode prog_9_method_8_code 73 = .ok (.bipush 39, 2) := by decide +kernel
theorem d_Ta_readNumber_75 : decode prog_9_method_8_code 75 = .ok (.ireturn, 1) := by decide +kernel
theorem d_Ta_readMark_0 : decode prog_9_method_9_code 0 = .ok (.aload_n 0, 1) := by decide +kernel
theorem d_Ta_readMark_1 : decode prog_9_method_9_code 1 = .ok (.dup, 1) := by decide +kernel
theorem d_Ta_readMark_2 : decode prog_9_method_9_code 2 = .ok (.getfield 32, 3) := by decide +kernel
theorem d_Ta_readMark_5 : decode prog_9_method_9_code 5 = .ok (.iconst 1, 1) := by decide +kernel
theorem d_Ta_readMark_6 : decode prog_9_method_9_code 6 = .ok (.iadd, 1) := by decide +kernel
theorem d_Ta_readMark_7 : decode prog_9_method_9_code 7 = .ok (.putfield 32, 3) := by decide +kernel
theorem d_Ta_readMark_10 : decode prog_9_method_9_code 10 = .ok (.ldc 93, 2) := by decide +kernel
theorem d_Ta_readMark_12 : decode prog_9_method_9_code 12 = .ok (.iload_n 1, 1) := by decide +kernel
theorem d_Ta_readMark_13 : decode prog_9_method_9_code 13 = .ok (.invokevirtual 95, 3) := by decide +kernel
theorem d_Ta_readMark_16 : decode prog_9_method_9_code 16 = .ok (.istore_n 2, 1) := by decide +kernel
theorem d_Ta_readMark_17 : decode prog_9_method_9_code 17 = .ok (.iload_n 2, 1) := by decide +kernel
theorem d_Ta_readMark_18 : decode prog_9_method_9_code 18 = .ok (.ifCond .ge 8, 3) := by decide +kernel
theorem d_Ta_readMark_21 : decode prog_9_method_9_code 21 = .ok (.bipush 41, 2) := by decide +kernel
theorem d_Ta_readMark_23 : decode prog_9_method_9_code 23 = .ok (.goto 7, 3) := by decide +kernel
theorem d_Ta_readMark_26 : decode prog_9_method_9_code 26 = .ok (.bipush 28, 2) := by decide +kernel
theorem d_Ta_readMark_28 : decode prog_9_method_9_code 28 = .ok (.iload_n 2, 1) := by decide +kernel
theorem d_Ta_readMark_29 : decode prog_9_method_9_code 29 = .ok (.iadd, 1) := by decide +kernel
theorem d_Ta_readMark_30 : decode prog_9_method_9_code 30 = .ok (.istore_n 3, 1) := by decide +kernel
theorem d_Ta_readMark_31 : decode prog_9_method_9_code 31 = .ok (.iload_n 3, 1) := by decide +kernel
theorem d_Ta_readMark_32 : decode prog_9_method_9_code 32 = .ok (.bipush 28, 2) := by decide +kernel
theorem d_Ta_readMark_34 : decode prog_9_method_9_code 34 = .ok (.if_icmp .eq 9, 3) := by decide +kernel
theorem d_Ta_readMark_37 : decode prog_9_method_9_code 37 = .ok (.iload_n 3, 1) := by decide +kernel
theorem d_Ta_readMark_38 : decode prog_9_method_9_code 38 = .ok (.bipush 29, 2) := by decide +kernel
theorem d_Ta_readMark_40 : decode prog_9_method_9_code 40 = .ok (.if_icmp .ne 30, 3) := by decide +kernel
theorem d_Ta_readMark_43 : decode prog_9_method_9_code 43 = .ok (.aload_n 0, 1) := by decide +kernel
theorem d_Ta_readMark_44 : decode prog_9_method_9_code 44 = .ok (.getfield 32, 3) := by decide +kernel
theorem d_Ta_readMark_47 : decode prog_9_method_9_code 47 = .ok (.aload_n 0, 1) := by decide +kernel
theorem d_Ta_readMark_48 : decode prog_9_method_9_code 48 = .ok (.getfield 24, 3) := by decide +kernel
theorem d_Ta_readMark_51 : decode prog_9_method_9_code 51 = .ok (.if_icmp .ge 19, 3) := by decide +kernel
theorem d_Ta_readMark_54 : decode prog_9_method_9_code 54 = .ok (.aload_n 0, 1) := by decide +kernel
theorem d_Ta_readMark_55 : decode prog_9_method_9_code 55 = .ok (.getfield 9, 3) := by decide +kernel
theorem d_Ta_readMark_58 : decode prog_9_method_9_code 58 = .ok (.aload_n 0, 1) := by decide +kernel
theorem d_Ta_readMark_59 : decode prog_9_method_9_code 59 = .ok (.getfield 32, 3) := by decide +kernel
theorem d_Ta_readMark_62 : decode prog_9_method_9_code 62 = .ok (.invokestatic 41, 3) := by decide +kernel
theorem d_Ta_readMark_65 : decode prog_9_method_9_code 65 = .ok (.bipush 61, 2) := by decide +kernel
theorem d_Ta_readMark_67 : decode prog_9_method_9_code 67 = .ok (.if_icmp .eq 5, 3) := by decide +kernel
theorem d_Ta_readMark_70 : decode prog_9_method_9_code 70 = .ok (.iload_n 3, 1) := by decide +kernel
theorem d_Ta_readMark_71 : decode prog_9_method_9_code 71 = .ok (.ireturn, 1) := by decide +kernel
theorem d_Ta_readMark_72 : decode prog_9_method_9_code 72 = .ok (.aload_n 0, 1) := by decide +kernel
theorem d_Ta_readMark_73 : decode prog_9_method_9_code 73 = .ok (.dup, 1) := by decide +kernel
theorem d_Ta_readMark_74 : decode prog_9_method_9_code 74 = .ok (.getfield 32, 3) := by decide +kernel
theorem d_Ta_readMark_77 : decode prog_9_method_9_code 77 = .ok (.iconst 1, 1) := by decide +kernel
theorem d_Ta_readMark_78 : decode prog_9_method_9_code 78 = .ok (.iadd, 1) := by decide +kernel
theorem d_Ta_readMark_79 : decode prog_9_method_9_code 79 = .ok (.putfield 32, 3) := by decide +kernel
theorem d_Ta_readMark_82 : decode prog_9_method_9_code 82 = .ok (.iload_n 3, 1) := by decide +kernel
theorem d_Ta_readMark_83 : decode prog_9_method_9_code 83 = .ok (.bipush 28, 2) := by decide +kernel
theorem d_Ta_readMark_85 : decode prog_9_method_9_code 85 = .ok (.if_icmp .ne 8, 3) := by decide +kernel
theorem d_Ta_readMark_88 : decode prog_9_method_9_code 88 = .ok (.bipush 26, 2) := by decide +kernel
theorem d_Ta_readMark_90 : decode prog_9_method_9_code 90 = .ok (.goto 5, 3) := by decide +kernel
theorem d_Ta_readMark_93 : decode prog_9_method_9_code 93 = .ok (.bipush 27, 2) := by decide +kernel
theorem d_Ta_readMark_95 : decode prog_9_method_9_code 95 = .ok (.ireturn, 1) := by decide +kernel
theorem d_Re_advance_0 : decode prog_6_method_4_code 0 = .ok (.aload_n 0, 1) := by decide +kernel
theorem d_Re_advance_1 : decode prog_6_method_4_code 1 = .ok (.dup, 1) := by decide +kernel
theorem d_Re_advance_2 : decode prog_6_method_4_code 2 = .ok (.getfield 55, 3) := by decide +kernel
theorem d_Re_advance_5 : decode prog_6_method_4_code 5 = .ok (.iconst 1, 1) := by decide +kernel
theorem d_Re_advance_6 : decode prog_6_method_4_code 6 = .ok (.iadd, 1) := by decide +kernel
theorem d_Re_advance_7 : decode prog_6_method_4_code 7 = .ok (.putfield 55, 3) := by decide +kernel
theorem d_Re_advance_10 : decode prog_6_method_4_code 10 = .ok (.aload_n 0, 1) := by decide +kernel
theorem d_Re_advance_11 : decode prog_6_method_4_code 11 = .ok (.aload_n 0, 1) := by decide +kernel
theorem d_Re_advance_12 : decode prog_6_method_4_code 12 = .ok (.getfield 27, 3) := by decide +kernel
theorem d_Re_advance_15 : decode prog_6_method_4_code 15 = .ok (.getfield 94, 3) := by decide +kernel
theorem d_Re_advance_18 : decode prog_6_method_4_code 18 = .ok (.aload_n 0, 1) := by decide +kernel
theorem d_Re_advance_19 : decode prog_6_method_4_code 19 = .ok (.getfield 55, 3) := by decide +kernel
theorem d_Re_advance_22 : decode prog_6_method_4_code 22 = .ok (.invokestatic 95, 3) := by decide +kernel
theorem d_Re_advance_25 : decode prog_6_method_4_code 25 = .ok (.putfield 61, 3) := by decide +kernel
theorem d_Re_advance_28 : decode prog_6_method_4_code 28 = .ok (.aload_n 0, 1) := by decide +kernel
theorem d_Re_advance_29 : decode prog_6_method_4_code 29 = .ok (.aload_n 0, 1) := by decide +kernel
theorem d_Re_advance_30 : decode prog_6_method_4_code 30 = .ok (.getfield 27, 3) := by decide +kernel
theorem d_Re_advance_33 : decode prog_6_method_4_code 33 = .ok (.getfield 99, 3) := by decide +kernel
theorem d_Re_advance_36 : decode prog_6_method_4_code 36 = .ok (.aload_n 0, 1) := by decide +kernel
theorem d_Re_advance_37 : decode prog_6_method_4_code 37 = .ok (.getfield 55, 3) := by decide +kernel
theorem d_Re_advance_40 : decode prog_6_method_4_code 40 = .ok (.invokestatic 95, 3) := by decide +kernel
theorem d_Re_advance_43 : decode prog_6_method_4_code 43 = .ok (.putfield 102, 3) := by decide +kernel
theorem d_Re_advance_46 : decode prog_6_method_4_code 46 = .ok (.return_, 1) := by decide +kernel
theorem d_Re_readClause_0 : decode prog_6_method_7_code 0 = .ok (.aload_n 0, 1) := by decide +kernel
theorem d_Re_readClause_1 : decode prog_6_method_7_code 1 = .ok (.getfield 61, 3) := by decide +kernel
theorem d_Re_readClause_4 : decode prog_6_method_7_code 4 = .ok (.istore_n 1, 1) := by decide +kernel
theorem d_Re_readClause_5 : decode prog_6_method_7_code 5 = .ok (.iload_n 1, 1) := by decide +kernel
theorem d_Re_readClause_6 : decode prog_6_method_7_code 6 = .ok (.ifCond .ne 11, 3) := by decide +kernel
theorem d_Re_readClause_9 : decode prog_6_method_7_code 9 = .ok (.aload_n 0, 1) := by decide +kernel
theorem d_Re_readClause_10 : decode prog_6_method_7_code 10 = .ok (.getfield 38, 3) := by decide +kernel
theorem d_Re_readClause_13 : decode prog_6_method_7_code 13 = .ok (.iconst (-1), 1) := by decide +kernel
theorem d_Re_readClause_14 : decode prog_6_method_7_code 14 = .ok (.if_icmp .ne 16, 3) := by decide +kernel
theorem d_Re_readClause_17 : decode prog_6_method_7_code 17 = .ok (.iload_n 1, 1) := by decide +kernel
theorem d_Re_readClause_18 : decode prog_6_method_7_code 18 = .ok (.iconst 1, 1) := by decide +kernel
theorem d_Re_readClause_19 : decode prog_6_method_7_code 19 = .ok (.if_icmp .ne 15, 3) := by decide +kernel
theorem d_Re_readClause_22 : decode prog_6_method_7_code 22 = .ok (.aload_n 0, 1) := by decide +kernel
theorem d_Re_readClause_23 : decode prog_6_method_7_code 23 = .ok (.getfield 41, 3) := by decide +kernel
theorem d_Re_readClause_26 : decode prog_6_method_7_code 26 = .ok (.iconst (-1), 1) := by decide +kernel
theorem d_Re_readClause_27 : decode prog_6_method_7_code 27 = .ok (.if_icmp .eq 7, 3) := by decide +kernel
theorem d_Re_readClause_30 : decode prog_6_method_7_code 30 = .ok (.iconst 1, 1) := by decide +kernel
theorem d_Re_readClause_31 : decode prog_6_method_7_code 31 = .ok (.goto 4, 3) := by decide +kernel
theorem d_Re_readClause_34 : decode prog_6_method_7_code 34 = .ok (.iconst 0, 1) := by decide +kernel
theorem d_Re_readClause_35 : decode prog_6_method_7_code 35 = .ok (.istore_n 2, 1) := by decide +kernel
theorem d_Re_readClause_36 : decode prog_6_method_7_code 36 = .ok (.iload_n 1, 1) := by decide +kernel
theorem d_Re_readClause_37 : decode prog_6_method_7_code 37 = .ok (.invokestatic 112, 3) := by decide +kernel
theorem d_Re_readClause_40 : decode prog_6_method_7_code 40 = .ok (.ifCond .ne 11, 3) := by decide +kernel
theorem d_Re_readClause_43 : decode prog_6_method_7_code 43 = .ok (.aload_n 0, 1) := by decide +kernel
theorem d_Re_readClause_44 : decode prog_6_method_7_code 44 = .ok (.iconst 1, 1) := by decide +kernel
theorem d_Re_readClause_45 : decode prog_6_method_7_code 45 = .ok (.invokevirtual 108, 3) := by decide +kernel
theorem d_Re_readClause_48 : decode prog_6_method_7_code 48 = .ok (.goto 75, 3) := by decide +kernel
theorem d_Re_readClause_51 : decode prog_6_method_7_code 51 = .ok (.iload_n 2, 1) := by decide +kernel
theorem d_Re_readClause_52 : decode prog_6_method_7_code 52 = .ok (.ifCond .eq 11, 3) := by decide +kernel
theorem d_Re_readClause_55 : decode prog_6_method_7_code 55 = .ok (.aload_n 0, 1) := by decide +kernel
theorem d_Re_readClause_56 : decode prog_6_method_7_code 56 = .ok (.iconst 4, 1) := by decide +kernel
theorem d_Re_readClause_57 : decode prog_6_method_7_code 57 = .ok (.invokevirtual 108, 3) := by decide +kernel
theorem d_Re_readClause_60 : decode prog_6_method_7_code 60 = .ok (.goto 63, 3) := by decide +kernel
theorem d_Re_readClause_63 : decode prog_6_method_7_code 63 = .ok (.aload_n 0, 1) := by decide +kernel
theorem d_Re_readClause_64 : decode prog_6_method_7_code 64 = .ok (.getfield 31, 3) := by decide +kernel
theorem d_Re_readClause_67 : decode prog_6_method_7_code 67 = .ok (.bipush 24, 2) := by decide +kernel
theorem d_Re_readClause_69 : decode prog_6_method_7_code 69 = .ok (.if_icmp .lt 12, 3) := by decide +kernel
theorem d_Re_readClause_72 : decode prog_6_method_7_code 72 = .ok (.aload_n 0, 1) := by decide +kernel
theorem d_Re_readClause_73 : decode prog_6_method_7_code 73 = .ok (.bipush 6, 2) := by decide +kernel
theorem d_Re_readClause_75 : decode prog_6_method_7_code 75 = .ok (.invokevirtual 108, 3) := by decide +kernel
theorem d_Re_readClause_78 : decode prog_6_method_7_code 78 = .ok (.goto 45, 3) := by decide +kernel
theorem d_Re_readClause_81 : decode prog_6_method_7_code 81 = .ok (.aload_n 0, 1) := by decide +kernel
theorem d_Re_readClause_82 : decode prog_6_method_7_code 82 = .ok (.iload_n 1, 1) := by decide +kernel
theorem d_Re_readClause_83 : decode prog_6_method_7_code 83 = .ok (.putfield 116, 3) := by decide +kernel
theorem d_Re_readClause_86 : decode prog_6_method_7_code 86 = .ok (.aload_n 0, 1) := by decide +kernel
theorem d_Re_readClause_87 : decode prog_6_method_7_code 87 = .ok (.getfield 9, 3) := by decide +kernel
theorem d_Re_readClause_90 : decode prog_6_method_7_code 90 = .ok (.aload_n 0, 1) := by decide +kernel
theorem d_Re_readClause_91 : decode prog_6_method_7_code 91 = .ok (.getfield 31, 3) := by decide +kernel
theorem d_Re_readClause_94 : decode prog_6_method_7_code 94 = .ok (.iload_n 1, 1) := by decide +kernel
theorem d_Re_readClause_95 : decode prog_6_method_7_code 95 = .ok (.invokestatic 119, 3) := by decide +kernel
theorem d_Re_readClause_98 : decode prog_6_method_7_code 98 = .ok (.aload_n 0, 1) := by decide +kernel
theorem d_Re_readClause_99 : decode prog_6_method_7_code 99 = .ok (.invokevirtual 58, 3) := by decide +kernel
theorem d_Re_readClause_102 : decode prog_6_method_7_code 102 = .ok (.aload_n 0, 1) := by decide +kernel
theorem d_Re_readClause_103 : decode prog_6_method_7_code 103 = .ok (.iload_n 1, 1) := by decide +kernel
theorem d_Re_readClause_104 : decode prog_6_method_7_code 104 = .ok (.invokevirtual 123, 3) := by decide +kernel
theorem d_Re_readClause_107 : decode prog_6_method_7_code 107 = .ok (.aload_n 0, 1) := by decide +kernel
theorem d_Re_readClause_108 : decode prog_6_method_7_code 108 = .ok (.bipush 38, 2) := by decide +kernel
theorem d_Re_readClause_110 : decode prog_6_method_7_code 110 = .ok (.invokevirtual 126, 3) := by decide +kernel
theorem d_Re_readClause_113 : decode prog_6_method_7_code 113 = .ok (.aload_n 0, 1) := by decide +kernel
theorem d_Re_readClause_114 : decode prog_6_method_7_code 114 = .ok (.dup, 1) := by decide +kernel
theorem d_Re_readClause_115 : decode prog_6_method_7_code 115 = .ok (.getfield 31, 3) := by decide +kernel
theorem d_Re_readClause_118 : decode prog_6_method_7_code 118 = .ok (.iconst 1, 1) := by decide +kernel
theorem d_Re_readClause_119 : decode prog_6_method_7_code 119 = .ok (.iadd, 1) := by decide +kernel
theorem d_Re_readClause_120 : decode prog_6_method_7_code 120 = .ok (.putfield 31, 3) := by decide +kernel
theorem d_Re_readClause_123 : decode prog_6_method_7_code 123 = .ok (.return_, 1) := by decide +kernel
theorem d_Sg_beginsClause_0 : decode prog_8_method_6_code 0 = .ok (.iload_n 0, 1) := by decide +kernel
theorem d_Sg_beginsClause_1 : decode prog_8_method_6_code 1 = .ok (.ifCond .lt 23, 3) := by decide +kernel
theorem d_Sg_beginsClause_4 : decode prog_8_method_6_code 4 = .ok (.iload_n 0, 1) := by decide +kernel
theorem d_Sg_beginsClause_5 : decode prog_8_method_6_code 5 = .ok (.bipush 9, 2) := by decide +kernel
theorem d_Sg_beginsClause_7 : decode prog_8_method_6_code 7 = .ok (.if_icmp .gt 17, 3) := by decide +kernel
theorem d_Sg_beginsClause_10 : decode prog_8_method_6_code 10 = .ok (.iload_n 0, 1) := by decide +kernel
theorem d_Sg_beginsClause_11 : decode prog_8_method_6_code 11 = .ok (.iconst 3, 1) := by decide +kernel
theorem d_Sg_beginsClause_12 : decode prog_8_method_6_code 12 = .ok (.if_icmp .eq 12, 3) := by decide +kernel
theorem d_Sg_beginsClause_15 : decode prog_8_method_6_code 15 = .ok (.iload_n 0, 1) := by decide +kernel
theorem d_Sg_beginsClause_16 : decode prog_8_method_6_code 16 = .ok (.iconst 5, 1) := by decide +kernel
theorem d_Sg_beginsClause_17 : decode prog_8_method_6_code 17 = .ok (.if_icmp .eq 7, 3) := by decide +kernel
theorem d_Sg_beginsClause_20 : decode prog_8_method_6_code 20 = .ok (.iconst 1, 1) := by decide +kernel
theorem d_Sg_beginsClause_21 : decode prog_8_method_6_code 21 = .ok (.goto 4, 3) := by decide +kernel
theorem d_Sg_beginsClause_24 : decode prog_8_method_6_code 24 = .ok (.iconst 0, 1) := by decide +kernel
theorem d_Sg_beginsClause_25 : decode prog_8_method_6_code 25 = .ok (.ireturn, 1) := by decide +kernel
theorem d_Re_fail_0 : decode prog_6_method_5_code 0 = .ok (.aload_n 0, 1) := by decide +kernel
theorem d_Re_fail_1 : decode prog_6_method_5_code 1 = .ok (.getfield 44, 3) := by decide +kernel
theorem d_Re_fail_4 : decode prog_6_method_5_code 4 = .ok (.ifCond .ne 26, 3) := by decide +kernel
theorem d_Re_fail_7 : decode prog_6_method_5_code 7 = .ok (.aload_n 0, 1) := by decide +kernel
theorem d_Re_fail_8 : decode prog_6_method_5_code 8 = .ok (.iload_n 1, 1) := by decide +kernel
theorem d_Re_fail_9 : decode prog_6_method_5_code 9 = .ok (.putfield 44, 3) := by decide +kernel
theorem d_Re_fail_12 : decode prog_6_method_5_code 12 = .ok (.aload_n 0, 1) := by decide +kernel
theorem d_Re_fail_13 : decode prog_6_method_5_code 13 = .ok (.aload_n 0, 1) := by decide +kernel
theorem d_Re_fail_14 : decode prog_6_method_5_code 14 = .ok (.getfield 27, 3) := by decide +kernel
theorem d_Re_fail_17 : decode prog_6_method_5_code 17 = .ok (.getfield 105, 3) := by decide +kernel
theorem d_Re_fail_20 : decode prog_6_method_5_code 20 = .ok (.aload_n 0, 1) := by decide +kernel
theorem d_Re_fail_21 : decode prog_6_method_5_code 21 = .ok (.getfield 55, 3) := by decide +kernel
theorem d_Re_fail_24 : decode prog_6_method_5_code 24 = .ok (.invokestatic 95, 3) := by decide +kernel
theorem d_Re_fail_27 : decode prog_6_method_5_code 27 = .ok (.putfield 47, 3) := by decide +kernel
theorem d_Re_fail_30 : decode prog_6_method_5_code 30 = .ok (.return_, 1) := by decide +kernel
theorem d_Re_readRest_0 : decode prog_6_method_8_code 0 = .ok (.iload_n 1, 1) := by decide +kernel
theorem d_Re_readRest_1 : decode prog_6_method_8_code 1 = .ok (.tableswitch 190 0 9 #[55, 79, 103, 190, 132, 190, 162, 190, 190, 176], 55) := by decide +kernel
theorem d_Re_readRest_56 : decode prog_6_method_8_code 56 = .ok (.aload_n 0, 1) := by decide +kernel
theorem d_Re_readRest_57 : decode prog_6_method_8_code 57 = .ok (.aload_n 0, 1) := by decide +kernel
theorem d_Re_readRest_58 : decode prog_6_method_8_code 58 = .ok (.getfield 35, 3) := by decide +kernel
theorem d_Re_readRest_61 : decode prog_6_method_8_code 61 = .ok (.putfield 38, 3) := by decide +kernel
theorem d_Re_readRest_64 : decode prog_6_method_8_code 64 = .ok (.aload_n 0, 1) := by decide +kernel
theorem d_Re_readRest_65 : decode prog_6_method_8_code 65 = .ok (.iconst 0, 1) := by decide +kernel
theorem d_Re_readRest_66 : decode prog_6_method_8_code 66 = .ok (.invokevirtual 129, 3) := by decide +kernel
theorem d_Re_readRest_69 : decode prog_6_method_8_code 69 = .ok (.aload_n 0, 1) := by decide +kernel
theorem d_Re_readRest_70 : decode prog_6_method_8_code 70 = .ok (.aload_n 0, 1) := by decide +kernel
theorem d_Re_readRest_71 : decode prog_6_method_8_code 71 = .ok (.getfield 35, 3) := by decide +kernel
theorem d_Re_readRest_74 : decode prog_6_method_8_code 74 = .ok (.putfield 85, 3) := by decide +kernel
theorem d_Re_readRest_77 : decode prog_6_method_8_code 77 = .ok (.goto 125, 3) := by decide +kernel
theorem d_Re_readRest_80 : decode prog_6_method_8_code 80 = .ok (.aload_n 0, 1) := by decide +kernel
theorem d_Re_readRest_81 : decode prog_6_method_8_code 81 = .ok (.aload_n 0, 1) := by decide +kernel
theorem d_Re_readRest_82 : decode prog_6_method_8_code 82 = .ok (.getfield 35, 3) := by decide +kernel
theorem d_Re_readRest_85 : decode prog_6_method_8_code 85 = .ok (.putfield 41, 3) := by decide +kernel
theorem d_Re_readRest_88 : decode prog_6_method_8_code 88 = .ok (.aload_n 0, 1) := by decide +kernel
theorem d_Re_readRest_89 : decode prog_6_method_8_code 89 = .ok (.iconst 0, 1) := by decide +kernel
theorem d_Re_readRest_90 : decode prog_6_method_8_code 90 = .ok (.invokevirtual 129, 3) := by decide +kernel
theorem d_Re_readRest_93 : decode prog_6_method_8_code 93 = .ok (.aload_n 0, 1) := by decide +kernel
theorem d_Re_readRest_94 : decode prog_6_method_8_code 94 = .ok (.aload_n 0, 1) := by decide +kernel
theorem d_Re_readRest_95 : decode prog_6_method_8_code 95 = .ok (.getfield 35, 3) := by decide +kernel
theorem d_Re_readRest_98 : decode prog_6_method_8_code 98 = .ok (.putfield 90, 3) := by decide +kernel
theorem d_Re_readRest_101 : decode prog_6_method_8_code 101 = .ok (.goto 101, 3) := by decide +kernel
theorem d_Re_readRest_104 : decode prog_6_method_8_code 104 = .ok (.aload_n 0, 1) := by decide +kernel
theorem d_Re_readRest_105 : decode prog_6_method_8_code 105 = .ok (.aload_n 0, 1) := by decide +kernel
theorem d_Re_readRest_106 : decode prog_6_method_8_code 106 = .ok (.getfield 15, 3) := by decide +kernel
theorem d_Re_readRest_109 : decode prog_6_method_8_code 109 = .ok (.iconst 0, 1) := by decide +kernel
theorem d_Re_readRest_110 : decode prog_6_method_8_code 110 = .ok (.bipush 9, 2) := by decide +kernel
theorem d_Re_readRest_112 : decode prog_6_method_8_code 112 = .ok (.invokevirtual 132, 3) := by decide +kernel
theorem d_Re_readRest_115 : decode prog_6_method_8_code 115 = .ok (.aload_n 0, 1) := by decide +kernel
theorem d_Re_readRest_116 : decode prog_6_method_8_code 116 = .ok (.iconst 3, 1) := by decide +kernel
theorem d_Re_readRest_117 : decode prog_6_method_8_code 117 = .ok (.invokevirtual 126, 3) := by decide +kernel
theorem d_Re_readRest_120 : decode prog_6_method_8_code 120 = .ok (.aload_n 0, 1) := by decide +kernel
theorem d_Re_readRest_121 : decode prog_6_method_8_code 121 = .ok (.aload_n 0, 1) := by decide +kernel
theorem d_Re_readRest_122 : decode prog_6_method_8_code 122 = .ok (.getfield 18, 3) := by decide +kernel
theorem d_Re_readRest_125 : decode prog_6_method_8_code 125 = .ok (.iconst 0, 1) := by decide +kernel
theorem d_Re_readRest_126 : decode prog_6_method_8_code 126 = .ok (.iconst 3, 1) := by decide +kernel
theorem d_Re_readRest_127 : decode prog_6_method_8_code 127 = .ok (.invokevirtual 132, 3) := by decide +kernel
theorem d_Re_readRest_130 : decode prog_6_method_8_code 130 = .ok (.goto 72, 3) := by decide +kernel
theorem d_Re_readRest_133 : decode prog_6_method_8_code 133 = .ok (.aload_n 0, 1) := by decide +kernel
theorem d_Re_readRest_134 : decode prog_6_method_8_code 134 = .ok (.aload_n 0, 1) := by decide +kernel
theorem d_Re_readRest_135 : decode prog_6_method_8_code 135 = .ok (.getfield 15, 3) := by decide +kernel
theorem d_Re_readRest_138 : decode prog_6_method_8_code 138 = .ok (.iconst 0, 1) := by decide +kernel
theorem d_Re_readRest_139 : decode prog_6_method_8_code 139 = .ok (.bipush 7, 2) := by decide +kernel
theorem d_Re_readRest_141 : decode prog_6_method_8_code 141 = .ok (.invokevirtual 132, 3) := by decide +kernel
theorem d_Re_readRest_144 : decode prog_6_method_8_code 144 = .ok (.aload_n 0, 1) := by decide +kernel
theorem d_Re_readRest_145 : decode prog_6_method_8_code 145 = .ok (.iconst 5, 1) := by decide +kernel
theorem d_Re_readRest_146 : decode prog_6_method_8_code 146 = .ok (.invokevirtual 126, 3) := by decide +kernel
theorem d_Re_readRest_149 : decode prog_6_method_8_code 149 = .ok (.aload_n 0, 1) := by decide +kernel
theorem d_Re_readRest_150 : decode prog_6_method_8_code 150 = .ok (.aload_n 0, 1) := by decide +kernel
theorem d_Re_readRest_151 : decode prog_6_method_8_code 151 = .ok (.getfield 18, 3) := by decide +kernel
theorem d_Re_readRest_154 : decode prog_6_method_8_code 154 = .ok (.iconst 0, 1) := by decide +kernel
theorem d_Re_readRest_155 : decode prog_6_method_8_code 155 = .ok (.bipush 7, 2) := by decide +kernel
theorem d_Re_readRest_157 : decode prog_6_method_8_code 157 = .ok (.invokevirtual 132, 3) := by decide +kernel
theorem d_Re_readRest_160 : decode prog_6_method_8_code 160 = .ok (.goto 42, 3) := by decide +kernel
theorem d_Re_readRest_163 : decode prog_6_method_8_code 163 = .ok (.aload_n 0, 1) := by decide +kernel
theorem d_Re_readRest_164 : decode prog_6_method_8_code 164 = .ok (.aload_n 0, 1) := by decide +kernel
theorem d_Re_readRest_165 : decode prog_6_method_8_code 165 = .ok (.getfield 15, 3) := by decide +kernel
theorem d_Re_readRest_168 : decode prog_6_method_8_code 168 = .ok (.iconst 0, 1) := by decide +kernel
theorem d_Re_readRest_169 : decode prog_6_method_8_code 169 = .ok (.bipush 8, 2) := by decide +kernel
theorem d_Re_readRest_171 : decode prog_6_method_8_code 171 = .ok (.invokevirtual 132, 3) := by decide +kernel
theorem d_Re_readRest_174 : decode prog_6_method_8_code 174 = .ok (.goto 28, 3) := by decide +kernel
theorem d_Re_readRest_177 : decode prog_6_method_8_code 177 = .ok (.aload_n 0, 1) := by decide +kernel
theorem d_Re_readRest_178 : decode prog_6_method_8_code 178 = .ok (.aload_n 0, 1) := by decide +kernel
theorem d_Re_readRest_179 : decode prog_6_method_8_code 179 = .ok (.getfield 15, 3) := by decide +kernel
theorem d_Re_readRest_182 : decode prog_6_method_8_code 182 = .ok (.iconst 1, 1) := by decide +kernel
theorem d_Re_readRest_183 : decode prog_6_method_8_code 183 = .ok (.bipush 60, 2) := by decide +kernel
theorem d_Re_readRest_185 : decode prog_6_method_8_code 185 = .ok (.invokevirtual 132, 3) := by decide +kernel
theorem d_Re_readRest_188 : decode prog_6_method_8_code 188 = .ok (.goto 14, 3) := by decide +kernel
theorem d_Re_readRest_191 : decode prog_6_method_8_code 191 = .ok (.aload_n 0, 1) := by decide +kernel
theorem d_Re_readRest_192 : decode prog_6_method_8_code 192 = .ok (.aload_n 0, 1) := by decide +kernel
theorem d_Re_readRest_193 : decode prog_6_method_8_code 193 = .ok (.getfield 15, 3) := by decide +kernel
theorem d_Re_readRest_196 : decode prog_6_method_8_code 196 = .ok (.iconst 0, 1) := by decide +kernel
theorem d_Re_readRest_197 : decode prog_6_method_8_code 197 = .ok (.bipush 7, 2) := by decide +kernel
theorem d_Re_readRest_199 : decode prog_6_method_8_code 199 = .ok (.invokevirtual 132, 3) := by decide +kernel
theorem d_Re_readRest_202 : decode prog_6_method_8_code 202 = .ok (.return_, 1) := by decide +kernel
theorem d_Re_readSum_0 : decode prog_6_method_11_code 0 = .ok (.aload_n 0, 1) := by decide +kernel
theorem d_Re_readSum_1 : decode prog_6_method_11_code 1 = .ok (.iload_n 1, 1) := by decide +kernel
theorem d_Re_readSum_2 : decode prog_6_method_11_code 2 = .ok (.invokevirtual 135, 3) := by decide +kernel
theorem d_Re_readSum_5 : decode prog_6_method_11_code 5 = .ok (.iconst 0, 1) := by decide +kernel
theorem d_Re_readSum_6 : decode prog_6_method_11_code 6 = .ok (.istore_n 2, 1) := by decide +kernel
theorem d_Re_readSum_7 : decode prog_6_method_11_code 7 = .ok (.iload_n 2, 1) := by decide +kernel
theorem d_Re_readSum_8 : decode prog_6_method_11_code 8 = .ok (.sipush 300, 3) := by decide +kernel
theorem d_Re_readSum_11 : decode prog_6_method_11_code 11 = .ok (.if_icmp .ge 43, 3) := by decide +kernel
theorem d_Re_readSum_14 : decode prog_6_method_11_code 14 = .ok (.aload_n 0, 1) := by decide +kernel
theorem d_Re_readSum_15 : decode prog_6_method_11_code 15 = .ok (.getfield 44, 3) := by decide +kernel
theorem d_Re_readSum_18 : decode prog_6_method_11_code 18 = .ok (.ifCond .ne 36, 3) := by decide +kernel
theorem d_Re_readSum_21 : decode prog_6_method_11_code 21 = .ok (.aload_n 0, 1) := by decide +kernel
theorem d_Re_readSum_22 : decode prog_6_method_11_code 22 = .ok (.invokevirtual 138, 3) := by decide +kernel
theorem d_Re_readSum_25 : decode prog_6_method_11_code 25 = .ok (.ifCond .eq 29, 3) := by decide +kernel
theorem d_Re_readSum_28 : decode prog_6_method_11_code 28 = .ok (.aload_n 0, 1) := by decide +kernel
theorem d_Re_readSum_29 : decode prog_6_method_11_code 29 = .ok (.getfield 61, 3) := by decide +kernel
theorem d_Re_readSum_32 : decode prog_6_method_11_code 32 = .ok (.istore_n 3, 1) := by decide +kernel
theorem d_Re_readSum_33 : decode prog_6_method_11_code 33 = .ok (.aload_n 0, 1) := by decide +kernel
theorem d_Re_readSum_34 : decode prog_6_method_11_code 34 = .ok (.invokevirtual 58, 3) := by decide +kernel
theorem d_Re_readSum_37 : decode prog_6_method_11_code 37 = .ok (.aload_n 0, 1) := by decide +kernel
theorem d_Re_readSum_38 : decode prog_6_method_11_code 38 = .ok (.iload_n 1, 1) := by decide +kernel
theorem d_Re_readSum_39 : decode prog_6_method_11_code 39 = .ok (.invokevirtual 135, 3) := by decide +kernel
theorem d_Re_readSum_42 : decode prog_6_method_11_code 42 = .ok (.aload_n 0, 1) := by decide +kernel
theorem d_Re_readSum_43 : decode prog_6_method_11_code 43 = .ok (.iload_n 3, 1) := by decide +kernel
theorem d_Re_readSum_44 : decode prog_6_method_11_code 44 = .ok (.iconst 0, 1) := by decide +kernel
theorem d_Re_readSum_45 : decode prog_6_method_11_code 45 = .ok (.invokevirtual 142, 3) := by decide +kernel
theorem d_Re_readSum_48 : decode prog_6_method_11_code 48 = .ok (.iinc 2 1, 3) := by decide +kernel
theorem d_Re_readSum_51 : decode prog_6_method_11_code 51 = .ok (.goto (-44), 3) := by decide +kernel
theorem d_Re_readSum_54 : decode prog_6_method_11_code 54 = .ok (.return_, 1) := by decide +kernel
theorem d_Re_readProduct_0 : decode prog_6_method_13_code 0 = .ok (.aload_n 0, 1) := by decide +kernel
theorem d_Re_readProduct_1 : decode prog_6_method_13_code 1 = .ok (.iload_n 1, 1) := by decide +kernel
theorem d_Re_readProduct_2 : decode prog_6_method_13_code 2 = .ok (.invokevirtual 146, 3) := by decide +kernel
theorem d_Re_readProduct_5 : decode prog_6_method_13_code 5 = .ok (.iconst 0, 1) := by decide +kernel
theorem d_Re_readProduct_6 : decode prog_6_method_13_code 6 = .ok (.istore_n 2, 1) := by decide +kernel
theorem d_Re_readProduct_7 : decode prog_6_method_13_code 7 = .ok (.iload_n 2, 1) := by decide +kernel
theorem d_Re_readProduct_8 : decode prog_6_method_13_code 8 = .ok (.sipush 300, 3) := by decide +kernel
theorem d_Re_readProduct_11 : decode prog_6_method_13_code 11 = .ok (.if_icmp .ge 43, 3) := by decide +kernel
theorem d_Re_readProduct_14 : decode prog_6_method_13_code 14 = .ok (.aload_n 0, 1) := by decide +kernel
theorem d_Re_readProduct_15 : decode prog_6_method_13_code 15 = .ok (.getfield 44, 3) := by decide +kernel
theorem d_Re_readProduct_18 : decode prog_6_method_13_code 18 = .ok (.ifCond .ne 36, 3) := by decide +kernel
theorem d_Re_readProduct_21 : decode prog_6_method_13_code 21 = .ok (.aload_n 0, 1) := by decide +kernel
theorem d_Re_readProduct_22 : decode prog_6_method_13_code 22 = .ok (.invokevirtual 149, 3) := by decide +kernel
theorem d_Re_readProduct_25 : decode prog_6_method_13_code 25 = .ok (.ifCond .eq 29, 3) := by decide +kernel
theorem d_Re_readProduct_28 : decode prog_6_method_13_code 28 = .ok (.aload_n 0, 1) := by decide +kernel
theorem d_Re_readProduct_29 : decode prog_6_method_13_code 29 = .ok (.getfield 61, 3) := by decide +kernel
theorem d_Re_readProduct_32 : decode prog_6_method_13_code 32 = .ok (.istore_n 3, 1) := by decide +kernel
theorem d_Re_readProduct_33 : decode prog_6_method_13_code 33 = .ok (.aload_n 0, 1) := by decide +kernel
theorem d_Re_readProduct_34 : decode prog_6_method_13_code 34 = .ok (.invokevirtual 58, 3) := by decide +kernel
theorem d_Re_readProduct_37 : decode prog_6_method_13_code 37 = .ok (.aload_n 0, 1) := by decide +kernel
theorem d_Re_readProduct_38 : decode prog_6_method_13_code 38 = .ok (.iload_n 1, 1) := by decide +kernel
theorem d_Re_readProduct_39 : decode prog_6_method_13_code 39 = .ok (.invokevirtual 146, 3) := by decide +kernel
theorem d_Re_readProduct_42 : decode prog_6_method_13_code 42 = .ok (.aload_n 0, 1) := by decide +kernel
theorem d_Re_readProduct_43 : decode prog_6_method_13_code 43 = .ok (.iload_n 3, 1) := by decide +kernel
theorem d_Re_readProduct_44 : decode prog_6_method_13_code 44 = .ok (.iconst 0, 1) := by decide +kernel
theorem d_Re_readProduct_45 : decode prog_6_method_13_code 45 = .ok (.invokevirtual 142, 3) := by decide +kernel
theorem d_Re_readProduct_48 : decode prog_6_method_13_code 48 = .ok (.iinc 2 1, 3) := by decide +kernel
theorem d_Re_readProduct_51 : decode prog_6_method_13_code 51 = .ok (.goto (-44), 3) := by decide +kernel
theorem d_Re_readProduct_54 : decode prog_6_method_13_code 54 = .ok (.return_, 1) := by decide +kernel
theorem d_Re_readOne_0 : decode prog_6_method_15_code 0 = .ok (.aload_n 0, 1) := by decide +kernel
theorem d_Re_readOne_1 : decode prog_6_method_15_code 1 = .ok (.getfield 61, 3) := by decide +kernel
theorem d_Re_readOne_4 : decode prog_6_method_15_code 4 = .ok (.istore_n 2, 1) := by decide +kernel
theorem d_Re_readOne_5 : decode prog_6_method_15_code 5 = .ok (.aload_n 0, 1) := by decide +kernel
theorem d_Re_readOne_6 : decode prog_6_method_15_code 6 = .ok (.getfield 44, 3) := by decide +kernel
theorem d_Re_readOne_9 : decode prog_6_method_15_code 9 = .ok (.ifCond .eq 4, 3) := by decide +kernel
theorem d_Re_readOne_12 : decode prog_6_method_15_code 12 = .ok (.return_, 1) := by decide +kernel
theorem d_Re_readOne_13 : decode prog_6_method_15_code 13 = .ok (.iload_n 2, 1) := by decide +kernel
theorem d_Re_readOne_14 : decode prog_6_method_15_code 14 = .ok (.invokestatic 152, 3) := by decide +kernel
theorem d_Re_readOne_17 : decode prog_6_method_15_code 17 = .ok (.ifCond .ne 8, 3) := by decide +kernel
theorem d_Re_readOne_20 : decode prog_6_method_15_code 20 = .ok (.aload_n 0, 1) := by decide +kernel
theorem d_Re_readOne_21 : decode prog_6_method_15_code 21 = .ok (.invokevirtual 155, 3) := by decide +kernel
theorem d_Re_readOne_24 : decode prog_6_method_15_code 24 = .ok (.return_, 1) := by decide +kernel
theorem d_Re_readOne_25 : decode prog_6_method_15_code 25 = .ok (.iload_n 1, 1) := by decide +kernel
theorem d_Re_readOne_26 : decode prog_6_method_15_code 26 = .ok (.bipush 8, 2) := by decide +kernel
theorem d_Re_readOne_28 : decode prog_6_method_15_code 28 = .ok (.if_icmp .lt 9, 3) := by decide +kernel
theorem d_Re_readOne_31 : decode prog_6_method_15_code 31 = .ok (.aload_n 0, 1) := by decide +kernel
theorem d_Re_readOne_32 : decode prog_6_method_15_code 32 = .ok (.iconst 3, 1) := by decide +kernel
theorem d_Re_readOne_33 : decode prog_6_method_15_code 33 = .ok (.invokevirtual 108, 3) := by decide +kernel
theorem d_Re_readOne_36 : decode prog_6_method_15_code 36 = .ok (.return_, 1) := by decide +kernel
theorem d_Re_readOne_37 : decode prog_6_method_15_code 37 = .ok (.aload_n 0, 1) := by decide +kernel
theorem d_Re_readOne_38 : decode prog_6_method_15_code 38 = .ok (.invokevirtual 58, 3) := by decide +kernel
theorem d_Re_readOne_41 : decode prog_6_method_15_code 41 = .ok (.iload_n 2, 1) := by decide +kernel
theorem d_Re_readOne_42 : decode prog_6_method_15_code 42 = .ok (.bipush 36, 2) := by decide +kernel
theorem d_Re_readOne_44 : decode prog_6_method_15_code 44 = .ok (.if_icmp .ne 19, 3) := by decide +kernel
theorem d_Re_readOne_47 : decode prog_6_method_15_code 47 = .ok (.aload_n 0, 1) := by decide +kernel
theorem d_Re_readOne_48 : decode prog_6_method_15_code 48 = .ok (.iload_n 1, 1) := by decide +kernel
theorem d_Re_readOne_49 : decode prog_6_method_15_code 49 = .ok (.iconst 1, 1) := by decide +kernel
theorem d_Re_readOne_50 : decode prog_6_method_15_code 50 = .ok (.iadd, 1) := by decide +kernel
theorem d_Re_readOne_51 : decode prog_6_method_15_code 51 = .ok (.invokevirtual 129, 3) := by decide +kernel
theorem d_Re_readOne_54 : decode prog_6_method_15_code 54 = .ok (.aload_n 0, 1) := by decide +kernel
theorem d_Re_readOne_55 : decode prog_6_method_15_code 55 = .ok (.bipush 37, 2) := by decide +kernel
theorem d_Re_readOne_57 : decode prog_6_method_15_code 57 = .ok (.invokevirtual 126, 3) := by decide +kernel
theorem d_Re_readOne_60 : decode prog_6_method_15_code 60 = .ok (.goto 43, 3) := by decide +kernel
theorem d_Re_readOne_63 : decode prog_6_method_15_code 63 = .ok (.iload_n 2, 1) := by decide +kernel
theorem d_Re_readOne_64 : decode prog_6_method_15_code 64 = .ok (.bipush 12, 2) := by decide +kernel
theorem d_Re_readOne_66 : decode prog_6_method_15_code 66 = .ok (.if_icmp .ne 13, 3) := by decide +kernel
theorem d_Re_readOne_69 : decode prog_6_method_15_code 69 = .ok (.aload_n 0, 1) := by decide +kernel
theorem d_Re_readOne_70 : decode prog_6_method_15_code 70 = .ok (.iload_n 1, 1) := by decide +kernel
theorem d_Re_readOne_71 : decode prog_6_method_15_code 71 = .ok (.iconst 1, 1) := by decide +kernel
theorem d_Re_readOne_72 : decode prog_6_method_15_code 72 = .ok (.iadd, 1) := by decide +kernel
theorem d_Re_readOne_73 : decode prog_6_method_15_code 73 = .ok (.invokevirtual 158, 3) := by decide +kernel
theorem d_Re_readOne_76 : decode prog_6_method_15_code 76 = .ok (.goto 27, 3) := by decide +kernel
theorem d_Re_readOne_79 : decode prog_6_method_15_code 79 = .ok (.aload_n 0, 1) := by decide +kernel
theorem d_Re_readOne_80 : decode prog_6_method_15_code 80 = .ok (.iload_n 1, 1) := by decide +kernel
theorem d_Re_readOne_81 : decode prog_6_method_15_code 81 = .ok (.iconst 1, 1) := by decide +kernel
theorem d_Re_readOne_82 : decode prog_6_method_15_code 82 = .ok (.iadd, 1) := by decide +kernel
theorem d_Re_readOne_83 : decode prog_6_method_15_code 83 = .ok (.invokevirtual 146, 3) := by decide +kernel
theorem d_Re_readOne_86 : decode prog_6_method_15_code 86 = .ok (.aload_n 0, 1) := by decide +kernel
theorem d_Re_readOne_87 : decode prog_6_method_15_code 87 = .ok (.iload_n 2, 1) := by decide +kernel
theorem d_Re_readOne_88 : decode prog_6_method_15_code 88 = .ok (.bipush 33, 2) := by decide +kernel
theorem d_Re_readOne_90 : decode prog_6_method_15_code 90 = .ok (.if_icmp .ne 8, 3) := by decide +kernel
theorem d_Re_readOne_93 : decode prog_6_method_15_code 93 = .ok (.bipush 42, 2) := by decide +kernel
theorem d_Re_readOne_95 : decode prog_6_method_15_code 95 = .ok (.goto 4, 3) := by decide +kernel
theorem d_Re_readOne_98 : decode prog_6_method_15_code 98 = .ok (.iload_n 2, 1) := by decide +kernel
theorem d_Re_readOne_99 : decode prog_6_method_15_code 99 = .ok (.iconst 0, 1) := by decide +kernel
theorem d_Re_readOne_100 : decode prog_6_method_15_code 100 = .ok (.invokevirtual 142, 3) := by decide +kernel
theorem d_Re_readOne_103 : decode prog_6_method_15_code 103 = .ok (.return_, 1) := by decide +kernel
theorem d_Sg_opensOne_0 : decode prog_8_method_7_code 0 = .ok (.iload_n 0, 1) := by decide +kernel
theorem d_Sg_opensOne_1 : decode prog_8_method_7_code 1 = .ok (.bipush 36, 2) := by decide +kernel
theorem d_Sg_opensOne_3 : decode prog_8_method_7_code 3 = .ok (.if_icmp .eq 27, 3) := by decide +kernel
theorem d_Sg_opensOne_6 : decode prog_8_method_7_code 6 = .ok (.iload_n 0, 1) := by decide +kernel
theorem d_Sg_opensOne_7 : decode prog_8_method_7_code 7 = .ok (.bipush 33, 2) := by decide +kernel
theorem d_Sg_opensOne_9 : decode prog_8_method_7_code 9 = .ok (.if_icmp .eq 21, 3) := by decide +kernel
theorem d_Sg_opensOne_12 : decode prog_8_method_7_code 12 = .ok (.iload_n 0, 1) := by decide +kernel
theorem d_Sg_opensOne_13 : decode prog_8_method_7_code 13 = .ok (.bipush 10, 2) := by decide +kernel
theorem d_Sg_opensOne_15 : decode prog_8_method_7_code 15 = .ok (.if_icmp .eq 15, 3) := by decide +kernel
theorem d_Sg_opensOne_18 : decode prog_8_method_7_code 18 = .ok (.iload_n 0, 1) := by decide +kernel
theorem d_Sg_opensOne_19 : decode prog_8_method_7_code 19 = .ok (.bipush 11, 2) := by decide +kernel
theorem d_Sg_opensOne_21 : decode prog_8_method_7_code 21 = .ok (.if_icmp .eq 9, 3) := by decide +kernel
theorem d_Sg_opensOne_24 : decode prog_8_method_7_code 24 = .ok (.iload_n 0, 1) := by decide +kernel
theorem d_Sg_opensOne_25 : decode prog_8_method_7_code 25 = .ok (.bipush 12, 2) := by decide +kernel
theorem d_Sg_opensOne_27 : decode prog_8_method_7_code 27 = .ok (.if_icmp .ne 7, 3) := by decide +kernel
theorem d_Sg_opensOne_30 : decode prog_8_method_7_code 30 = .ok (.iconst 1, 1) := by decide +kernel
theorem d_Sg_opensOne_31 : decode prog_8_method_7_code 31 = .ok (.goto 4, 3) := by decide +kernel
theorem d_Sg_opensOne_34 : decode prog_8_method_7_code 34 = .ok (.iconst 0, 1) := by decide +kernel
theorem d_Sg_opensOne_35 : decode prog_8_method_7_code 35 = .ok (.ireturn, 1) := by decide +kernel
theorem d_Re_readPlain_0 : decode prog_6_method_16_code 0 = .ok (.aload_n 0, 1) := by decide +kernel
theorem d_Re_readPlain_1 : decode prog_6_method_16_code 1 = .ok (.getfield 61, 3) := by decide +kernel
theorem d_Re_readPlain_4 : decode prog_6_method_16_code 4 = .ok (.bipush 39, 2) := by decide +kernel
theorem d_Re_readPlain_6 : decode prog_6_method_16_code 6 = .ok (.if_icmp .eq 21, 3) := by decide +kernel
theorem d_Re_readPlain_9 : decode prog_6_method_16_code 9 = .ok (.aload_n 0, 1) := by decide +kernel
theorem d_Re_readPlain_10 : decode prog_6_method_16_code 10 = .ok (.getfield 61, 3) := by decide +kernel
theorem d_Re_readPlain_13 : decode prog_6_method_16_code 13 = .ok (.invokestatic 161, 3) := by decide +kernel
theorem d_Re_readPlain_16 : decode prog_6_method_16_code 16 = .ok (.ifCond .ne 11, 3) := by decide +kernel
theorem d_Re_readPlain_19 : decode prog_6_method_16_code 19 = .ok (.aload_n 0, 1) := by decide +kernel
theorem d_Re_readPlain_20 : decode prog_6_method_16_code 20 = .ok (.iconst 1, 1) := by decide +kernel
theorem d_Re_readPlain_21 : decode prog_6_method_16_code 21 = .ok (.invokevirtual 108, 3) := by decide +kernel
theorem d_Re_readPlain_24 : decode prog_6_method_16_code 24 = .ok (.goto 62, 3) := by decide +kernel
theorem d_Re_readPlain_27 : decode prog_6_method_16_code 27 = .ok (.aload_n 0, 1) := by decide +kernel
theorem d_Re_readPlain_28 : decode prog_6_method_16_code 28 = .ok (.getfield 102, 3) := by decide +kernel
theorem d_Re_readPlain_31 : decode prog_6_method_16_code 31 = .ok (.sipush 9999, 3) := by decide +kernel
theorem d_Re_readPlain_34 : decode prog_6_method_16_code 34 = .ok (.if_icmp .le 11, 3) := by decide +kernel
theorem d_Re_readPlain_37 : decode prog_6_method_16_code 37 = .ok (.aload_n 0, 1) := by decide +kernel
theorem d_Re_readPlain_38 : decode prog_6_method_16_code 38 = .ok (.iconst 2, 1) := by decide +kernel
theorem d_Re_readPlain_39 : decode prog_6_method_16_code 39 = .ok (.invokevirtual 108, 3) := by decide +kernel
theorem d_Re_readPlain_42 : decode prog_6_method_16_code 42 = .ok (.goto 44, 3) := by decide +kernel
theorem d_Re_readPlain_45 : decode prog_6_method_16_code 45 = .ok (.aload_n 0, 1) := by decide +kernel
theorem d_Re_readPlain_46 : decode prog_6_method_16_code 46 = .ok (.getfield 61, 3) := by decide +kernel
theorem d_Re_readPlain_49 : decode prog_6_method_16_code 49 = .ok (.bipush 25, 2) := by decide +kernel
theorem d_Re_readPlain_51 : decode prog_6_method_16_code 51 = .ok (.if_icmp .ne 19, 3) := by decide +kernel
theorem d_Re_readPlain_54 : decode prog_6_method_16_code 54 = .ok (.aload_n 0, 1) := by decide +kernel
theorem d_Re_readPlain_55 : decode prog_6_method_16_code 55 = .ok (.getfield 116, 3) := by decide +kernel
theorem d_Re_readPlain_58 : decode prog_6_method_16_code 58 = .ok (.iconst 1, 1) := by decide +kernel
theorem d_Re_readPlain_59 : decode prog_6_method_16_code 59 = .ok (.if_icmp .eq 11, 3) := by decide +kernel
theorem d_Re_readPlain_62 : decode prog_6_method_16_code 62 = .ok (.aload_n 0, 1) := by decide +kernel
theorem d_Re_readPlain_63 : decode prog_6_method_16_code 63 = .ok (.iconst 5, 1) := by decide +kernel
theorem d_Re_readPlain_64 : decode prog_6_method_16_code 64 = .ok (.invokevirtual 108, 3) := by decide +kernel
theorem d_Re_readPlain_67 : decode prog_6_method_16_code 67 = .ok (.goto 19, 3) := by decide +kernel
theorem d_Re_readPlain_70 : decode prog_6_method_16_code 70 = .ok (.aload_n 0, 1) := by decide +kernel
theorem d_Re_readPlain_71 : decode prog_6_method_16_code 71 = .ok (.aload_n 0, 1) := by decide +kernel
theorem d_Re_readPlain_72 : decode prog_6_method_16_code 72 = .ok (.getfield 61, 3) := by decide +kernel
theorem d_Re_readPlain_75 : decode prog_6_method_16_code 75 = .ok (.aload_n 0, 1) := by decide +kernel
theorem d_Re_readPlain_76 : decode prog_6_method_16_code 76 = .ok (.getfield 102, 3) := by decide +kernel
theorem d_Re_readPlain_79 : decode prog_6_method_16_code 79 = .ok (.invokevirtual 142, 3) := by decide +kernel
theorem d_Re_readPlain_82 : decode prog_6_method_16_code 82 = .ok (.aload_n 0, 1) := by decide +kernel
theorem d_Re_readPlain_83 : decode prog_6_method_16_code 83 = .ok (.invokevirtual 58, 3) := by decide +kernel
theorem d_Re_readPlain_86 : decode prog_6_method_16_code 86 = .ok (.return_, 1) := by decide +kernel
theorem d_Sg_isName_0 : decode prog_8_method_5_code 0 = .ok (.iload_n 0, 1) := by decide +kernel
theorem d_Sg_isName_1 : decode prog_8_method_5_code 1 = .ok (.bipush 19, 2) := by decide +kernel
theorem d_Sg_isName_3 : decode prog_8_method_5_code 3 = .ok (.if_icmp .lt 9, 3) := by decide +kernel
theorem d_Sg_isName_6 : decode prog_8_method_5_code 6 = .ok (.iload_n 0, 1) := by decide +kernel
theorem d_Sg_isName_7 : decode prog_8_method_5_code 7 = .ok (.bipush 25, 2) := by decide +kernel
theorem d_Sg_isName_9 : decode prog_8_method_5_code 9 = .ok (.if_icmp .le 8, 3) := by decide +kernel
theorem d_Sg_isName_12 : decode prog_8_method_5_code 12 = .ok (.iload_n 0, 1) := by decide +kernel
theorem d_Sg_isName_13 : decode prog_8_method_5_code 13 = .ok (.iconst 3, 1) := by decide +kernel
theorem d_Sg_isName_14 : decode prog_8_method_5_code 14 = .ok (.if_icmp .ne 7, 3) := by decide +kernel
theorem d_Sg_isName_17 : decode prog_8_method_5_code 17 = .ok (.iconst 1, 1) := by decide +kernel
theorem d_Sg_isName_18 : decode prog_8_method_5_code 18 = .ok (.goto 4, 3) := by decide +kernel
theorem d_Sg_isName_21 : decode prog_8_method_5_code 21 = .ok (.iconst 0, 1) := by decide +kernel
theorem d_Sg_isName_22 : decode prog_8_method_5_code 22 = .ok (.ireturn, 1) := by decide +kernel
theorem d_Re_write_0 : decode prog_6_method_10_code 0 = .ok (.aload_n 0, 1) := by decide +kernel
theorem d_Re_write_1 : decode prog_6_method_10_code 1 = .ok (.getfield 21, 3) := by decide +kernel
theorem d_Re_write_4 : decode prog_6_method_10_code 4 = .ok (.aload_n 0, 1) := by decide +kernel
theorem d_Re_write_5 : decode prog_6_method_10_code 5 = .ok (.getfield 35, 3) := by decide +kernel
theorem d_Re_write_8 : decode prog_6_method_10_code 8 = .ok (.iload_n 1, 1) := by decide +kernel
theorem d_Re_write_9 : decode prog_6_method_10_code 9 = .ok (.invokestatic 119, 3) := by decide +kernel
theorem d_Re_write_12 : decode prog_6_method_10_code 12 = .ok (.aload_n 0, 1) := by decide +kernel
theorem d_Re_write_13 : decode prog_6_method_10_code 13 = .ok (.getfield 24, 3) := by decide +kernel
theorem d_Re_write_16 : decode prog_6_method_10_code 16 = .ok (.aload_n 0, 1) := by decide +kernel
theorem d_Re_write_17 : decode prog_6_method_10_code 17 = .ok (.getfield 35, 3) := by decide +kernel
theorem d_Re_write_20 : decode prog_6_method_10_code 20 = .ok (.iload_n 2, 1) := by decide +kernel
theorem d_Re_write_21 : decode prog_6_method_10_code 21 = .ok (.invokestatic 119, 3) := by decide +kernel
theorem d_Re_write_24 : decode prog_6_method_10_code 24 = .ok (.aload_n 0, 1) := by decide +kernel
theorem d_Re_write_25 : decode prog_6_method_10_code 25 = .ok (.dup, 1) := by decide +kernel
theorem d_Re_write_26 : decode prog_6_method_10_code 26 = .ok (.getfield 35, 3) := by decide +kernel
theorem d_Re_write_29 : decode prog_6_method_10_code 29 = .ok (.iconst 1, 1) := by decide +kernel
theorem d_Re_write_30 : decode prog_6_method_10_code 30 = .ok (.iadd, 1) := by decide +kernel
theorem d_Re_write_31 : decode prog_6_method_10_code 31 = .ok (.putfield 35, 3) := by decide +kernel
theorem d_Re_write_34 : decode prog_6_method_10_code 34 = .ok (.return_, 1) := by decide +kernel
theorem d_Re_take_0 : decode prog_6_method_6_code 0 = .ok (.aload_n 0, 1) := by decide +kernel
theorem d_Re_take_1 : decode prog_6_method_6_code 1 = .ok (.getfield 44, 3) := by decide +kernel
theorem d_Re_take_4 : decode prog_6_method_6_code 4 = .ok (.ifCond .ne 18, 3) := by decide +kernel
theorem d_Re_take_7 : decode prog_6_method_6_code 7 = .ok (.aload_n 0, 1) := by decide +kernel
theorem d_Re_take_8 : decode prog_6_method_6_code 8 = .ok (.getfield 61, 3) := by decide +kernel
theorem d_Re_take_11 : decode prog_6_method_6_code 11 = .ok (.iload_n 1, 1) := by decide +kernel
theorem d_Re_take_12 : decode prog_6_method_6_code 12 = .ok (.if_icmp .ne 10, 3) := by decide +kernel
theorem d_Re_take_15 : decode prog_6_method_6_code 15 = .ok (.aload_n 0, 1) := by decide +kernel
theorem d_Re_take_16 : decode prog_6_method_6_code 16 = .ok (.invokevirtual 58, 3) := by decide +kernel
theorem d_Re_take_19 : decode prog_6_method_6_code 19 = .ok (.goto 8, 3) := by decide +kernel
theorem d_Re_take_22 : decode prog_6_method_6_code 22 = .ok (.aload_n 0, 1) := by decide +kernel
theorem d_Re_take_23 : decode prog_6_method_6_code 23 = .ok (.iconst 1, 1) := by decide +kernel
theorem d_Re_take_24 : decode prog_6_method_6_code 24 = .ok (.invokevirtual 108, 3) := by decide +kernel
theorem d_Re_take_27 : decode prog_6_method_6_code 27 = .ok (.return_, 1) := by decide +kernel
theorem d_Re_readIf_0 : decode prog_6_method_17_code 0 = .ok (.aload_n 0, 1) := by decide +kernel
theorem d_Re_readIf_1 : decode prog_6_method_17_code 1 = .ok (.iload_n 1, 1) := by decide +kernel
theorem d_Re_readIf_2 : decode prog_6_method_17_code 2 = .ok (.invokevirtual 164, 3) := by decide +kernel
theorem d_Re_readIf_5 : decode prog_6_method_17_code 5 = .ok (.aload_n 0, 1) := by decide +kernel
theorem d_Re_readIf_6 : decode prog_6_method_17_code 6 = .ok (.bipush 13, 2) := by decide +kernel
theorem d_Re_readIf_8 : decode prog_6_method_17_code 8 = .ok (.invokevirtual 126, 3) := by decide +kernel
theorem d_Re_readIf_11 : decode prog_6_method_17_code 11 = .ok (.aload_n 0, 1) := by decide +kernel
theorem d_Re_readIf_12 : decode prog_6_method_17_code 12 = .ok (.getfield 35, 3) := by decide +kernel
theorem d_Re_readIf_15 : decode prog_6_method_17_code 15 = .ok (.istore_n 2, 1) := by decide +kernel
theorem d_Re_readIf_16 : decode prog_6_method_17_code 16 = .ok (.aload_n 0, 1) := by decide +kernel
theorem d_Re_readIf_17 : decode prog_6_method_17_code 17 = .ok (.bipush 44, 2) := by decide +kernel
theorem d_Re_readIf_19 : decode prog_6_method_17_code 19 = .ok (.iconst 0, 1) := by decide +kernel
theorem d_Re_readIf_20 : decode prog_6_method_17_code 20 = .ok (.invokevirtual 142, 3) := by decide +kernel
theorem d_Re_readIf_23 : decode prog_6_method_17_code 23 = .ok (.aload_n 0, 1) := by decide +kernel
theorem d_Re_readIf_24 : decode prog_6_method_17_code 24 = .ok (.iload_n 1, 1) := by decide +kernel
theorem d_Re_readIf_25 : decode prog_6_method_17_code 25 = .ok (.invokevirtual 129, 3) := by decide +kernel
theorem d_Re_readIf_28 : decode prog_6_method_17_code 28 = .ok (.aload_n 0, 1) := by decide +kernel
theorem d_Re_readIf_29 : decode prog_6_method_17_code 29 = .ok (.bipush 14, 2) := by decide +kernel
theorem d_Re_readIf_31 : decode prog_6_method_17_code 31 = .ok (.invokevirtual 126, 3) := by decide +kernel
theorem d_Re_readIf_34 : decode prog_6_method_17_code 34 = .ok (.aload_n 0, 1) := by decide +kernel
theorem d_Re_readIf_35 : decode prog_6_method_17_code 35 = .ok (.getfield 35, 3) := by decide +kernel
theorem d_Re_readIf_38 : decode prog_6_method_17_code 38 = .ok (.istore_n 3, 1) := by decide +kernel
theorem d_Re_readIf_39 : decode prog_6_method_17_code 39 = .ok (.aload_n 0, 1) := by decide +kernel
theorem d_Re_readIf_40 : decode prog_6_method_17_code 40 = .ok (.bipush 43, 2) := by decide +kernel
theorem d_Re_readIf_42 : decode prog_6_method_17_code 42 = .ok (.iconst 0, 1) := by decide +kernel
theorem d_Re_readIf_43 : decode prog_6_method_17_code 43 = .ok (.invokevirtual 142, 3) := by decide +kernel
theorem d_Re_readIf_46 : decode prog_6_method_17_code 46 = .ok (.aload_n 0, 1) := by decide +kernel
theorem d_Re_readIf_47 : decode prog_6_method_17_code 47 = .ok (.getfield 24, 3) := by decide +kernel
theorem d_Re_readIf_50 : decode prog_6_method_17_code 50 = .ok (.iload_n 2, 1) := by decide +kernel
theorem d_Re_readIf_51 : decode prog_6_method_17_code 51 = .ok (.aload_n 0, 1) := by decide +kernel
theorem d_Re_readIf_52 : decode prog_6_method_17_code 52 = .ok (.getfield 35, 3) := by decide +kernel
theorem d_Re_readIf_55 : decode prog_6_method_17_code 55 = .ok (.invokestatic 119, 3) := by decide +kernel
theorem d_Re_readIf_58 : decode prog_6_method_17_code 58 = .ok (.aload_n 0, 1) := by decide +kernel
theorem d_Re_readIf_59 : decode prog_6_method_17_code 59 = .ok (.iload_n 1, 1) := by decide +kernel
theorem d_Re_readIf_60 : decode prog_6_method_17_code 60 = .ok (.invokevirtual 129, 3) := by decide +kernel
theorem d_Re_readIf_63 : decode prog_6_method_17_code 63 = .ok (.aload_n 0, 1) := by decide +kernel
theorem d_Re_readIf_64 : decode prog_6_method_17_code 64 = .ok (.getfield 24, 3) := by decide +kernel
theorem d_Re_readIf_67 : decode prog_6_method_17_code 67 = .ok (.iload_n 3, 1) := by decide +kernel
theorem d_Re_readIf_68 : decode prog_6_method_17_code 68 = .ok (.aload_n 0, 1) := by decide +kernel
theorem d_Re_readIf_69 : decode prog_6_method_17_code 69 = .ok (.getfield 35, 3) := by decide +kernel
theorem d_Re_readIf_72 : decode prog_6_method_17_code 72 = .ok (.invokestatic 119, 3) := by decide +kernel
theorem d_Re_readIf_75 : decode prog_6_method_17_code 75 = .ok (.aload_n 0, 1) := by decide +kernel
theorem d_Re_readIf_76 : decode prog_6_method_17_code 76 = .ok (.bipush 15, 2) := by decide +kernel
theorem d_Re_readIf_78 : decode prog_6_method_17_code 78 = .ok (.invokevirtual 126, 3) := by decide +kernel
theorem d_Re_readIf_81 : decode prog_6_method_17_code 81 = .ok (.return_, 1) := by decide +kernel
theorem d_Re_readEither_0 : decode prog_6_method_18_code 0 = .ok (.aload_n 0, 1) := by decide +kernel
theorem d_Re_readEither_1 : decode prog_6_method_18_code 1 = .ok (.iload_n 1, 1) := by decide +kernel
theorem d_Re_readEither_2 : decode prog_6_method_18_code 2 = .ok (.invokevirtual 167, 3) := by decide +kernel
theorem d_Re_readEither_5 : decode prog_6_method_18_code 5 = .ok (.iconst 0, 1) := by decide +kernel
theorem d_Re_readEither_6 : decode prog_6_method_18_code 6 = .ok (.istore_n 2, 1) := by decide +kernel
theorem d_Re_readEither_7 : decode prog_6_method_18_code 7 = .ok (.iload_n 2, 1) := by decide +kernel
theorem d_Re_readEither_8 : decode prog_6_method_18_code 8 = .ok (.sipush 300, 3) := by decide +kernel
theorem d_Re_readEither_11 : decode prog_6_method_18_code 11 = .ok (.if_icmp .ge 41, 3) := by decide +kernel
theorem d_Re_readEither_14 : decode prog_6_method_18_code 14 = .ok (.aload_n 0, 1) := by decide +kernel
theorem d_Re_readEither_15 : decode prog_6_method_18_code 15 = .ok (.getfield 44, 3) := by decide +kernel
theorem d_Re_readEither_18 : decode prog_6_method_18_code 18 = .ok (.ifCond .ne 34, 3) := by decide +kernel
theorem d_Re_readEither_21 : decode prog_6_method_18_code 21 = .ok (.aload_n 0, 1) := by decide +kernel
theorem d_Re_readEither_22 : decode prog_6_method_18_code 22 = .ok (.getfield 61, 3) := by decide +kernel
theorem d_Re_readEither_25 : decode prog_6_method_18_code 25 = .ok (.bipush 16, 2) := by decide +kernel
theorem d_Re_readEither_27 : decode prog_6_method_18_code 27 = .ok (.if_icmp .ne 25, 3) := by decide +kernel
theorem d_Re_readEither_30 : decode prog_6_method_18_code 30 = .ok (.aload_n 0, 1) := by decide +kernel
theorem d_Re_readEither_31 : decode prog_6_method_18_code 31 = .ok (.invokevirtual 58, 3) := by decide +kernel
theorem d_Re_readEither_34 : decode prog_6_method_18_code 34 = .ok (.aload_n 0, 1) := by decide +kernel
theorem d_Re_readEither_35 : decode prog_6_method_18_code 35 = .ok (.iload_n 1, 1) := by decide +kernel
theorem d_Re_readEither_36 : decode prog_6_method_18_code 36 = .ok (.invokevirtual 167, 3) := by decide +kernel
theorem d_Re_readEither_39 : decode prog_6_method_18_code 39 = .ok (.aload_n 0, 1) := by decide +kernel
theorem d_Re_readEither_40 : decode prog_6_method_18_code 40 = .ok (.bipush 16, 2) := by decide +kernel
theorem d_Re_readEither_42 : decode prog_6_method_18_code 42 = .ok (.iconst 0, 1) := by decide +kernel
theorem d_Re_readEither_43 : decode prog_6_method_18_code 43 = .ok (.invokevirtual 142, 3) := by decide +kernel
theorem d_Re_readEither_46 : decode prog_6_method_18_code 46 = .ok (.iinc 2 1, 3) := by decide +kernel
theorem d_Re_readEither_49 : decode prog_6_method_18_code 49 = .ok (.goto (-42), 3) := by decide +kernel
theorem d_Re_readEither_52 : decode prog_6_method_18_code 52 = .ok (.return_, 1) := by decide +kernel
theorem d_Re_readBoth_0 : decode prog_6_method_19_code 0 = .ok (.aload_n 0, 1) := by decide +kernel
theorem d_Re_readBoth_1 : decode prog_6_method_19_code 1 = .ok (.iload_n 1, 1) := by decide +kernel
theorem d_Re_readBoth_2 : decode prog_6_method_19_code 2 = .ok (.invokevirtual 170, 3) := by decide +kernel
theorem d_Re_readBoth_5 : decode prog_6_method_19_code 5 = .ok (.iconst 0, 1) := by decide +kernel
theorem d_Re_readBoth_6 : decode prog_6_method_19_code 6 = .ok (.istore_n 2, 1) := by decide +kernel
theorem d_Re_readBoth_7 : decode prog_6_method_19_code 7 = .ok (.iload_n 2, 1) := by decide +kernel
theorem d_Re_readBoth_8 : decode prog_6_method_19_code 8 = .ok (.sipush 300, 3) := by decide +kernel
theorem d_Re_readBoth_11 : decode prog_6_method_19_code 11 = .ok (.if_icmp .ge 41, 3) := by decide +kernel
theorem d_Re_readBoth_14 : decode prog_6_method_19_code 14 = .ok (.aload_n 0, 1) := by decide +kernel
theorem d_Re_readBoth_15 : decode prog_6_method_19_code 15 = .ok (.getfield 44, 3) := by decide +kernel
theorem d_Re_readBoth_18 : decode prog_6_method_19_code 18 = .ok (.ifCond .ne 34, 3) := by decide +kernel
theorem d_Re_readBoth_21 : decode prog_6_method_19_code 21 = .ok (.aload_n 0, 1) := by decide +kernel
theorem d_Re_readBoth_22 : decode prog_6_method_19_code 22 = .ok (.getfield 61, 3) := by decide +kernel
theorem d_Re_readBoth_25 : decode prog_6_method_19_code 25 = .ok (.bipush 17, 2) := by decide +kernel
theorem d_Re_readBoth_27 : decode prog_6_method_19_code 27 = .ok (.if_icmp .ne 25, 3) := by decide +kernel
theorem d_Re_readBoth_30 : decode prog_6_method_19_code 30 = .ok (.aload_n 0, 1) := by decide +kernel
theorem d_Re_readBoth_31 : decode prog_6_method_19_code 31 = .ok (.invokevirtual 58, 3) := by decide +kernel
theorem d_Re_readBoth_34 : decode prog_6_method_19_code 34 = .ok (.aload_n 0, 1) := by decide +kernel
theorem d_Re_readBoth_35 : decode prog_6_method_19_code 35 = .ok (.iload_n 1, 1) := by decide +kernel
theorem d_Re_readBoth_36 : decode prog_6_method_19_code 36 = .ok (.invokevirtual 170, 3) := by decide +kernel
theorem d_Re_readBoth_39 : decode prog_6_method_19_code 39 = .ok (.aload_n 0, 1) := by decide +kernel
theorem d_Re_readBoth_40 : decode prog_6_method_19_code 40 = .ok (.bipush 17, 2) := by decide +kernel
theorem d_Re_readBoth_42 : decode prog_6_method_19_code 42 = .ok (.iconst 0, 1) := by decide +kernel
theorem d_Re_readBoth_43 : decode prog_6_method_19_code 43 = .ok (.invokevirtual 142, 3) := by decide +kernel
theorem d_Re_readBoth_46 : decode prog_6_method_19_code 46 = .ok (.iinc 2 1, 3) := by decide +kernel
theorem d_Re_readBoth_49 : decode prog_6_method_19_code 49 = .ok (.goto (-42), 3) := by decide +kernel
theorem d_Re_readBoth_52 : decode prog_6_method_19_code 52 = .ok (.return_, 1) := by decide +kernel
theorem d_Re_readAsk_0 : decode prog_6_method_20_code 0 = .ok (.aload_n 0, 1) := by decide +kernel
theorem d_Re_readAsk_1 : decode prog_6_method_20_code 1 = .ok (.getfield 61, 3) := by decide +kernel
theorem d_Re_readAsk_4 : decode prog_6_method_20_code 4 = .ok (.bipush 18, 2) := by decide +kernel
theorem d_Re_readAsk_6 : decode prog_6_method_20_code 6 = .ok (.if_icmp .eq 11, 3) := by decide +kernel
theorem d_Re_readAsk_9 : decode prog_6_method_20_code 9 = .ok (.aload_n 0, 1) := by decide +kernel
theorem d_Re_readAsk_10 : decode prog_6_method_20_code 10 = .ok (.iload_n 1, 1) := by decide +kernel
theorem d_Re_readAsk_11 : decode prog_6_method_20_code 11 = .ok (.invokevirtual 173, 3) := by decide +kernel
theorem d_Re_readAsk_14 : decode prog_6_method_20_code 14 = .ok (.goto 42, 3) := by decide +kernel
theorem d_Re_readAsk_17 : decode prog_6_method_20_code 17 = .ok (.iload_n 1, 1) := by decide +kernel
theorem d_Re_readAsk_18 : decode prog_6_method_20_code 18 = .ok (.bipush 8, 2) := by decide +kernel
theorem d_Re_readAsk_20 : decode prog_6_method_20_code 20 = .ok (.if_icmp .lt 11, 3) := by decide +kernel
theorem d_Re_readAsk_23 : decode prog_6_method_20_code 23 = .ok (.aload_n 0, 1) := by decide +kernel
theorem d_Re_readAsk_24 : decode prog_6_method_20_code 24 = .ok (.iconst 3, 1) := by decide +kernel
theorem d_Re_readAsk_25 : decode prog_6_method_20_code 25 = .ok (.invokevirtual 108, 3) := by decide +kernel
theorem d_Re_readAsk_28 : decode prog_6_method_20_code 28 = .ok (.goto 28, 3) := by decide +kernel
theorem d_Re_readAsk_31 : decode prog_6_method_20_code 31 = .ok (.aload_n 0, 1) := by decide +kernel
theorem d_Re_readAsk_32 : decode prog_6_method_20_code 32 = .ok (.getfield 44, 3) := by decide +kernel
theorem d_Re_readAsk_35 : decode prog_6_method_20_code 35 = .ok (.ifCond .ne 21, 3) := by decide +kernel
theorem d_Re_readAsk_38 : decode prog_6_method_20_code 38 = .ok (.aload_n 0, 1) := by decide +kernel
theorem d_Re_readAsk_39 : decode prog_6_method_20_code 39 = .ok (.invokevirtual 58, 3) := by decide +kernel
theorem d_Re_readAsk_42 : decode prog_6_method_20_code 42 = .ok (.aload_n 0, 1) := by decide +kernel
theorem d_Re_readAsk_43 : decode prog_6_method_20_code 43 = .ok (.iload_n 1, 1) := by decide +kernel
theorem d_Re_readAsk_44 : decode prog_6_method_20_code 44 = .ok (.iconst 1, 1) := by decide +kernel
theorem d_Re_readAsk_45 : decode prog_6_method_20_code 45 = .ok (.iadd, 1) := by decide +kernel
theorem d_Re_readAsk_46 : decode prog_6_method_20_code 46 = .ok (.invokevirtual 170, 3) := by decide +kernel
theorem d_Re_readAsk_49 : decode prog_6_method_20_code 49 = .ok (.aload_n 0, 1) := by decide +kernel
theorem d_Re_readAsk_50 : decode prog_6_method_20_code 50 = .ok (.bipush 18, 2) := by decide +kernel
theorem d_Re_readAsk_52 : decode prog_6_method_20_code 52 = .ok (.iconst 0, 1) := by decide +kernel
theorem d_Re_readAsk_53 : decode prog_6_method_20_code 53 = .ok (.invokevirtual 142, 3) := by decide +kernel
theorem d_Re_readAsk_56 : decode prog_6_method_20_code 56 = .ok (.return_, 1) := by decide +kernel
theorem d_Re_readComparison_0 : decode prog_6_method_21_code 0 = .ok (.aload_n 0, 1) := by decide +kernel
theorem d_Re_readComparison_1 : decode prog_6_method_21_code 1 = .ok (.iload_n 1, 1) := by decide +kernel
theorem d_Re_readComparison_2 : decode prog_6_method_21_code 2 = .ok (.invokevirtual 129, 3) := by decide +kernel
theorem d_Re_readComparison_5 : decode prog_6_method_21_code 5 = .ok (.aload_n 0, 1) := by decide +kernel
theorem d_Re_readComparison_6 : decode prog_6_method_21_code 6 = .ok (.getfield 61, 3) := by decide +kernel
theorem d_Re_readComparison_9 : decode prog_6_method_21_code 9 = .ok (.istore_n 2, 1) := by decide +kernel
theorem d_Re_readComparison_10 : decode prog_6_method_21_code 10 = .ok (.aload_n 0, 1) := by decide +kernel
theorem d_Re_readComparison_11 : decode prog_6_method_21_code 11 = .ok (.getfield 44, 3) := by decide +kernel
theorem d_Re_readComparison_14 : decode prog_6_method_21_code 14 = .ok (.ifCond .ne 10, 3) := by decide +kernel
theorem d_Re_readComparison_17 : decode prog_6_method_21_code 17 = .ok (.iload_n 2, 1) := by decide +kernel
theorem d_Re_readComparison_18 : decode prog_6_method_21_code 18 = .ok (.invokestatic 176, 3) := by decide +kernel
theorem d_Re_readComparison_21 : decode prog_6_method_21_code 21 = .ok (.ifCond .ne 9, 3) := by decide +kernel
theorem d_Re_readComparison_24 : decode prog_6_method_21_code 24 = .ok (.aload_n 0, 1) := by decide +kernel
theorem d_Re_readComparison_25 : decode prog_6_method_21_code 25 = .ok (.iconst 1, 1) := by decide +kernel
theorem d_Re_readComparison_26 : decode prog_6_method_21_code 26 = .ok (.invokevirtual 108, 3) := by decide +kernel
theorem d_Re_readComparison_29 : decode prog_6_method_21_code 29 = .ok (.return_, 1) := by decide +kernel
theorem d_Re_readComparison_30 : decode prog_6_method_21_code 30 = .ok (.aload_n 0, 1) := by decide +kernel
theorem d_Re_readComparison_31 : decode prog_6_method_21_code 31 = .ok (.invokevirtual 58, 3) := by decide +kernel
theorem d_Re_readComparison_34 : decode prog_6_method_21_code 34 = .ok (.aload_n 0, 1) := by decide +kernel
theorem d_Re_readComparison_35 : decode prog_6_method_21_code 35 = .ok (.iload_n 1, 1) := by decide +kernel
theorem d_Re_readComparison_36 : decode prog_6_method_21_code 36 = .ok (.invokevirtual 129, 3) := by decide +kernel
theorem d_Re_readComparison_39 : decode prog_6_method_21_code 39 = .ok (.aload_n 0, 1) := by decide +kernel
theorem d_Re_readComparison_40 : decode prog_6_method_21_code 40 = .ok (.iload_n 2, 1) := by decide +kernel
theorem d_Re_readComparison_41 : decode prog_6_method_21_code 41 = .ok (.iconst 0, 1) := by decide +kernel
theorem d_Re_readComparison_42 : decode prog_6_method_21_code 42 = .ok (.invokevirtual 142, 3) := by decide +kernel
theorem d_Re_readComparison_45 : decode prog_6_method_21_code 45 = .ok (.return_, 1) := by decide +kernel
theorem d_Sg_isComparing_0 : decode prog_8_method_2_code 0 = .ok (.iload_n 0, 1) := by decide +kernel
theorem d_Sg_isComparing_1 : decode prog_8_method_2_code 1 = .ok (.bipush 26, 2) := by decide +kernel
theorem d_Sg_isComparing_3 : decode prog_8_method_2_code 3 = .ok (.if_icmp .lt 13, 3) := by decide +kernel
theorem d_Sg_isComparing_6 : decode prog_8_method_2_code 6 = .ok (.iload_n 0, 1) := by decide +kernel
theorem d_Sg_isComparing_7 : decode prog_8_method_2_code 7 = .ok (.bipush 31, 2) := by decide +kernel
theorem d_Sg_isComparing_9 : decode prog_8_method_2_code 9 = .ok (.if_icmp .gt 7, 3) := by decide +kernel
theorem d_Sg_isComparing_12 : decode prog_8_method_2_code 12 = .ok (.iconst 1, 1) := by decide +kernel
theorem d_Sg_isComparing_13 : decode prog_8_method_2_code 13 = .ok (.goto 4, 3) := by decide +kernel
theorem d_Sg_isComparing_16 : decode prog_8_method_2_code 16 = .ok (.iconst 0, 1) := by decide +kernel
theorem d_Sg_isComparing_17 : decode prog_8_method_2_code 17 = .ok (.ireturn, 1) := by decide +kernel
theorem d_Re_isMultiplying_0 : decode prog_6_method_14_code 0 = .ok (.aload_n 0, 1) := by decide +kernel
theorem d_Re_isMultiplying_1 : decode prog_6_method_14_code 1 = .ok (.getfield 61, 3) := by decide +kernel
theorem d_Re_isMultiplying_4 : decode prog_6_method_14_code 4 = .ok (.bipush 34, 2) := by decide +kernel
theorem d_Re_isMultiplying_6 : decode prog_6_method_14_code 6 = .ok (.if_icmp .eq 12, 3) := by decide +kernel
theorem d_Re_isMultiplying_9 : decode prog_6_method_14_code 9 = .ok (.aload_n 0, 1) := by decide +kernel
theorem d_Re_isMultiplying_10 : decode prog_6_method_14_code 10 = .ok (.getfield 61, 3) := by decide +kernel
theorem d_Re_isMultiplying_13 : decode prog_6_method_14_code 13 = .ok (.bipush 35, 2) := by decide +kernel
theorem d_Re_isMultiplying_15 : decode prog_6_method_14_code 15 = .ok (.if_icmp .ne 7, 3) := by decide +kernel
theorem d_Re_isMultiplying_18 : decode prog_6_method_14_code 18 = .ok (.iconst 1, 1) := by decide +kernel
theorem d_Re_isMultiplying_19 : decode prog_6_method_14_code 19 = .ok (.goto 4, 3) := by decide +kernel
theorem d_Re_isMultiplying_22 : decode prog_6_method_14_code 22 = .ok (.iconst 0, 1) := by decide +kernel
theorem d_Re_isMultiplying_23 : decode prog_6_method_14_code 23 = .ok (.ireturn, 1) := by decide +kernel
theorem d_Re_isAdding_0 : decode prog_6_method_12_code 0 = .ok (.aload_n 0, 1) := by decide +kernel
theorem d_Re_isAdding_1 : decode prog_6_method_12_code 1 = .ok (.getfield 61, 3) := by decide +kernel
theorem d_Re_isAdding_4 : decode prog_6_method_12_code 4 = .ok (.bipush 32, 2) := by decide +kernel
theorem d_Re_isAdding_6 : decode prog_6_method_12_code 6 = .ok (.if_icmp .eq 12, 3) := by decide +kernel
theorem d_Re_isAdding_9 : decode prog_6_method_12_code 9 = .ok (.aload_n 0, 1) := by decide +kernel
theorem d_Re_isAdding_10 : decode prog_6_method_12_code 10 = .ok (.getfield 61, 3) := by decide +kernel
theorem d_Re_isAdding_13 : decode prog_6_method_12_code 13 = .ok (.bipush 33, 2) := by decide +kernel
theorem d_Re_isAdding_15 : decode prog_6_method_12_code 15 = .ok (.if_icmp .ne 7, 3) := by decide +kernel
theorem d_Re_isAdding_18 : decode prog_6_method_12_code 18 = .ok (.iconst 1, 1) := by decide +kernel
theorem d_Re_isAdding_19 : decode prog_6_method_12_code 19 = .ok (.goto 4, 3) := by decide +kernel
theorem d_Re_isAdding_22 : decode prog_6_method_12_code 22 = .ok (.iconst 0, 1) := by decide +kernel
theorem d_Re_isAdding_23 : decode prog_6_method_12_code 23 = .ok (.ireturn, 1) := by decide +kernel
theorem d_Re_readNumber_0 : decode prog_6_method_9_code 0 = .ok (.aload_n 0, 1) := by decide +kernel
theorem d_Re_readNumber_1 : decode prog_6_method_9_code 1 = .ok (.getfield 44, 3) := by decide +kernel
theorem d_Re_readNumber_4 : decode prog_6_method_9_code 4 = .ok (.ifCond .eq 4, 3) := by decide +kernel
theorem d_Re_readNumber_7 : decode prog_6_method_9_code 7 = .ok (.return_, 1) := by decide +kernel
theorem d_Re_readNumber_8 : decode prog_6_method_9_code 8 = .ok (.aload_n 0, 1) := by decide +kernel
theorem d_Re_readNumber_9 : decode prog_6_method_9_code 9 = .ok (.getfield 61, 3) := by decide +kernel
theorem d_Re_readNumber_12 : decode prog_6_method_9_code 12 = .ok (.bipush 39, 2) := by decide +kernel
theorem d_Re_readNumber_14 : decode prog_6_method_9_code 14 = .ok (.if_icmp .eq 11, 3) := by decide +kernel
theorem d_Re_readNumber_17 : decode prog_6_method_9_code 17 = .ok (.aload_n 0, 1) := by decide +kernel
theorem d_Re_readNumber_18 : decode prog_6_method_9_code 18 = .ok (.iconst 1, 1) := by decide +kernel
theorem d_Re_readNumber_19 : decode prog_6_method_9_code 19 = .ok (.invokevirtual 108, 3) := by decide +kernel
theorem d_Re_readNumber_22 : decode prog_6_method_9_code 22 = .ok (.goto 43, 3) := by decide +kernel
theorem d_Re_readNumber_25 : decode prog_6_method_9_code 25 = .ok (.aload_n 0, 1) := by decide +kernel
theorem d_Re_readNumber_26 : decode prog_6_method_9_code 26 = .ok (.getfield 102, 3) := by decide +kernel
theorem d_Re_readNumber_29 : decode prog_6_method_9_code 29 = .ok (.iload_n 2, 1) := by decide +kernel
theorem d_Re_readNumber_30 : decode prog_6_method_9_code 30 = .ok (.if_icmp .lt 11, 3) := by decide +kernel
theorem d_Re_readNumber_33 : decode prog_6_method_9_code 33 = .ok (.aload_n 0, 1) := by decide +kernel
theorem d_Re_readNumber_34 : decode prog_6_method_9_code 34 = .ok (.getfield 102, 3) := by decide +kernel
theorem d_Re_readNumber_37 : decode prog_6_method_9_code 37 = .ok (.iload_n 3, 1) := by decide +kernel
theorem d_Re_readNumber_38 : decode prog_6_method_9_code 38 = .ok (.if_icmp .le 11, 3) := by decide +kernel
theorem d_Re_readNumber_41 : decode prog_6_method_9_code 41 = .ok (.aload_n 0, 1) := by decide +kernel
theorem d_Re_readNumber_42 : decode prog_6_method_9_code 42 = .ok (.iconst 2, 1) := by decide +kernel
theorem d_Re_readNumber_43 : decode prog_6_method_9_code 43 = .ok (.invokevirtual 108, 3) := by decide +kernel
theorem d_Re_readNumber_46 : decode prog_6_method_9_code 46 = .ok (.goto 19, 3) := by decide +kernel
theorem d_Re_readNumber_49 : decode prog_6_method_9_code 49 = .ok (.aload_n 1, 1) := by decide +kernel
theorem d_Re_readNumber_50 : decode prog_6_method_9_code 50 = .ok (.aload_n 0, 1) := by decide +kernel
theorem d_Re_readNumber_51 : decode prog_6_method_9_code 51 = .ok (.getfield 31, 3) := by decide +kernel
theorem d_Re_readNumber_54 : decode prog_6_method_9_code 54 = .ok (.aload_n 0, 1) := by decide +kernel
theorem d_Re_readNumber_55 : decode prog_6_method_9_code 55 = .ok (.getfield 102, 3) := by decide +kernel
theorem d_Re_readNumber_58 : decode prog_6_method_9_code 58 = .ok (.invokestatic 119, 3) := by decide +kernel
theorem d_Re_readNumber_61 : decode prog_6_method_9_code 61 = .ok (.aload_n 0, 1) := by decide +kernel
theorem d_Re_readNumber_62 : decode prog_6_method_9_code 62 = .ok (.invokevirtual 58, 3) := by decide +kernel
theorem d_Re_readNumber_65 : decode prog_6_method_9_code 65 = .ok (.return_, 1) := by decide +kernel
theorem d_Re_made_0 : decode prog_6_method_3_code 0 = .ok (.new 73, 3) := by decide +kernel
theorem d_Re_made_3 : decode prog_6_method_3_code 3 = .ok (.dup, 1) := by decide +kernel
theorem d_Re_made_4 : decode prog_6_method_3_code 4 = .ok (.aload_n 0, 1) := by decide +kernel
theorem d_Re_made_5 : decode prog_6_method_3_code 5 = .ok (.getfield 9, 3) := by decide +kernel
theorem d_Re_made_8 : decode prog_6_method_3_code 8 = .ok (.aload_n 0, 1) := by decide +kernel
theorem d_Re_made_9 : decode prog_6_method_3_code 9 = .ok (.getfield 31, 3) := by decide +kernel
theorem d_Re_made_12 : decode prog_6_method_3_code 12 = .ok (.invokestatic 75, 3) := by decide +kernel
theorem d_Re_made_15 : decode prog_6_method_3_code 15 = .ok (.aload_n 0, 1) := by decide +kernel
theorem d_Re_made_16 : decode prog_6_method_3_code 16 = .ok (.getfield 15, 3) := by decide +kernel
theorem d_Re_made_19 : decode prog_6_method_3_code 19 = .ok (.aload_n 0, 1) := by decide +kernel
theorem d_Re_made_20 : decode prog_6_method_3_code 20 = .ok (.getfield 31, 3) := by decide +kernel
theorem d_Re_made_23 : decode prog_6_method_3_code 23 = .ok (.invokestatic 75, 3) := by decide +kernel
theorem d_Re_made_26 : decode prog_6_method_3_code 26 = .ok (.aload_n 0, 1) := by decide +kernel
theorem d_Re_made_27 : decode prog_6_method_3_code 27 = .ok (.getfield 18, 3) := by decide +kernel
theorem d_Re_made_30 : decode prog_6_method_3_code 30 = .ok (.aload_n 0, 1) := by decide +kernel
theorem d_Re_made_31 : decode prog_6_method_3_code 31 = .ok (.getfield 31, 3) := by decide +kernel
theorem d_Re_made_34 : decode prog_6_method_3_code 34 = .ok (.invokestatic 75, 3) := by decide +kernel
theorem d_Re_made_37 : decode prog_6_method_3_code 37 = .ok (.aload_n 0, 1) := by decide +kernel
theorem d_Re_made_38 : decode prog_6_method_3_code 38 = .ok (.getfield 21, 3) := by decide +kernel
theorem d_Re_made_41 : decode prog_6_method_3_code 41 = .ok (.aload_n 0, 1) := by decide +kernel
theorem d_Re_made_42 : decode prog_6_method_3_code 42 = .ok (.getfield 35, 3) := by decide +kernel
theorem d_Re_made_45 : decode prog_6_method_3_code 45 = .ok (.invokestatic 75, 3) := by decide +kernel
theorem d_Re_made_48 : decode prog_6_method_3_code 48 = .ok (.aload_n 0, 1) := by decide +kernel
theorem d_Re_made_49 : decode prog_6_method_3_code 49 = .ok (.getfield 24, 3) := by decide +kernel
theorem d_Re_made_52 : decode prog_6_method_3_code 52 = .ok (.aload_n 0, 1) := by decide +kernel
theorem d_Re_made_53 : decode prog_6_method_3_code 53 = .ok (.getfield 35, 3) := by decide +kernel
theorem d_Re_made_56 : decode prog_6_method_3_code 56 = .ok (.invokestatic 75, 3) := by decide +kernel
theorem d_Re_made_59 : decode prog_6_method_3_code 59 = .ok (.invokespecial 81, 3) := by decide +kernel
theorem d_Re_made_62 : decode prog_6_method_3_code 62 = .ok (.astore_n 1, 1) := by decide +kernel
theorem d_Re_made_63 : decode prog_6_method_3_code 63 = .ok (.aload_n 1, 1) := by decide +kernel
theorem d_Re_made_64 : decode prog_6_method_3_code 64 = .ok (.aload_n 0, 1) := by decide +kernel
theorem d_Re_made_65 : decode prog_6_method_3_code 65 = .ok (.getfield 38, 3) := by decide +kernel
theorem d_Re_made_68 : decode prog_6_method_3_code 68 = .ok (.putfield 84, 3) := by decide +kernel
theorem d_Re_made_71 : decode prog_6_method_3_code 71 = .ok (.aload_n 1, 1) := by decide +kernel
theorem d_Re_made_72 : decode prog_6_method_3_code 72 = .ok (.aload_n 0, 1) := by decide +kernel
theorem d_Re_made_73 : decode prog_6_method_3_code 73 = .ok (.getfield 85, 3) := by decide +kernel
theorem d_Re_made_76 : decode prog_6_method_3_code 76 = .ok (.putfield 88, 3) := by decide +kernel
theorem d_Re_made_79 : decode prog_6_method_3_code 79 = .ok (.aload_n 1, 1) := by decide +kernel
theorem d_Re_made_80 : decode prog_6_method_3_code 80 = .ok (.aload_n 0, 1) := by decide +kernel
theorem d_Re_made_81 : decode prog_6_method_3_code 81 = .ok (.getfield 41, 3) := by decide +kernel
theorem d_Re_made_84 : decode prog_6_method_3_code 84 = .ok (.putfield 89, 3) := by decide +kernel
theorem d_Re_made_87 : decode prog_6_method_3_code 87 = .ok (.aload_n 1, 1) := by decide +kernel
theorem d_Re_made_88 : decode prog_6_method_3_code 88 = .ok (.aload_n 0, 1) := by decide +kernel
theorem d_Re_made_89 : decode prog_6_method_3_code 89 = .ok (.getfield 90, 3) := by decide +kernel
theorem d_Re_made_92 : decode prog_6_method_3_code 92 = .ok (.putfield 93, 3) := by decide +kernel
theorem d_Re_made_95 : decode prog_6_method_3_code 95 = .ok (.aload_n 1, 1) := by decide +kernel
theorem d_Re_made_96 : decode prog_6_method_3_code 96 = .ok (.areturn, 1) := by decide +kernel
theorem d_Tx_init_0 : decode prog_10_method_1_code 0 = .ok (.aload_n 0, 1) := by decide +kernel
theorem d_Tx_init_1 : decode prog_10_method_1_code 1 = .ok (.invokespecial 3, 3) := by decide +kernel
theorem d_Tx_init_4 : decode prog_10_method_1_code 4 = .ok (.aload_n 0, 1) := by decide +kernel
theorem d_Tx_init_5 : decode prog_10_method_1_code 5 = .ok (.iconst (-1), 1) := by decide +kernel
theorem d_Tx_init_6 : decode prog_10_method_1_code 6 = .ok (.putfield 9, 3) := by decide +kernel
theorem d_Tx_init_9 : decode prog_10_method_1_code 9 = .ok (.aload_n 0, 1) := by decide +kernel
theorem d_Tx_init_10 : decode prog_10_method_1_code 10 = .ok (.iconst (-1), 1) := by decide +kernel
theorem d_Tx_init_11 : decode prog_10_method_1_code 11 = .ok (.putfield 15, 3) := by decide +kernel
theorem d_Tx_init_14 : decode prog_10_method_1_code 14 = .ok (.aload_n 0, 1) := by decide +kernel
theorem d_Tx_init_15 : decode prog_10_method_1_code 15 = .ok (.aload_n 1, 1) := by decide +kernel
theorem d_Tx_init_16 : decode prog_10_method_1_code 16 = .ok (.putfield 18, 3) := by decide +kernel
theorem d_Tx_init_19 : decode prog_10_method_1_code 19 = .ok (.aload_n 0, 1) := by decide +kernel
theorem d_Tx_init_20 : decode prog_10_method_1_code 20 = .ok (.aload_n 2, 1) := by decide +kernel
theorem d_Tx_init_21 : decode prog_10_method_1_code 21 = .ok (.putfield 22, 3) := by decide +kernel
theorem d_Tx_init_24 : decode prog_10_method_1_code 24 = .ok (.aload_n 0, 1) := by decide +kernel
theorem d_Tx_init_25 : decode prog_10_method_1_code 25 = .ok (.aload_n 3, 1) := by decide +kernel
theorem d_Tx_init_26 : decode prog_10_method_1_code 26 = .ok (.putfield 25, 3) := by decide +kernel
theorem d_Tx_init_29 : decode prog_10_method_1_code 29 = .ok (.aload_n 0, 1) := by decide +kernel
theorem d_Tx_init_30 : decode prog_10_method_1_code 30 = .ok (.aload 4, 2) := by decide +kernel
theorem d_Tx_init_32 : decode prog_10_method_1_code 32 = .ok (.putfield 28, 3) := by decide +kernel
theorem d_Tx_init_35 : decode prog_10_method_1_code 35 = .ok (.aload_n 0, 1) := by decide +kernel
theorem d_Tx_init_36 : decode prog_10_method_1_code 36 = .ok (.aload 5, 2) := by decide +kernel
theorem d_Tx_init_38 : decode prog_10_method_1_code 38 = .ok (.putfield 31, 3) := by decide +kernel
theorem d_Tx_init_41 : decode prog_10_method_1_code 41 = .ok (.return_, 1) := by decide +kernel
theorem d_TP_fault_0 : decode prog_1_method_7_code 0 = .ok (.iload_n 1, 1) := by decide +kernel
theorem d_TP_fault_1 : decode prog_1_method_7_code 1 = .ok (.lookupswitch 37 #[(0, 27), (1, 32)], 27) := by decide +kernel
theorem d_TP_fault_28 : decode prog_1_method_7_code 28 = .ok (.aload_n 0, 1) := by decide +kernel
theorem d_TP_fault_29 : decode prog_1_method_7_code 29 = .ok (.getfield 78, 3) := by decide +kernel
theorem d_TP_fault_32 : decode prog_1_method_7_code 32 = .ok (.ireturn, 1) := by decide +kernel
theorem d_TP_fault_33 : decode prog_1_method_7_code 33 = .ok (.aload_n 0, 1) := by decide +kernel
theorem d_TP_fault_34 : decode prog_1_method_7_code 34 = .ok (.getfield 82, 3) := by decide +kernel
theorem d_TP_fault_37 : decode prog_1_method_7_code 37 = .ok (.ireturn, 1) := by decide +kernel
theorem d_TP_fault_38 : decode prog_1_method_7_code 38 = .ok (.iconst (-1), 1) := by decide +kernel
theorem d_TP_fault_39 : decode prog_1_method_7_code 39 = .ok (.ireturn, 1) := by decide +kernel
theorem d_TP_by_0 : decode prog_1_method_8_code 0 = .ok (.iload_n 1, 1) := by decide +kernel
theorem d_TP_by_1 : decode prog_1_method_8_code 1 = .ok (.iconst (-1), 1) := by decide +kernel
theorem d_TP_by_2 : decode prog_1_method_8_code 2 = .ok (.if_icmp .eq 16, 3) := by decide +kernel
theorem d_TP_by_5 : decode prog_1_method_8_code 5 = .ok (.aload_n 0, 1) := by decide +kernel
theorem d_TP_by_6 : decode prog_1_method_8_code 6 = .ok (.getfield 10, 3) := by decide +kernel
theorem d_TP_by_9 : decode prog_1_method_8_code 9 = .ok (.iload_n 1, 1) := by decide +kernel
theorem d_TP_by_10 : decode prog_1_method_8_code 10 = .ok (.invokevirtual 117, 3) := by decide +kernel
theorem d_TP_by_13 : decode prog_1_method_8_code 13 = .ok (.ifnonnull 5, 3) := by decide +kernel
theorem d_TP_by_16 : decode prog_1_method_8_code 16 = .ok (.iconst 0, 1) := by decide +kernel
theorem d_TP_by_17 : decode prog_1_method_8_code 17 = .ok (.ireturn, 1) := by decide +kernel
theorem d_TP_by_18 : decode prog_1_method_8_code 18 = .ok (.aload_n 0, 1) := by decide +kernel
theorem d_TP_by_19 : decode prog_1_method_8_code 19 = .ok (.getfield 10, 3) := by decide +kernel
theorem d_TP_by_22 : decode prog_1_method_8_code 22 = .ok (.iload_n 1, 1) := by decide +kernel
theorem d_TP_by_23 : decode prog_1_method_8_code 23 = .ok (.putfield 121, 3) := by decide +kernel
theorem d_TP_by_26 : decode prog_1_method_8_code 26 = .ok (.iconst 1, 1) := by decide +kernel
theorem d_TP_by_27 : decode prog_1_method_8_code 27 = .ok (.ireturn, 1) := by decide +kernel
theorem d_TP_tell_0 : decode prog_1_method_9_code 0 = .ok (.aload_n 0, 1) := by decide +kernel
theorem d_TP_tell_1 : decode prog_1_method_9_code 1 = .ok (.getfield 40, 3) := by decide +kernel
theorem d_TP_tell_4 : decode prog_1_method_9_code 4 = .ok (.iload_n 1, 1) := by decide +kernel
theorem d_TP_tell_5 : decode prog_1_method_9_code 5 = .ok (.invokevirtual 124, 3) := by decide +kernel
theorem d_TP_tell_8 : decode prog_1_method_9_code 8 = .ok (.ifCond .eq 16, 3) := by decide +kernel
theorem d_TP_tell_11 : decode prog_1_method_9_code 11 = .ok (.aload_n 0, 1) := by decide +kernel
theorem d_TP_tell_12 : decode prog_1_method_9_code 12 = .ok (.getfield 10, 3) := by decide +kernel
theorem d_TP_tell_15 : decode prog_1_method_9_code 15 = .ok (.getfield 128, 3) := by decide +kernel
theorem d_TP_tell_18 : decode prog_1_method_9_code 18 = .ok (.getfield 131, 3) := by decide +kernel
theorem d_TP_tell_21 : decode prog_1_method_9_code 21 = .ok (.goto 4, 3) := by decide +kernel
theorem d_TP_tell_24 : decode prog_1_method_9_code 24 = .ok (.iconst (-1), 1) := by decide +kernel
theorem d_TP_tell_25 : decode prog_1_method_9_code 25 = .ok (.ireturn, 1) := by decide +kernel
theorem d_Ro_tellByHand_0 : decode prog_7_method_5_code 0 = .ok (.aload_n 0, 1) := by decide +kernel
theorem d_Ro_tellByHand_1 : decode prog_7_method_5_code 1 = .ok (.getfield 15, 3) := by decide +kernel
theorem d_Ro_tellByHand_4 : decode prog_7_method_5_code 4 = .ok (.getfield 93, 3) := by decide +kernel
theorem d_Ro_tellByHand_7 : decode prog_7_method_5_code 7 = .ok (.iload_n 1, 1) := by decide +kernel
theorem d_Ro_tellByHand_8 : decode prog_7_method_5_code 8 = .ok (.invokevirtual 100, 3) := by decide +kernel
theorem d_Ro_tellByHand_11 : decode prog_7_method_5_code 11 = .ok (.ifCond .ne 5, 3) := by decide +kernel
theorem d_Ro_tellByHand_14 : decode prog_7_method_5_code 14 = .ok (.iconst 0, 1) := by decide +kernel
theorem d_Ro_tellByHand_15 : decode prog_7_method_5_code 15 = .ok (.ireturn, 1) := by decide +kernel
theorem d_Ro_tellByHand_16 : decode prog_7_method_5_code 16 = .ok (.aload_n 0, 1) := by decide +kernel
theorem d_Ro_tellByHand_17 : decode prog_7_method_5_code 17 = .ok (.getfield 15, 3) := by decide +kernel
theorem d_Ro_tellByHand_20 : decode prog_7_method_5_code 20 = .ok (.invokevirtual 97, 3) := by decide +kernel
theorem d_Ro_tellByHand_23 : decode prog_7_method_5_code 23 = .ok (.aload_n 0, 1) := by decide +kernel
theorem d_Ro_tellByHand_24 : decode prog_7_method_5_code 24 = .ok (.aload_n 0, 1) := by decide +kernel
theorem d_Ro_tellByHand_25 : decode prog_7_method_5_code 25 = .ok (.getfield 15, 3) := by decide +kernel
theorem d_Ro_tellByHand_28 : decode prog_7_method_5_code 28 = .ok (.getfield 93, 3) := by decide +kernel
theorem d_Ro_tellByHand_31 : decode prog_7_method_5_code 31 = .ok (.iload_n 1, 1) := by decide +kernel
theorem d_Ro_tellByHand_32 : decode prog_7_method_5_code 32 = .ok (.invokevirtual 89, 3) := by decide +kernel
theorem d_Ro_tellByHand_35 : decode prog_7_method_5_code 35 = .ok (.iconst 1, 1) := by decide +kernel
theorem d_Ro_tellByHand_36 : decode prog_7_method_5_code 36 = .ok (.ireturn, 1) := by decide +kernel
theorem d_Ro_pass_0 : decode prog_7_method_2_code 0 = .ok (.aload_n 0, 1) := by decide +kernel
theorem d_Ro_pass_1 : decode prog_7_method_2_code 1 = .ok (.getfield 15, 3) := by decide +kernel
theorem d_Ro_pass_4 : decode prog_7_method_2_code 4 = .ok (.invokevirtual 23, 3) := by decide +kernel
theorem d_Ro_pass_7 : decode prog_7_method_2_code 7 = .ok (.astore_n 3, 1) := by decide +kernel
theorem d_Ro_pass_8 : decode prog_7_method_2_code 8 = .ok (.iconst 0, 1) := by decide +kernel
theorem d_Ro_pass_9 : decode prog_7_method_2_code 9 = .ok (.istore 4, 2) := by decide +kernel
theorem d_Ro_pass_11 : decode prog_7_method_2_code 11 = .ok (.iconst 0, 1) := by decide +kernel
theorem d_Ro_pass_12 : decode prog_7_method_2_code 12 = .ok (.istore 5, 2) := by decide +kernel
theorem d_Ro_pass_14 : decode prog_7_method_2_code 14 = .ok (.iload 5, 2) := by decide +kernel
theorem d_Ro_pass_16 : decode prog_7_method_2_code 16 = .ok (.aload_n 1, 1) := by decide +kernel
theorem d_Ro_pass_17 : decode prog_7_method_2_code 17 = .ok (.getfield 29, 3) := by decide +kernel
theorem d_Ro_pass_20 : decode prog_7_method_2_code 20 = .ok (.if_icmp .ge 56, 3) := by decide +kernel
theorem d_Ro_pass_23 : decode prog_7_method_2_code 23 = .ok (.aload_n 0, 1) := by decide +kernel
theorem d_Ro_pass_24 : decode prog_7_method_2_code 24 = .ok (.getfield 19, 3) := by decide +kernel
theorem d_Ro_pass_27 : decode prog_7_method_2_code 27 = .ok (.aload_n 1, 1) := by decide +kernel
theorem d_Ro_pass_28 : decode prog_7_method_2_code 28 = .ok (.aload_n 3, 1) := by decide +kernel
theorem d_Ro_pass_29 : decode prog_7_method_2_code 29 = .ok (.iload 5, 2) := by decide +kernel
theorem d_Ro_pass_31 : decode prog_7_method_2_code 31 = .ok (.iload_n 2, 1) := by decide +kernel
theorem d_Ro_pass_32 : decode prog_7_method_2_code 32 = .ok (.invokevirtual 35, 3) := by decide +kernel
theorem d_Ro_pass_35 : decode prog_7_method_2_code 35 = .ok (.istore 6, 2) := by decide +kernel
theorem d_Ro_pass_37 : decode prog_7_method_2_code 37 = .ok (.aload_n 1, 1) := by decide +kernel
theorem d_Ro_pass_38 : decode prog_7_method_2_code 38 = .ok (.invokevirtual 41, 3) := by decide +kernel
theorem d_Ro_pass_41 : decode prog_7_method_2_code 41 = .ok (.bipush 20, 2) := by decide +kernel
theorem d_Ro_pass_43 : decode prog_7_method_2_code 43 = .ok (.irem, 1) := by decide +kernel
theorem d_Ro_pass_44 : decode prog_7_method_2_code 44 = .ok (.ifCond .ne 7, 3) := by decide +kernel
theorem d_Ro_pass_47 : decode prog_7_method_2_code 47 = .ok (.iconst 1, 1) := by decide +kernel
theorem d_Ro_pass_48 : decode prog_7_method_2_code 48 = .ok (.goto 4, 3) := by decide +kernel
theorem d_Ro_pass_51 : decode prog_7_method_2_code 51 = .ok (.iconst 0, 1) := by decide +kernel
theorem d_Ro_pass_52 : decode prog_7_method_2_code 52 = .ok (.istore 7, 2) := by decide +kernel
theorem d_Ro_pass_54 : decode prog_7_method_2_code 54 = .ok (.iload 6, 2) := by decide +kernel
theorem d_Ro_pass_56 : decode prog_7_method_2_code 56 = .ok (.iload 7, 2) := by decide +kernel
theorem d_Ro_pass_58 : decode prog_7_method_2_code 58 = .ok (.if_icmp .eq 12, 3) := by decide +kernel
theorem d_Ro_pass_61 : decode prog_7_method_2_code 61 = .ok (.iload 4, 2) := by decide +kernel
theorem d_Ro_pass_63 : decode prog_7_method_2_code 63 = .ok (.iconst 1, 1) := by decide +kernel
theorem d_Ro_pass_64 : decode prog_7_method_2_code 64 = .ok (.iload 5, 2) := by decide +kernel
theorem d_Ro_pass_66 : decode prog_7_method_2_code 66 = .ok (.ishl, 1) := by decide +kernel
theorem d_Ro_pass_67 : decode prog_7_method_2_code 67 = .ok (.ior, 1) := by decide +kernel
theorem d_Ro_pass_68 : decode prog_7_method_2_code 68 = .ok (.istore 4, 2) := by decide +kernel
theorem d_Ro_pass_70 : decode prog_7_method_2_code 70 = .ok (.iinc 5 1, 3) := by decide +kernel
theorem d_Ro_pass_73 : decode prog_7_method_2_code 73 = .ok (.goto (-59), 3) := by decide +kernel
theorem d_Ro_pass_76 : decode prog_7_method_2_code 76 = .ok (.iconst 0, 1) := by decide +kernel
theorem d_Ro_pass_77 : decode prog_7_method_2_code 77 = .ok (.istore 5, 2) := by decide +kernel
theorem d_Ro_pass_79 : decode prog_7_method_2_code 79 = .ok (.iload 5, 2) := by decide +kernel
theorem d_Ro_pass_81 : decode prog_7_method_2_code 81 = .ok (.aload_n 1, 1) := by decide +kernel
theorem d_Ro_pass_82 : decode prog_7_method_2_code 82 = .ok (.getfield 29, 3) := by decide +kernel
theorem d_Ro_pass_85 : decode prog_7_method_2_code 85 = .ok (.if_icmp .ge 59, 3) := by decide +kernel
theorem d_Ro_pass_88 : decode prog_7_method_2_code 88 = .ok (.aload_n 0, 1) := by decide +kernel
theorem d_Ro_pass_89 : decode prog_7_method_2_code 89 = .ok (.getfield 19, 3) := by decide +kernel
theorem d_Ro_pass_92 : decode prog_7_method_2_code 92 = .ok (.aload_n 1, 1) := by decide +kernel
theorem d_Ro_pass_93 : decode prog_7_method_2_code 93 = .ok (.iload 5, 2) := by decide +kernel
theorem d_Ro_pass_95 : decode prog_7_method_2_code 95 = .ok (.iload_n 2, 1) := by decide +kernel
theorem d_Ro_pass_96 : decode prog_7_method_2_code 96 = .ok (.iload 4, 2) := by decide +kernel
theorem d_Ro_pass_98 : decode prog_7_method_2_code 98 = .ok (.iload 5, 2) := by decide +kernel
theorem d_Ro_pass_100 : decode prog_7_method_2_code 100 = .ok (.ishr, 1) := by decide +kernel
theorem d_Ro_pass_101 : decode prog_7_method_2_code 101 = .ok (.iconst 1, 1) := by decide +kernel
theorem d_Ro_pass_102 : decode prog_7_method_2_code 102 = .ok (.iand, 1) := by decide +kernel
theorem d_Ro_pass_103 : decode prog_7_method_2_code 103 = .ok (.invokevirtual 45, 3) := by decide +kernel
theorem d_Ro_pass_106 : decode prog_7_method_2_code 106 = .ok (.istore 6, 2) := by decide +kernel
theorem d_Ro_pass_108 : decode prog_7_method_2_code 108 = .ok (.aload_n 0, 1) := by decide +kernel
theorem d_Ro_pass_109 : decode prog_7_method_2_code 109 = .ok (.getfield 9, 3) := by decide +kernel
theorem d_Ro_pass_112 : decode prog_7_method_2_code 112 = .ok (.iload 5, 2) := by decide +kernel
theorem d_Ro_pass_114 : decode prog_7_method_2_code 114 = .ok (.aload_n 1, 1) := by decide +kernel
theorem d_Ro_pass_115 : decode prog_7_method_2_code 115 = .ok (.getfield 49, 3) := by decide +kernel
theorem d_Ro_pass_118 : decode prog_7_method_2_code 118 = .ok (.iload 5, 2) := by decide +kernel
theorem d_Ro_pass_120 : decode prog_7_method_2_code 120 = .ok (.invokestatic 52, 3) := by decide +kernel
theorem d_Ro_pass_123 : decode prog_7_method_2_code 123 = .ok (.iload 6, 2) := by decide +kernel
theorem d_Ro_pass_125 : decode prog_7_method_2_code 125 = .ok (.iadd, 1) := by decide +kernel
theorem d_Ro_pass_126 : decode prog_7_method_2_code 126 = .ok (.i2l, 1) := by decide +kernel
theorem d_Ro_pass_127 : decode prog_7_method_2_code 127 = .ok (.lconst 0, 1) := by decide +kernel
theorem d_Ro_pass_128 : decode prog_7_method_2_code 128 = .ok (.ldc2_w 56, 3) := by decide +kernel
theorem d_Ro_pass_131 : decode prog_7_method_2_code 131 = .ok (.invokestatic 58, 3) := by decide +kernel
theorem d_Ro_pass_134 : decode prog_7_method_2_code 134 = .ok (.l2i, 1) := by decide +kernel
theorem d_Ro_pass_135 : decode prog_7_method_2_code 135 = .ok (.invokestatic 62, 3) := by decide +kernel
theorem d_Ro_pass_138 : decode prog_7_method_2_code 138 = .ok (.iinc 5 1, 3) := by decide +kernel
theorem d_Ro_pass_141 : decode prog_7_method_2_code 141 = .ok (.goto (-62), 3) := by decide +kernel
theorem d_Ro_pass_144 : decode prog_7_method_2_code 144 = .ok (.iconst 0, 1) := by decide +kernel
theorem d_Ro_pass_145 : decode prog_7_method_2_code 145 = .ok (.istore 5, 2) := by decide +kernel
theorem d_Ro_pass_147 : decode prog_7_method_2_code 147 = .ok (.iload 5, 2) := by decide +kernel
theorem d_Ro_pass_149 : decode prog_7_method_2_code 149 = .ok (.aload_n 1, 1) := by decide +kernel
theorem d_Ro_pass_150 : decode prog_7_method_2_code 150 = .ok (.getfield 29, 3) := by decide +kernel
theorem d_Ro_pass_153 : decode prog_7_method_2_code 153 = .ok (.if_icmp .ge 27, 3) := by decide +kernel
theorem d_Ro_pass_156 : decode prog_7_method_2_code 156 = .ok (.aload_n 1, 1) := by decide +kernel
theorem d_Ro_pass_157 : decode prog_7_method_2_code 157 = .ok (.getfield 49, 3) := by decide +kernel
theorem d_Ro_pass_160 : decode prog_7_method_2_code 160 = .ok (.iload 5, 2) := by decide +kernel
theorem d_Ro_pass_162 : decode prog_7_method_2_code 162 = .ok (.aload_n 0, 1) := by decide +kernel
theorem d_Ro_pass_163 : decode prog_7_method_2_code 163 = .ok (.getfield 9, 3) := by decide +kernel
theorem d_Ro_pass_166 : decode prog_7_method_2_code 166 = .ok (.iload 5, 2) := by decide +kernel
theorem d_Ro_pass_168 : decode prog_7_method_2_code 168 = .ok (.invokestatic 52, 3) := by decide +kernel
theorem d_Ro_pass_171 : decode prog_7_method_2_code 171 = .ok (.invokestatic 62, 3) := by decide +kernel
theorem d_Ro_pass_174 : decode prog_7_method_2_code 174 = .ok (.iinc 5 1, 3) := by decide +kernel
theorem d_Ro_pass_177 : decode prog_7_method_2_code 177 = .ok (.goto (-30), 3) := by decide +kernel
theorem d_Ro_pass_180 : decode prog_7_method_2_code 180 = .ok (.aload_n 1, 1) := by decide +kernel
theorem d_Ro_pass_181 : decode prog_7_method_2_code 181 = .ok (.iload 4, 2) := by decide +kernel
theorem d_Ro_pass_183 : decode prog_7_method_2_code 183 = .ok (.putfield 66, 3) := by decide +kernel
theorem d_Ro_pass_186 : decode prog_7_method_2_code 186 = .ok (.aload_n 1, 1) := by decide +kernel
theorem d_Ro_pass_187 : decode prog_7_method_2_code 187 = .ok (.iload 4, 2) := by decide +kernel
theorem d_Ro_pass_189 : decode prog_7_method_2_code 189 = .ok (.invokestatic 69, 3) := by decide +kernel
theorem d_Ro_pass_192 : decode prog_7_method_2_code 192 = .ok (.putfield 75, 3) := by decide +kernel
theorem d_Ro_pass_195 : decode prog_7_method_2_code 195 = .ok (.aload_n 1, 1) := by decide +kernel
theorem d_Ro_pass_196 : decode prog_7_method_2_code 196 = .ok (.iload_n 2, 1) := by decide +kernel
theorem d_Ro_pass_197 : decode prog_7_method_2_code 197 = .ok (.invokevirtual 78, 3) := by decide +kernel
theorem d_Ro_pass_200 : decode prog_7_method_2_code 200 = .ok (.aload_n 1, 1) := by decide +kernel
theorem d_Ro_pass_201 : decode prog_7_method_2_code 201 = .ok (.dup, 1) := by decide +kernel
theorem d_Ro_pass_202 : decode prog_7_method_2_code 202 = .ok (.getfield 82, 3) := by decide +kernel
theorem d_Ro_pass_205 : decode prog_7_method_2_code 205 = .ok (.iconst 1, 1) := by decide +kernel
theorem d_Ro_pass_206 : decode prog_7_method_2_code 206 = .ok (.iadd, 1) := by decide +kernel
theorem d_Ro_pass_207 : decode prog_7_method_2_code 207 = .ok (.putfield 82, 3) := by decide +kernel
theorem d_Ro_pass_210 : decode prog_7_method_2_code 210 = .ok (.return_, 1) := by decide +kernel
theorem d_Sg_joinsTwo_0 : decode prog_8_method_3_code 0 = .ok (.iload_n 0, 1) := by decide +kernel
theorem d_Sg_joinsTwo_1 : decode prog_8_method_3_code 1 = .ok (.bipush 26, 2) := by decide +kernel
theorem d_Sg_joinsTwo_3 : decode prog_8_method_3_code 3 = .ok (.if_icmp .lt 9, 3) := by decide +kernel
theorem d_Sg_joinsTwo_6 : decode prog_8_method_3_code 6 = .ok (.iload_n 0, 1) := by decide +kernel
theorem d_Sg_joinsTwo_7 : decode prog_8_method_3_code 7 = .ok (.bipush 35, 2) := by decide +kernel
theorem d_Sg_joinsTwo_9 : decode prog_8_method_3_code 9 = .ok (.if_icmp .le 15, 3) := by decide +kernel
theorem d_Sg_joinsTwo_12 : decode prog_8_method_3_code 12 = .ok (.iload_n 0, 1) := by decide +kernel
theorem d_Sg_joinsTwo_13 : decode prog_8_method_3_code 13 = .ok (.bipush 16, 2) := by decide +kernel
theorem d_Sg_joinsTwo_15 : decode prog_8_method_3_code 15 = .ok (.if_icmp .eq 9, 3) := by decide +kernel
theorem d_Sg_joinsTwo_18 : decode prog_8_method_3_code 18 = .ok (.iload_n 0, 1) := by decide +kernel
theorem d_Sg_joinsTwo_19 : decode prog_8_method_3_code 19 = .ok (.bipush 17, 2) := by decide +kernel
theorem d_Sg_joinsTwo_21 : decode prog_8_method_3_code 21 = .ok (.if_icmp .ne 7, 3) := by decide +kernel
theorem d_Sg_joinsTwo_24 : decode prog_8_method_3_code 24 = .ok (.iconst 1, 1) := by decide +kernel
theorem d_Sg_joinsTwo_25 : decode prog_8_method_3_code 25 = .ok (.goto 4, 3) := by decide +kernel
theorem d_Sg_joinsTwo_28 : decode prog_8_method_3_code 28 = .ok (.iconst 0, 1) := by decide +kernel
theorem d_Sg_joinsTwo_29 : decode prog_8_method_3_code 29 = .ok (.ireturn, 1) := by decide +kernel
theorem d_TP_within_0 : decode prog_1_method_65_code 0 = .ok (.lload_n 2, 1) := by decide +kernel
theorem d_TP_within_1 : decode prog_1_method_65_code 1 = .ok (.lload 4, 2) := by decide +kernel
theorem d_TP_within_3 : decode prog_1_method_65_code 3 = .ok (.lload_n 0, 1) := by decide +kernel
theorem d_TP_within_4 : decode prog_1_method_65_code 4 = .ok (.invokestatic 374, 3) := by decide +kernel
theorem d_TP_within_7 : decode prog_1_method_65_code 7 = .ok (.invokestatic 380, 3) := by decide +kernel
theorem d_TP_within_10 : decode prog_1_method_65_code 10 = .ok (.lreturn, 1) := by decide +kernel
theorem d_Sg_changesOne_0 : decode prog_8_method_4_code 0 = .ok (.iload_n 0, 1) := by decide +kernel
theorem d_Sg_changesOne_1 : decode prog_8_method_4_code 1 = .ok (.bipush 10, 2) := by decide +kernel
theorem d_Sg_changesOne_3 : decode prog_8_method_4_code 3 = .ok (.if_icmp .eq 21, 3) := by decide +kernel
theorem d_Sg_changesOne_6 : decode prog_8_method_4_code 6 = .ok (.iload_n 0, 1) := by decide +kernel
theorem d_Sg_changesOne_7 : decode prog_8_method_4_code 7 = .ok (.bipush 11, 2) := by decide +kernel
theorem d_Sg_changesOne_9 : decode prog_8_method_4_code 9 = .ok (.if_icmp .eq 15, 3) := by decide +kernel
theorem d_Sg_changesOne_12 : decode prog_8_method_4_code 12 = .ok (.iload_n 0, 1) := by decide +kernel
theorem d_Sg_changesOne_13 : decode prog_8_method_4_code 13 = .ok (.bipush 18, 2) := by decide +kernel
theorem d_Sg_changesOne_15 : decode prog_8_method_4_code 15 = .ok (.if_icmp .eq 9, 3) := by decide +kernel
theorem d_Sg_changesOne_18 : decode prog_8_method_4_code 18 = .ok (.iload_n 0, 1) := by decide +kernel
theorem d_Sg_changesOne_19 : decode prog_8_method_4_code 19 = .ok (.bipush 42, 2) := by decide +kernel
theorem d_Sg_changesOne_21 : decode prog_8_method_4_code 21 = .ok (.if_icmp .ne 7, 3) := by decide +kernel
theorem d_Sg_changesOne_24 : decode prog_8_method_4_code 24 = .ok (.iconst 1, 1) := by decide +kernel
theorem d_Sg_changesOne_25 : decode prog_8_method_4_code 25 = .ok (.goto 4, 3) := by decide +kernel
theorem d_Sg_changesOne_28 : decode prog_8_method_4_code 28 = .ok (.iconst 0, 1) := by decide +kernel
theorem d_Sg_changesOne_29 : decode prog_8_method_4_code 29 = .ok (.ireturn, 1) := by decide +kernel
theorem d_TP_nudge_0 : decode prog_1_method_10_code 0 = .ok (.aload_n 0, 1) := by decide +kernel
theorem d_TP_nudge_1 : decode prog_1_method_10_code 1 = .ok (.getfield 40, 3) := by decide +kernel
theorem d_TP_nudge_4 : decode prog_1_method_10_code 4 = .ok (.iload_n 1, 1) := by decide +kernel
theorem d_TP_nudge_5 : decode prog_1_method_10_code 5 = .ok (.iload_n 2, 1) := by decide +kernel
theorem d_TP_nudge_6 : decode prog_1_method_10_code 6 = .ok (.invokevirtual 134, 3) := by decide +kernel
theorem d_TP_nudge_9 : decode prog_1_method_10_code 9 = .ok (.ireturn, 1) := by decide +kernel
theorem d_Ro_nudgeByHand_0 : decode prog_7_method_6_code 0 = .ok (.aload_n 0, 1) := by decide +kernel
theorem d_Ro_nudgeByHand_1 : decode prog_7_method_6_code 1 = .ok (.getfield 15, 3) := by decide +kernel
theorem d_Ro_nudgeByHand_4 : decode prog_7_method_6_code 4 = .ok (.getfield 93, 3) := by decide +kernel
theorem d_Ro_nudgeByHand_7 : decode prog_7_method_6_code 7 = .ok (.iload_n 1, 1) := by decide +kernel
theorem d_Ro_nudgeByHand_8 : decode prog_7_method_6_code 8 = .ok (.iload_n 2, 1) := by decide +kernel
theorem d_Ro_nudgeByHand_9 : decode prog_7_method_6_code 9 = .ok (.invokevirtual 104, 3) := by decide +kernel
theorem d_Ro_nudgeByHand_12 : decode prog_7_method_6_code 12 = .ok (.ifCond .ne 5, 3) := by decide +kernel
theorem d_Ro_nudgeByHand_15 : decode prog_7_method_6_code 15 = .ok (.iconst 0, 1) := by decide +kernel
theorem d_Ro_nudgeByHand_16 : decode prog_7_method_6_code 16 = .ok (.ireturn, 1) := by decide +kernel
theorem d_Ro_nudgeByHand_17 : decode prog_7_method_6_code 17 = .ok (.aload_n 0, 1) := by decide +kernel
theorem d_Ro_nudgeByHand_18 : decode prog_7_method_6_code 18 = .ok (.getfield 15, 3) := by decide +kernel
theorem d_Ro_nudgeByHand_21 : decode prog_7_method_6_code 21 = .ok (.invokevirtual 97, 3) := by decide +kernel
theorem d_Ro_nudgeByHand_24 : decode prog_7_method_6_code 24 = .ok (.aload_n 0, 1) := by decide +kernel
theorem d_Ro_nudgeByHand_25 : decode prog_7_method_6_code 25 = .ok (.iload_n 1, 1) := by decide +kernel
theorem d_Ro_nudgeByHand_26 : decode prog_7_method_6_code 26 = .ok (.iload_n 2, 1) := by decide +kernel
theorem d_Ro_nudgeByHand_27 : decode prog_7_method_6_code 27 = .ok (.invokevirtual 108, 3) := by decide +kernel
theorem d_Ro_nudgeByHand_30 : decode prog_7_method_6_code 30 = .ok (.iconst 1, 1) := by decide +kernel
theorem d_Ro_nudgeByHand_31 : decode prog_7_method_6_code 31 = .ok (.ireturn, 1) := by decide +kernel
theorem d_Ro_shift_0 : decode prog_7_method_7_code 0 = .ok (.aload_n 0, 1) := by decide +kernel
theorem d_Ro_shift_1 : decode prog_7_method_7_code 1 = .ok (.getfield 15, 3) := by decide +kernel
theorem d_Ro_shift_4 : decode prog_7_method_7_code 4 = .ok (.getfield 93, 3) := by decide +kernel
theorem d_Ro_shift_7 : decode prog_7_method_7_code 7 = .ok (.getfield 49, 3) := by decide +kernel
theorem d_Ro_shift_10 : decode prog_7_method_7_code 10 = .ok (.iload_n 1, 1) := by decide +kernel
theorem d_Ro_shift_11 : decode prog_7_method_7_code 11 = .ok (.aload_n 0, 1) := by decide +kernel
theorem d_Ro_shift_12 : decode prog_7_method_7_code 12 = .ok (.getfield 15, 3) := by decide +kernel
theorem d_Ro_shift_15 : decode prog_7_method_7_code 15 = .ok (.getfield 93, 3) := by decide +kernel
theorem d_Ro_shift_18 : decode prog_7_method_7_code 18 = .ok (.getfield 49, 3) := by decide +kernel
theorem d_Ro_shift_21 : decode prog_7_method_7_code 21 = .ok (.iload_n 1, 1) := by decide +kernel
theorem d_Ro_shift_22 : decode prog_7_method_7_code 22 = .ok (.invokestatic 52, 3) := by decide +kernel
theorem d_Ro_shift_25 : decode prog_7_method_7_code 25 = .ok (.iload_n 2, 1) := by decide +kernel
theorem d_Ro_shift_26 : decode prog_7_method_7_code 26 = .ok (.iadd, 1) := by decide +kernel
theorem d_Ro_shift_27 : decode prog_7_method_7_code 27 = .ok (.invokestatic 62, 3) := by decide +kernel
theorem d_Ro_shift_30 : decode prog_7_method_7_code 30 = .ok (.return_, 1) := by decide +kernel
theorem d_TP_day_0 : decode prog_1_method_11_code 0 = .ok (.iload_n 1, 1) := by decide +kernel
theorem d_TP_day_1 : decode prog_1_method_11_code 1 = .ok (.iconst 1, 1) := by decide +kernel
theorem d_TP_day_2 : decode prog_1_method_11_code 2 = .ok (.if_icmp .lt 27, 3) := by decide +kernel
theorem d_TP_day_5 : decode prog_1_method_11_code 5 = .ok (.iload_n 1, 1) := by decide +kernel
theorem d_TP_day_6 : decode prog_1_method_11_code 6 = .ok (.bipush 60, 2) := by decide +kernel
theorem d_TP_day_8 : decode prog_1_method_11_code 8 = .ok (.if_icmp .gt 21, 3) := by decide +kernel
theorem d_TP_day_11 : decode prog_1_method_11_code 11 = .ok (.aload_n 0, 1) := by decide +kernel
theorem d_TP_day_12 : decode prog_1_method_11_code 12 = .ok (.getfield 10, 3) := by decide +kernel
theorem d_TP_day_15 : decode prog_1_method_11_code 15 = .ok (.getfield 128, 3) := by decide +kernel
theorem d_TP_day_18 : decode prog_1_method_11_code 18 = .ok (.getfield 137, 3) := by decide +kernel
theorem d_TP_day_21 : decode prog_1_method_11_code 21 = .ok (.iload_n 1, 1) := by decide +kernel
theorem d_TP_day_22 : decode prog_1_method_11_code 22 = .ok (.iadd, 1) := by decide +kernel
theorem d_TP_day_23 : decode prog_1_method_11_code 23 = .ok (.sipush 9999, 3) := by decide +kernel
theorem d_TP_day_26 : decode prog_1_method_11_code 26 = .ok (.if_icmp .le 5, 3) := by decide +kernel
theorem d_TP_day_29 : decode prog_1_method_11_code 29 = .ok (.iconst (-1), 1) := by decide +kernel
theorem d_TP_day_30 : decode prog_1_method_11_code 30 = .ok (.ireturn, 1) := by decide +kernel
theorem d_TP_day_31 : decode prog_1_method_11_code 31 = .ok (.aload_n 0, 1) := by decide +kernel
theorem d_TP_day_32 : decode prog_1_method_11_code 32 = .ok (.getfield 40, 3) := by decide +kernel
theorem d_TP_day_35 : decode prog_1_method_11_code 35 = .ok (.iload_n 1, 1) := by decide +kernel
theorem d_TP_day_36 : decode prog_1_method_11_code 36 = .ok (.invokevirtual 140, 3) := by decide +kernel
theorem d_TP_day_39 : decode prog_1_method_11_code 39 = .ok (.pop, 1) := by decide +kernel
theorem d_TP_day_40 : decode prog_1_method_11_code 40 = .ok (.aload_n 0, 1) := by decide +kernel
theorem d_TP_day_41 : decode prog_1_method_11_code 41 = .ok (.getfield 10, 3) := by decide +kernel
theorem d_TP_day_44 : decode prog_1_method_11_code 44 = .ok (.getfield 128, 3) := by decide +kernel
theorem d_TP_day_47 : decode prog_1_method_11_code 47 = .ok (.getfield 131, 3) := by decide +kernel
theorem d_TP_day_50 : decode prog_1_method_11_code 50 = .ok (.ireturn, 1) := by decide +kernel
theorem d_Ro_passByHand_0 : decode prog_7_method_4_code 0 = .ok (.iconst 0, 1) := by decide +kernel
theorem d_Ro_passByHand_1 : decode prog_7_method_4_code 1 = .ok (.istore_n 2, 1) := by decide +kernel
theorem d_Ro_passByHand_2 : decode prog_7_method_4_code 2 = .ok (.iload_n 2, 1) := by decide +kernel
theorem d_Ro_passByHand_3 : decode prog_7_method_4_code 3 = .ok (.iload_n 1, 1) := by decide +kernel
theorem d_Ro_passByHand_4 : decode prog_7_method_4_code 4 = .ok (.if_icmp .ge 52, 3) := by decide +kernel
theorem d_Ro_passByHand_7 : decode prog_7_method_4_code 7 = .ok (.aload_n 0, 1) := by decide +kernel
theorem d_Ro_passByHand_8 : decode prog_7_method_4_code 8 = .ok (.getfield 15, 3) := by decide +kernel
theorem d_Ro_passByHand_11 : decode prog_7_method_4_code 11 = .ok (.getfield 93, 3) := by decide +kernel
theorem d_Ro_passByHand_14 : decode prog_7_method_4_code 14 = .ok (.invokevirtual 85, 3) := by decide +kernel
theorem d_Ro_passByHand_17 : decode prog_7_method_4_code 17 = .ok (.ifCond .ne 5, 3) := by decide +kernel
theorem d_Ro_passByHand_20 : decode prog_7_method_4_code 20 = .ok (.iconst 0, 1) := by decide +kernel
theorem d_Ro_passByHand_21 : decode prog_7_method_4_code 21 = .ok (.ireturn, 1) := by decide +kernel
theorem d_Ro_passByHand_22 : decode prog_7_method_4_code 22 = .ok (.aload_n 0, 1) := by decide +kernel
theorem d_Ro_passByHand_23 : decode prog_7_method_4_code 23 = .ok (.getfield 15, 3) := by decide +kernel
theorem d_Ro_passByHand_26 : decode prog_7_method_4_code 26 = .ok (.invokevirtual 97, 3) := by decide +kernel
theorem d_Ro_passByHand_29 : decode prog_7_method_4_code 29 = .ok (.aload_n 0, 1) := by decide +kernel
theorem d_Ro_passByHand_30 : decode prog_7_method_4_code 30 = .ok (.aload_n 0, 1) := by decide +kernel
theorem d_Ro_passByHand_31 : decode prog_7_method_4_code 31 = .ok (.getfield 15, 3) := by decide +kernel
theorem d_Ro_passByHand_34 : decode prog_7_method_4_code 34 = .ok (.getfield 93, 3) := by decide +kernel
theorem d_Ro_passByHand_37 : decode prog_7_method_4_code 37 = .ok (.aload_n 0, 1) := by decide +kernel
theorem d_Ro_passByHand_38 : decode prog_7_method_4_code 38 = .ok (.getfield 15, 3) := by decide +kernel
theorem d_Ro_passByHand_41 : decode prog_7_method_4_code 41 = .ok (.getfield 93, 3) := by decide +kernel
theorem d_Ro_passByHand_44 : decode prog_7_method_4_code 44 = .ok (.getfield 75, 3) := by decide +kernel
theorem d_Ro_passByHand_47 : decode prog_7_method_4_code 47 = .ok (.invokevirtual 89, 3) := by decide +kernel
theorem d_Ro_passByHand_50 : decode prog_7_method_4_code 50 = .ok (.iinc 2 1, 3) := by decide +kernel
theorem d_Ro_passByHand_53 : decode prog_7_method_4_code 53 = .ok (.goto (-51), 3) := by decide +kernel
theorem d_Ro_passByHand_56 : decode prog_7_method_4_code 56 = .ok (.iconst 1, 1) := by decide +kernel
theorem d_Ro_passByHand_57 : decode prog_7_method_4_code 57 = .ok (.ireturn, 1) := by decide +kernel
theorem d_TP_played_0 : decode prog_1_method_12_code 0 = .ok (.aload_n 0, 1) := by decide +kernel
theorem d_TP_played_1 : decode prog_1_method_12_code 1 = .ok (.getfield 10, 3) := by decide +kernel
theorem d_TP_played_4 : decode prog_1_method_12_code 4 = .ok (.iload_n 1, 1) := by decide +kernel
theorem d_TP_played_5 : decode prog_1_method_12_code 5 = .ok (.invokevirtual 117, 3) := by decide +kernel
theorem d_TP_played_8 : decode prog_1_method_12_code 8 = .ok (.astore_n 2, 1) := by decide +kernel
theorem d_TP_played_9 : decode prog_1_method_12_code 9 = .ok (.aload_n 2, 1) := by decide +kernel
theorem d_TP_played_10 : decode prog_1_method_12_code 10 = .ok (.ifnonnull 6, 3) := by decide +kernel
theorem d_TP_played_13 : decode prog_1_method_12_code 13 = .ok (.bipush (-2), 2) := by decide +kernel
theorem d_TP_played_15 : decode prog_1_method_12_code 15 = .ok (.ireturn, 1) := by decide +kernel
theorem d_TP_played_16 : decode prog_1_method_12_code 16 = .ok (.iconst 0, 1) := by decide +kernel
theorem d_TP_played_17 : decode prog_1_method_12_code 17 = .ok (.istore_n 3, 1) := by decide +kernel
theorem d_TP_played_18 : decode prog_1_method_12_code 18 = .ok (.iload_n 3, 1) := by decide +kernel
theorem d_TP_played_19 : decode prog_1_method_12_code 19 = .ok (.aload_n 2, 1) := by decide +kernel
theorem d_TP_played_20 : decode prog_1_method_12_code 20 = .ok (.getfield 143, 3) := by decide +kernel
theorem d_TP_played_23 : decode prog_1_method_12_code 23 = .ok (.arraylength, 1) := by decide +kernel
theorem d_TP_played_24 : decode prog_1_method_12_code 24 = .ok (.if_icmp .ge 23, 3) := by decide +kernel
theorem d_TP_played_27 : decode prog_1_method_12_code 27 = .ok (.aload_n 0, 1) := by decide +kernel
theorem d_TP_played_28 : decode prog_1_method_12_code 28 = .ok (.getfield 40, 3) := by decide +kernel
theorem d_TP_played_31 : decode prog_1_method_12_code 31 = .ok (.aload_n 2, 1) := by decide +kernel
theorem d_TP_played_32 : decode prog_1_method_12_code 32 = .ok (.iload_n 3, 1) := by decide +kernel
theorem d_TP_played_33 : decode prog_1_method_12_code 33 = .ok (.invokevirtual 148, 3) := by decide +kernel
theorem d_TP_played_36 : decode prog_1_method_12_code 36 = .ok (.ifCond .ne 5, 3) := by decide +kernel
theorem d_TP_played_39 : decode prog_1_method_12_code 39 = .ok (.iload_n 3, 1) := by decide +kernel
theorem d_TP_played_40 : decode prog_1_method_12_code 40 = .ok (.ireturn, 1) := by decide +kernel
theorem d_TP_played_41 : decode prog_1_method_12_code 41 = .ok (.iinc 3 1, 3) := by decide +kernel
theorem d_TP_played_44 : decode prog_1_method_12_code 44 = .ok (.goto (-26), 3) := by decide +kernel
theorem d_TP_played_47 : decode prog_1_method_12_code 47 = .ok (.iconst (-1), 1) := by decide +kernel
theorem d_TP_played_48 : decode prog_1_method_12_code 48 = .ok (.ireturn, 1) := by decide +kernel
theorem d_Ro_playClause_0 : decode prog_7_method_8_code 0 = .ok (.aload_n 1, 1) := by decide +kernel
theorem d_Ro_playClause_1 : decode prog_7_method_8_code 1 = .ok (.getfield 112, 3) := by decide +kernel
theorem d_Ro_playClause_4 : decode prog_7_method_8_code 4 = .ok (.iload_n 2, 1) := by decide +kernel
theorem d_Ro_playClause_5 : decode prog_7_method_8_code 5 = .ok (.invokestatic 52, 3) := by decide +kernel
theorem d_Ro_playClause_8 : decode prog_7_method_8_code 8 = .ok (.istore_n 3, 1) := by decide +kernel
theorem d_Ro_playClause_9 : decode prog_7_method_8_code 9 = .ok (.aload_n 1, 1) := by decide +kernel
theorem d_Ro_playClause_10 : decode prog_7_method_8_code 10 = .ok (.getfield 117, 3) := by decide +kernel
theorem d_Ro_playClause_13 : decode prog_7_method_8_code 13 = .ok (.iload_n 2, 1) := by decide +kernel
theorem d_Ro_playClause_14 : decode prog_7_method_8_code 14 = .ok (.invokestatic 52, 3) := by decide +kernel
theorem d_Ro_playClause_17 : decode prog_7_method_8_code 17 = .ok (.istore 4, 2) := by decide +kernel
theorem d_Ro_playClause_19 : decode prog_7_method_8_code 19 = .ok (.aload_n 1, 1) := by decide +kernel
theorem d_Ro_playClause_20 : decode prog_7_method_8_code 20 = .ok (.getfield 120, 3) := by decide +kernel
theorem d_Ro_playClause_23 : decode prog_7_method_8_code 23 = .ok (.iload_n 2, 1) := by decide +kernel
theorem d_Ro_playClause_24 : decode prog_7_method_8_code 24 = .ok (.invokestatic 52, 3) := by decide +kernel
theorem d_Ro_playClause_27 : decode prog_7_method_8_code 27 = .ok (.tableswitch 102 2 9 #[45, 102, 65, 102, 76, 82, 89, 96], 45) := by decide +kernel
theorem d_Ro_playClause_72 : decode prog_7_method_8_code 72 = .ok (.aload_n 0, 1) := by decide +kernel
theorem d_Ro_playClause_73 : decode prog_7_method_8_code 73 = .ok (.getfield 15, 3) := by decide +kernel
theorem d_Ro_playClause_76 : decode prog_7_method_8_code 76 = .ok (.iload_n 3, 1) := by decide +kernel
theorem d_Ro_playClause_77 : decode prog_7_method_8_code 77 = .ok (.iload 4, 2) := by decide +kernel
theorem d_Ro_playClause_79 : decode prog_7_method_8_code 79 = .ok (.invokevirtual 123, 3) := by decide +kernel
theorem d_Ro_playClause_82 : decode prog_7_method_8_code 82 = .ok (.iconst (-1), 1) := by decide +kernel
theorem d_Ro_playClause_83 : decode prog_7_method_8_code 83 = .ok (.if_icmp .eq 7, 3) := by decide +kernel
theorem d_Ro_playClause_86 : decode prog_7_method_8_code 86 = .ok (.iconst 1, 1) := by decide +kernel
theorem d_Ro_playClause_87 : decode prog_7_method_8_code 87 = .ok (.goto 4, 3) := by decide +kernel
theorem d_Ro_playClause_90 : decode prog_7_method_8_code 90 = .ok (.iconst 0, 1) := by decide +kernel
theorem d_Ro_playClause_91 : decode prog_7_method_8_code 91 = .ok (.ireturn, 1) := by decide +kernel
theorem d_Ro_playClause_92 : decode prog_7_method_8_code 92 = .ok (.aload_n 0, 1) := by decide +kernel
theorem d_Ro_playClause_93 : decode prog_7_method_8_code 93 = .ok (.getfield 15, 3) := by decide +kernel
theorem d_Ro_playClause_96 : decode prog_7_method_8_code 96 = .ok (.iload_n 3, 1) := by decide +kernel
theorem d_Ro_playClause_97 : decode prog_7_method_8_code 97 = .ok (.iload 4, 2) := by decide +kernel
theorem d_Ro_playClause_99 : decode prog_7_method_8_code 99 = .ok (.invokevirtual 127, 3) := by decide +kernel
theorem d_Ro_playClause_102 : decode prog_7_method_8_code 102 = .ok (.ireturn, 1) := by decide +kernel
theorem d_Ro_playClause_103 : decode prog_7_method_8_code 103 = .ok (.aload_n 0, 1) := by decide +kernel
theorem d_Ro_playClause_104 : decode prog_7_method_8_code 104 = .ok (.iload_n 3, 1) := by decide +kernel
theorem d_Ro_playClause_105 : decode prog_7_method_8_code 105 = .ok (.invokevirtual 130, 3) := by decide +kernel
theorem d_Ro_playClause_108 : decode prog_7_method_8_code 108 = .ok (.ireturn, 1) := by decide +kernel
theorem d_Ro_playClause_109 : decode prog_7_method_8_code 109 = .ok (.aload_n 0, 1) := by decide +kernel
theorem d_Ro_playClause_110 : decode prog_7_method_8_code 110 = .ok (.iload_n 3, 1) := by decide +kernel
theorem d_Ro_playClause_111 : decode prog_7_method_8_code 111 = .ok (.iconst 1, 1) := by decide +kernel
theorem d_Ro_playClause_112 : decode prog_7_method_8_code 112 = .ok (.invokevirtual 133, 3) := by decide +kernel
theorem d_Ro_playClause_115 : decode prog_7_method_8_code 115 = .ok (.ireturn, 1) := by decide +kernel
theorem d_Ro_playClause_116 : decode prog_7_method_8_code 116 = .ok (.aload_n 0, 1) := by decide +kernel
theorem d_Ro_playClause_117 : decode prog_7_method_8_code 117 = .ok (.iload_n 3, 1) := by decide +kernel
theorem d_Ro_playClause_118 : decode prog_7_method_8_code 118 = .ok (.iconst (-1), 1) := by decide +kernel
theorem d_Ro_playClause_119 : decode prog_7_method_8_code 119 = .ok (.invokevirtual 133, 3) := by decide +kernel
theorem d_Ro_playClause_122 : decode prog_7_method_8_code 122 = .ok (.ireturn, 1) := by decide +kernel
theorem d_Ro_playClause_123 : decode prog_7_method_8_code 123 = .ok (.aload_n 0, 1) := by decide +kernel
theorem d_Ro_playClause_124 : decode prog_7_method_8_code 124 = .ok (.iload_n 3, 1) := by decide +kernel
theorem d_Ro_playClause_125 : decode prog_7_method_8_code 125 = .ok (.invokevirtual 136, 3) := by decide +kernel
theorem d_Ro_playClause_128 : decode prog_7_method_8_code 128 = .ok (.ireturn, 1) := by decide +kernel
theorem d_Ro_playClause_129 : decode prog_7_method_8_code 129 = .ok (.iconst 1, 1) := by decide +kernel
theorem d_Ro_playClause_130 : decode prog_7_method_8_code 130 = .ok (.ireturn, 1) := by decide +kernel
theorem d_TP_years_0 : decode prog_1_method_13_code 0 = .ok (.iload_n 1, 1) := by decide +kernel
theorem d_TP_years_1 : decode prog_1_method_13_code 1 = .ok (.ifCond .lt 21, 3) := by decide +kernel
theorem d_TP_years_4 : decode prog_1_method_13_code 4 = .ok (.iload_n 1, 1) := by decide +kernel
theorem d_TP_years_5 : decode prog_1_method_13_code 5 = .ok (.sipush 9999, 3) := by decide +kernel
theorem d_TP_years_8 : decode prog_1_method_13_code 8 = .ok (.if_icmp .gt 14, 3) := by decide +kernel
theorem d_TP_years_11 : decode prog_1_method_13_code 11 = .ok (.iload_n 2, 1) := by decide +kernel
theorem d_TP_years_12 : decode prog_1_method_13_code 12 = .ok (.iconst 1, 1) := by decide +kernel
theorem d_TP_years_13 : decode prog_1_method_13_code 13 = .ok (.if_icmp .lt 9, 3) := by decide +kernel
theorem d_TP_years_16 : decode prog_1_method_13_code 16 = .ok (.iload_n 2, 1) := by decide +kernel
theorem d_TP_years_17 : decode prog_1_method_13_code 17 = .ok (.bipush 40, 2) := by decide +kernel
theorem d_TP_years_19 : decode prog_1_method_13_code 19 = .ok (.if_icmp .le 5, 3) := by decide +kernel
theorem d_TP_years_22 : decode prog_1_method_13_code 22 = .ok (.iconst (-1), 1) := by decide +kernel
theorem d_TP_years_23 : decode prog_1_method_13_code 23 = .ok (.ireturn, 1) := by decide +kernel
theorem d_TP_years_24 : decode prog_1_method_13_code 24 = .ok (.aload_n 0, 1) := by decide +kernel
theorem d_TP_years_25 : decode prog_1_method_13_code 25 = .ok (.getfield 40, 3) := by decide +kernel
theorem d_TP_years_28 : decode prog_1_method_13_code 28 = .ok (.iload_n 1, 1) := by decide +kernel
theorem d_TP_years_29 : decode prog_1_method_13_code 29 = .ok (.iload_n 2, 1) := by decide +kernel
theorem d_TP_years_30 : decode prog_1_method_13_code 30 = .ok (.invokevirtual 152, 3) := by decide +kernel
theorem d_TP_years_33 : decode prog_1_method_13_code 33 = .ok (.aload_n 0, 1) := by decide +kernel
theorem d_TP_years_34 : decode prog_1_method_13_code 34 = .ok (.getfield 10, 3) := by decide +kernel
theorem d_TP_years_37 : decode prog_1_method_13_code 37 = .ok (.getfield 128, 3) := by decide +kernel
theorem d_TP_years_40 : decode prog_1_method_13_code 40 = .ok (.getfield 137, 3) := by decide +kernel
theorem d_TP_years_43 : decode prog_1_method_13_code 43 = .ok (.ireturn, 1) := by decide +kernel
theorem d_Ro_passYears_0 : decode prog_7_method_9_code 0 = .ok (.aload_n 0, 1) := by decide +kernel
theorem d_Ro_passYears_1 : decode prog_7_method_9_code 1 = .ok (.getfield 15, 3) := by decide +kernel
theorem d_Ro_passYears_4 : decode prog_7_method_9_code 4 = .ok (.invokevirtual 97, 3) := by decide +kernel
theorem d_Ro_passYears_7 : decode prog_7_method_9_code 7 = .ok (.aload_n 0, 1) := by decide +kernel
theorem d_Ro_passYears_8 : decode prog_7_method_9_code 8 = .ok (.getfield 15, 3) := by decide +kernel
theorem d_Ro_passYears_11 : decode prog_7_method_9_code 11 = .ok (.getfield 93, 3) := by decide +kernel
theorem d_Ro_passYears_14 : decode prog_7_method_9_code 14 = .ok (.iload_n 1, 1) := by decide +kernel
theorem d_Ro_passYears_15 : decode prog_7_method_9_code 15 = .ok (.iconst 2, 1) := by decide +kernel
theorem d_Ro_passYears_16 : decode prog_7_method_9_code 16 = .ok (.imul, 1) := by decide +kernel
theorem d_Ro_passYears_17 : decode prog_7_method_9_code 17 = .ok (.sipush 449, 3) := by decide +kernel
theorem d_Ro_passYears_20 : decode prog_7_method_9_code 20 = .ok (.iadd, 1) := by decide +kernel
theorem d_Ro_passYears_21 : decode prog_7_method_9_code 21 = .ok (.putfield 139, 3) := by decide +kernel
theorem d_Ro_passYears_24 : decode prog_7_method_9_code 24 = .ok (.iconst 0, 1) := by decide +kernel
theorem d_Ro_passYears_25 : decode prog_7_method_9_code 25 = .ok (.istore_n 3, 1) := by decide +kernel
theorem d_Ro_passYears_26 : decode prog_7_method_9_code 26 = .ok (.iload_n 3, 1) := by decide +kernel
theorem d_Ro_passYears_27 : decode prog_7_method_9_code 27 = .ok (.iload_n 2, 1) := by decide +kernel
theorem d_Ro_passYears_28 : decode prog_7_method_9_code 28 = .ok (.if_icmp .ge 20, 3) := by decide +kernel
theorem d_Ro_passYears_31 : decode prog_7_method_9_code 31 = .ok (.aload_n 0, 1) := by decide +kernel
theorem d_Ro_passYears_32 : decode prog_7_method_9_code 32 = .ok (.aload_n 0, 1) := by decide +kernel
theorem d_Ro_passYears_33 : decode prog_7_method_9_code 33 = .ok (.getfield 15, 3) := by decide +kernel
theorem d_Ro_passYears_36 : decode prog_7_method_9_code 36 = .ok (.getfield 93, 3) := by decide +kernel
theorem d_Ro_passYears_39 : decode prog_7_method_9_code 39 = .ok (.invokevirtual 142, 3) := by decide +kernel
theorem d_Ro_passYears_42 : decode prog_7_method_9_code 42 = .ok (.iinc 3 1, 3) := by decide +kernel
theorem d_Ro_passYears_45 : decode prog_7_method_9_code 45 = .ok (.goto (-19), 3) := by decide +kernel
theorem d_Ro_passYears_48 : decode prog_7_method_9_code 48 = .ok (.return_, 1) := by decide +kernel
theorem d_Ro_passYear_0 : decode prog_7_method_10_code 0 = .ok (.aload_n 1, 1) := by decide +kernel
theorem d_Ro_passYear_1 : decode prog_7_method_10_code 1 = .ok (.invokevirtual 41, 3) := by decide +kernel
theorem d_Ro_passYear_4 : decode prog_7_method_10_code 4 = .ok (.istore_n 2, 1) := by decide +kernel
theorem d_Ro_passYear_5 : decode prog_7_method_10_code 5 = .ok (.iload_n 2, 1) := by decide +kernel
theorem d_Ro_passYear_6 : decode prog_7_method_10_code 6 = .ok (.bipush 6, 2) := by decide +kernel
theorem d_Ro_passYear_8 : decode prog_7_method_10_code 8 = .ok (.irem, 1) := by decide +kernel
theorem d_Ro_passYear_9 : decode prog_7_method_10_code 9 = .ok (.istore_n 3, 1) := by decide +kernel
theorem d_Ro_passYear_10 : decode prog_7_method_10_code 10 = .ok (.iload_n 3, 1) := by decide +kernel
theorem d_Ro_passYear_11 : decode prog_7_method_10_code 11 = .ok (.iconst 2, 1) := by decide +kernel
theorem d_Ro_passYear_12 : decode prog_7_method_10_code 12 = .ok (.if_icmp .ne 13, 3) := by decide +kernel
theorem d_Ro_passYear_15 : decode prog_7_method_10_code 15 = .ok (.iload_n 2, 1) := by decide +kernel
theorem d_Ro_passYear_16 : decode prog_7_method_10_code 16 = .ok (.bipush 6, 2) := by decide +kernel
theorem d_Ro_passYear_18 : decode prog_7_method_10_code 18 = .ok (.idiv, 1) := by decide +kernel
theorem d_Ro_passYear_19 : decode prog_7_method_10_code 19 = .ok (.bipush 9, 2) := by decide +kernel
theorem d_Ro_passYear_21 : decode prog_7_method_10_code 21 = .ok (.irem, 1) := by decide +kernel
theorem d_Ro_passYear_22 : decode prog_7_method_10_code 22 = .ok (.goto 7, 3) := by decide +kernel
theorem d_Ro_passYear_25 : decode prog_7_method_10_code 25 = .ok (.aload_n 1, 1) := by decide +kernel
theorem d_Ro_passYear_26 : decode prog_7_method_10_code 26 = .ok (.getfield 75, 3) := by decide +kernel
theorem d_Ro_passYear_29 : decode prog_7_method_10_code 29 = .ok (.istore 4, 2) := by decide +kernel
theorem d_Ro_passYear_31 : decode prog_7_method_10_code 31 = .ok (.iload_n 3, 1) := by decide +kernel
theorem d_Ro_passYear_32 : decode prog_7_method_10_code 32 = .ok (.iconst 2, 1) := by decide +kernel
theorem d_Ro_passYear_33 : decode prog_7_method_10_code 33 = .ok (.if_icmp .ge 45, 3) := by decide +kernel
theorem d_Ro_passYear_36 : decode prog_7_method_10_code 36 = .ok (.iload_n 2, 1) := by decide +kernel
theorem d_Ro_passYear_37 : decode prog_7_method_10_code 37 = .ok (.bipush 6, 2) := by decide +kernel
theorem d_Ro_passYear_39 : decode prog_7_method_10_code 39 = .ok (.idiv, 1) := by decide +kernel
theorem d_Ro_passYear_40 : decode prog_7_method_10_code 40 = .ok (.bipush 8, 2) := by decide +kernel
theorem d_Ro_passYear_42 : decode prog_7_method_10_code 42 = .ok (.irem, 1) := by decide +kernel
theorem d_Ro_passYear_43 : decode prog_7_method_10_code 43 = .ok (.istore 5, 2) := by decide +kernel
theorem d_Ro_passYear_45 : decode prog_7_method_10_code 45 = .ok (.iload_n 3, 1) := by decide +kernel
theorem d_Ro_passYear_46 : decode prog_7_method_10_code 46 = .ok (.ifCond .ne 7, 3) := by decide +kernel
theorem d_Ro_passYear_49 : decode prog_7_method_10_code 49 = .ok (.iconst 1, 1) := by decide +kernel
theorem d_Ro_passYear_50 : decode prog_7_method_10_code 50 = .ok (.goto 4, 3) := by decide +kernel
theorem d_Ro_passYear_53 : decode prog_7_method_10_code 53 = .ok (.iconst (-1), 1) := by decide +kernel
theorem d_Ro_passYear_54 : decode prog_7_method_10_code 54 = .ok (.istore 6, 2) := by decide +kernel
theorem d_Ro_passYear_56 : decode prog_7_method_10_code 56 = .ok (.aload_n 1, 1) := by decide +kernel
theorem d_Ro_passYear_57 : decode prog_7_method_10_code 57 = .ok (.iload 5, 2) := by decide +kernel
theorem d_Ro_passYear_59 : decode prog_7_method_10_code 59 = .ok (.iload 6, 2) := by decide +kernel
theorem d_Ro_passYear_61 : decode prog_7_method_10_code 61 = .ok (.invokevirtual 104, 3) := by decide +kernel
theorem d_Ro_passYear_64 : decode prog_7_method_10_code 64 = .ok (.ifCond .eq 11, 3) := by decide +kernel
theorem d_Ro_passYear_67 : decode prog_7_method_10_code 67 = .ok (.aload_n 0, 1) := by decide +kernel
theorem d_Ro_passYear_68 : decode prog_7_method_10_code 68 = .ok (.iload 5, 2) := by decide +kernel
theorem d_Ro_passYear_70 : decode prog_7_method_10_code 70 = .ok (.iload 6, 2) := by decide +kernel
theorem d_Ro_passYear_72 : decode prog_7_method_10_code 72 = .ok (.invokevirtual 108, 3) := by decide +kernel
theorem d_Ro_passYear_75 : decode prog_7_method_10_code 75 = .ok (.goto 31, 3) := by decide +kernel
theorem d_Ro_passYear_78 : decode prog_7_method_10_code 78 = .ok (.iload_n 3, 1) := by decide +kernel
theorem d_Ro_passYear_79 : decode prog_7_method_10_code 79 = .ok (.iconst 2, 1) := by decide +kernel
theorem d_Ro_passYear_80 : decode prog_7_method_10_code 80 = .ok (.if_icmp .gt 10, 3) := by decide +kernel
theorem d_Ro_passYear_83 : decode prog_7_method_10_code 83 = .ok (.iload_n 2, 1) := by decide +kernel
theorem d_Ro_passYear_84 : decode prog_7_method_10_code 84 = .ok (.iconst 4, 1) := by decide +kernel
theorem d_Ro_passYear_85 : decode prog_7_method_10_code 85 = .ok (.irem, 1) := by decide +kernel
theorem d_Ro_passYear_86 : decode prog_7_method_10_code 86 = .ok (.iconst 2, 1) := by decide +kernel
theorem d_Ro_passYear_87 : decode prog_7_method_10_code 87 = .ok (.if_icmp .ne 19, 3) := by decide +kernel
theorem d_Ro_passYear_90 : decode prog_7_method_10_code 90 = .ok (.aload_n 1, 1) := by decide +kernel
theorem d_Ro_passYear_91 : decode prog_7_method_10_code 91 = .ok (.iload 4, 2) := by decide +kernel
theorem d_Ro_passYear_93 : decode prog_7_method_10_code 93 = .ok (.invokevirtual 100, 3) := by decide +kernel
theorem d_Ro_passYear_96 : decode prog_7_method_10_code 96 = .ok (.ifCond .eq 10, 3) := by decide +kernel
theorem d_Ro_passYear_99 : decode prog_7_method_10_code 99 = .ok (.aload_n 0, 1) := by decide +kernel
theorem d_Ro_passYear_100 : decode prog_7_method_10_code 100 = .ok (.aload_n 1, 1) := by decide +kernel
theorem d_Ro_passYear_101 : decode prog_7_method_10_code 101 = .ok (.iload 4, 2) := by decide +kernel
theorem d_Ro_passYear_103 : decode prog_7_method_10_code 103 = .ok (.invokevirtual 89, 3) := by decide +kernel
theorem d_Ro_passYear_106 : decode prog_7_method_10_code 106 = .ok (.return_, 1) := by decide +kernel
theorem d_TP_undo_0 : decode prog_1_method_14_code 0 = .ok (.aload_n 0, 1) := by decide +kernel
theorem d_TP_undo_1 : decode prog_1_method_14_code 1 = .ok (.getfield 10, 3) := by decide +kernel
theorem d_TP_undo_4 : decode prog_1_method_14_code 4 = .ok (.invokevirtual 156, 3) := by decide +kernel
theorem d_TP_undo_7 : decode prog_1_method_14_code 7 = .ok (.ifCond .eq 13, 3) := by decide +kernel
theorem d_TP_undo_10 : decode prog_1_method_14_code 10 = .ok (.aload_n 0, 1) := by decide +kernel
theorem d_TP_undo_11 : decode prog_1_method_14_code 11 = .ok (.getfield 10, 3) := by decide +kernel
theorem d_TP_undo_14 : decode prog_1_method_14_code 14 = .ok (.getfield 160, 3) := by decide +kernel
theorem d_TP_undo_17 : decode prog_1_method_14_code 17 = .ok (.goto 4, 3) := by decide +kernel
theorem d_TP_undo_20 : decode prog_1_method_14_code 20 = .ok (.iconst (-1), 1) := by decide +kernel
theorem d_TP_undo_21 : decode prog_1_method_14_code 21 = .ok (.ireturn, 1) := by decide +kernel
theorem d_TP_of_0 : decode prog_1_method_15_code 0 = .ok (.aload_n 0, 1) := by decide +kernel
theorem d_TP_of_1 : decode prog_1_method_15_code 1 = .ok (.getfield 10, 3) := by decide +kernel
theorem d_TP_of_4 : decode prog_1_method_15_code 4 = .ok (.getfield 128, 3) := by decide +kernel
theorem d_TP_of_7 : decode prog_1_method_15_code 7 = .ok (.astore_n 3, 1) := by decide +kernel
theorem d_TP_of_8 : decode prog_1_method_15_code 8 = .ok (.aload_n 3, 1) := by decide +kernel
theorem d_TP_of_9 : decode prog_1_method_15_code 9 = .ok (.iload_n 1, 1) := by decide +kernel
theorem d_TP_of_10 : decode prog_1_method_15_code 10 = .ok (.invokevirtual 163, 3) := by decide +kernel
theorem d_TP_of_13 : decode prog_1_method_15_code 13 = .ok (.ifCond .ne 6, 3) := by decide +kernel
theorem d_TP_of_16 : decode prog_1_method_15_code 16 = .ok (.bipush (-10), 2) := by decide +kernel
theorem d_TP_of_18 : decode prog_1_method_15_code 18 = .ok (.ireturn, 1) := by decide +kernel
theorem d_TP_of_19 : decode prog_1_method_15_code 19 = .ok (.iload_n 2, 1) := by decide +kernel
theorem d_TP_of_20 : decode prog_1_method_15_code 20 = .ok (.tableswitch 112 0 5 #[40, 49, 61, 73, 82, 97], 40) := by decide +kernel
theorem d_TP_of_60 : decode prog_1_method_15_code 60 = .ok (.aload_n 3, 1) := by decide +kernel
theorem d_TP_of_61 : decode prog_1_method_15_code 61 = .ok (.getfield 166, 3) := by decide +kernel
theorem d_TP_of_64 : decode prog_1_method_15_code 64 = .ok (.iload_n 1, 1) := by decide +kernel
theorem d_TP_of_65 : decode prog_1_method_15_code 65 = .ok (.invokestatic 169, 3) := by decide +kernel
theorem d_TP_of_68 : decode prog_1_method_15_code 68 = .ok (.ireturn, 1) := by decide +kernel
theorem d_TP_of_69 : decode prog_1_method_15_code 69 = .ok (.aload_n 0, 1) := by decide +kernel
theorem d_TP_of_70 : decode prog_1_method_15_code 70 = .ok (.getfield 10, 3) := by decide +kernel
theorem d_TP_of_73 : decode prog_1_method_15_code 73 = .ok (.getfield 173, 3) := by decide +kernel
theorem d_TP_of_76 : decode prog_1_method_15_code 76 = .ok (.iload_n 1, 1) := by decide +kernel
theorem d_TP_of_77 : decode prog_1_method_15_code 77 = .ok (.invokestatic 169, 3) := by decide +kernel
theorem d_TP_of_80 : decode prog_1_method_15_code 80 = .ok (.ireturn, 1) := by decide +kernel
theorem d_TP_of_81 : decode prog_1_method_15_code 81 = .ok (.aload_n 0, 1) := by decide +kernel
theorem d_TP_of_82 : decode prog_1_method_15_code 82 = .ok (.getfield 10, 3) := by decide +kernel
theorem d_TP_of_85 : decode prog_1_method_15_code 85 = .ok (.getfield 176, 3) := by decide +kernel
theorem d_TP_of_88 : decode prog_1_method_15_code 88 = .ok (.iload_n 1, 1) := by decide +kernel
theorem d_TP_of_89 : decode prog_1_method_15_code 89 = .ok (.invokestatic 169, 3) := by decide +kernel
theorem d_TP_of_92 : decode prog_1_method_15_code 92 = .ok (.ireturn, 1) := by decide +kernel
theorem d_TP_of_93 : decode prog_1_method_15_code 93 = .ok (.aload_n 3, 1) := by decide +kernel
theorem d_TP_of_94 : decode prog_1_method_15_code 94 = .ok (.getfield 179, 3) := by decide +kernel
theorem d_TP_of_97 : decode prog_1_method_15_code 97 = .ok (.iload_n 1, 1) := by decide +kernel
theorem d_TP_of_98 : decode prog_1_method_15_code 98 = .ok (.ishr, 1) := by decide +kernel
theorem d_TP_of_99 : decode prog_1_method_15_code 99 = .ok (.iconst 1, 1) := by decide +kernel
theorem d_TP_of_100 : decode prog_1_method_15_code 100 = .ok (.iand, 1) := by decide +kernel
theorem d_TP_of_101 : decode prog_1_method_15_code 101 = .ok (.ireturn, 1) := by decide +kernel
theorem d_TP_of_102 : decode prog_1_method_15_code 102 = .ok (.aload_n 0, 1) := by decide +kernel
theorem d_TP_of_103 : decode prog_1_method_15_code 103 = .ok (.getfield 31, 3) := by decide +kernel
theorem d_TP_of_106 : decode prog_1_method_15_code 106 = .ok (.aload_n 3, 1) := by decide +kernel
theorem d_TP_of_107 : decode prog_1_method_15_code 107 = .ok (.iload_n 1, 1) := by decide +kernel
theorem d_TP_of_108 : decode prog_1_method_15_code 108 = .ok (.aload_n 3, 1) := by decide +kernel
theorem d_TP_of_109 : decode prog_1_method_15_code 109 = .ok (.getfield 131, 3) := by decide +kernel
theorem d_TP_of_112 : decode prog_1_method_15_code 112 = .ok (.iconst 1, 1) := by decide +kernel
theorem d_TP_of_113 : decode prog_1_method_15_code 113 = .ok (.invokevirtual 182, 3) := by decide +kernel
theorem d_TP_of_116 : decode prog_1_method_15_code 116 = .ok (.ireturn, 1) := by decide +kernel
theorem d_TP_of_117 : decode prog_1_method_15_code 117 = .ok (.aload_n 0, 1) := by decide +kernel
theorem d_TP_of_118 : decode prog_1_method_15_code 118 = .ok (.getfield 31, 3) := by decide +kernel
theorem d_TP_of_121 : decode prog_1_method_15_code 121 = .ok (.aload_n 3, 1) := by decide +kernel
theorem d_TP_of_122 : decode prog_1_method_15_code 122 = .ok (.iload_n 1, 1) := by decide +kernel
theorem d_TP_of_123 : decode prog_1_method_15_code 123 = .ok (.aload_n 3, 1) := by decide +kernel
theorem d_TP_of_124 : decode prog_1_method_15_code 124 = .ok (.getfield 131, 3) := by decide +kernel
theorem d_TP_of_127 : decode prog_1_method_15_code 127 = .ok (.iconst 0, 1) := by decide +kernel
theorem d_TP_of_128 : decode prog_1_method_15_code 128 = .ok (.invokevirtual 182, 3) := by decide +kernel
theorem d_TP_of_131 : decode prog_1_method_15_code 131 = .ok (.ireturn, 1) := by decide +kernel
theorem d_TP_of_132 : decode prog_1_method_15_code 132 = .ok (.bipush (-10), 2) := by decide +kernel
theorem d_TP_of_134 : decode prog_1_method_15_code 134 = .ok (.ireturn, 1) := by decide +kernel
theorem d_TP_says_0 : decode prog_1_method_16_code 0 = .ok (.aload_n 0, 1) := by decide +kernel
theorem d_TP_says_1 : decode prog_1_method_16_code 1 = .ok (.getfield 10, 3) := by decide +kernel
theorem d_TP_says_4 : decode prog_1_method_16_code 4 = .ok (.getfield 128, 3) := by decide +kernel
theorem d_TP_says_7 : decode prog_1_method_16_code 7 = .ok (.iload_n 1, 1) := by decide +kernel
theorem d_TP_says_8 : decode prog_1_method_16_code 8 = .ok (.invokevirtual 163, 3) := by decide +kernel
theorem d_TP_says_11 : decode prog_1_method_16_code 11 = .ok (.ifCond .eq 43, 3) := by decide +kernel
theorem d_TP_says_14 : decode prog_1_method_16_code 14 = .ok (.iload_n 2, 1) := by decide +kernel
theorem d_TP_says_15 : decode prog_1_method_16_code 15 = .ok (.ifCond .lt 39, 3) := by decide +kernel
theorem d_TP_says_18 : decode prog_1_method_16_code 18 = .ok (.iload_n 2, 1) := by decide +kernel
theorem d_TP_says_19 : decode prog_1_method_16_code 19 = .ok (.bipush 8, 2) := by decide +kernel
theorem d_TP_says_21 : decode prog_1_method_16_code 21 = .ok (.if_icmp .gt 33, 3) := by decide +kernel
theorem d_TP_says_24 : decode prog_1_method_16_code 24 = .ok (.aload_n 0, 1) := by decide +kernel
theorem d_TP_says_25 : decode prog_1_method_16_code 25 = .ok (.getfield 31, 3) := by decide +kernel
theorem d_TP_says_28 : decode prog_1_method_16_code 28 = .ok (.aload_n 0, 1) := by decide +kernel
theorem d_TP_says_29 : decode prog_1_method_16_code 29 = .ok (.getfield 10, 3) := by decide +kernel
theorem d_TP_says_32 : decode prog_1_method_16_code 32 = .ok (.getfield 128, 3) := by decide +kernel
theorem d_TP_says_35 : decode prog_1_method_16_code 35 = .ok (.aload_n 0, 1) := by decide +kernel
theorem d_TP_says_36 : decode prog_1_method_16_code 36 = .ok (.getfield 10, 3) := by decide +kernel
theorem d_TP_says_39 : decode prog_1_method_16_code 39 = .ok (.invokevirtual 186, 3) := by decide +kernel
theorem d_TP_says_42 : decode prog_1_method_16_code 42 = .ok (.iload_n 1, 1) := by decide +kernel
theorem d_TP_says_43 : decode prog_1_method_16_code 43 = .ok (.iload_n 2, 1) := by decide +kernel
theorem d_TP_says_44 : decode prog_1_method_16_code 44 = .ok (.invokevirtual 189, 3) := by decide +kernel
theorem d_TP_says_47 : decode prog_1_method_16_code 47 = .ok (.ifCond .eq 7, 3) := by decide +kernel
theorem d_TP_says_50 : decode prog_1_method_16_code 50 = .ok (.iconst 1, 1) := by decide +kernel
theorem d_TP_says_51 : decode prog_1_method_16_code 51 = .ok (.goto 4, 3) := by decide +kernel
theorem d_TP_says_54 : decode prog_1_method_16_code 54 = .ok (.iconst 0, 1) := by decide +kernel
theorem d_TP_says_55 : decode prog_1_method_16_code 55 = .ok (.ireturn, 1) := by decide +kernel
theorem d_TP_is_0 : decode prog_1_method_17_code 0 = .ok (.aload_n 0, 1) := by decide +kernel
theorem d_TP_is_1 : decode prog_1_method_17_code 1 = .ok (.getfield 10, 3) := by decide +kernel
theorem d_TP_is_4 : decode prog_1_method_17_code 4 = .ok (.getfield 128, 3) := by decide +kernel
theorem d_TP_is_7 : decode prog_1_method_17_code 7 = .ok (.astore_n 2, 1) := by decide +kernel
theorem d_TP_is_8 : decode prog_1_method_17_code 8 = .ok (.iload_n 1, 1) := by decide +kernel
theorem d_TP_is_9 : decode prog_1_method_17_code 9 = .ok (.tableswitch 60 0 4 #[35, 40, 45, 50, 55], 35) := by decide +kernel
theorem d_TP_is_44 : decode prog_1_method_17_code 44 = .ok (.aload_n 2, 1) := by decide +kernel
theorem d_TP_is_45 : decode prog_1_method_17_code 45 = .ok (.getfield 137, 3) := by decide +kernel
theorem d_TP_is_48 : decode prog_1_method_17_code 48 = .ok (.ireturn, 1) := by decide +kernel
theorem d_TP_is_49 : decode prog_1_method_17_code 49 = .ok (.aload_n 2, 1) := by decide +kernel
theorem d_TP_is_50 : decode prog_1_method_17_code 50 = .ok (.getfield 193, 3) := by decide +kernel
theorem d_TP_is_53 : decode prog_1_method_17_code 53 = .ok (.ireturn, 1) := by decide +kernel
theorem d_TP_is_54 : decode prog_1_method_17_code 54 = .ok (.aload_n 2, 1) := by decide +kernel
theorem d_TP_is_55 : decode prog_1_method_17_code 55 = .ok (.getfield 131, 3) := by decide +kernel
theorem d_TP_is_58 : decode prog_1_method_17_code 58 = .ok (.ireturn, 1) := by decide +kernel
theorem d_TP_is_59 : decode prog_1_method_17_code 59 = .ok (.aload_n 2, 1) := by decide +kernel
theorem d_TP_is_60 : decode prog_1_method_17_code 60 = .ok (.getfield 179, 3) := by decide +kernel
theorem d_TP_is_63 : decode prog_1_method_17_code 63 = .ok (.ireturn, 1) := by decide +kernel
theorem d_TP_is_64 : decode prog_1_method_17_code 64 = .ok (.aload_n 2, 1) := by decide +kernel
theorem d_TP_is_65 : decode prog_1_method_17_code 65 = .ok (.invokevirtual 196, 3) := by decide +kernel
theorem d_TP_is_68 : decode prog_1_method_17_code 68 = .ok (.ireturn, 1) := by decide +kernel
theorem d_TP_is_69 : decode prog_1_method_17_code 69 = .ok (.bipush (-2), 2) := by decide +kernel
theorem d_TP_is_71 : decode prog_1_method_17_code 71 = .ok (.ireturn, 1) := by decide +kernel
theorem d_TP_book_0 : decode prog_1_method_18_code 0 = .ok (.aload_n 0, 1) := by decide +kernel
theorem d_TP_book_1 : decode prog_1_method_18_code 1 = .ok (.getfield 10, 3) := by decide +kernel
theorem d_TP_book_4 : decode prog_1_method_18_code 4 = .ok (.getfield 128, 3) := by decide +kernel
theorem d_TP_book_7 : decode prog_1_method_18_code 7 = .ok (.astore_n 3, 1) := by decide +kernel
theorem d_TP_book_8 : decode prog_1_method_18_code 8 = .ok (.iload_n 1, 1) := by decide +kernel
theorem d_TP_book_9 : decode prog_1_method_18_code 9 = .ok (.iconst (-1), 1) := by decide +kernel
theorem d_TP_book_10 : decode prog_1_method_18_code 10 = .ok (.if_icmp .ne 8, 3) := by decide +kernel
theorem d_TP_book_13 : decode prog_1_method_18_code 13 = .ok (.aload_n 3, 1) := by decide +kernel
theorem d_TP_book_14 : decode prog_1_method_18_code 14 = .ok (.getfield 200, 3) := by decide +kernel
theorem d_TP_book_17 : decode prog_1_method_18_code 17 = .ok (.ireturn, 1) := by decide +kernel
theorem d_TP_book_18 : decode prog_1_method_18_code 18 = .ok (.iload_n 1, 1) := by decide +kernel
theorem d_TP_book_19 : decode prog_1_method_18_code 19 = .ok (.ifCond .lt 20, 3) := by decide +kernel
theorem d_TP_book_22 : decode prog_1_method_18_code 22 = .ok (.iload_n 1, 1) := by decide +kernel
theorem d_TP_book_23 : decode prog_1_method_18_code 23 = .ok (.aload_n 3, 1) := by decide +kernel
theorem d_TP_book_24 : decode prog_1_method_18_code 24 = .ok (.getfield 200, 3) := by decide +kernel
theorem d_TP_book_27 : decode prog_1_method_18_code 27 = .ok (.if_icmp .ge 12, 3) := by decide +kernel
theorem d_TP_book_30 : decode prog_1_method_18_code 30 = .ok (.iload_n 2, 1) := by decide +kernel
theorem d_TP_book_31 : decode prog_1_method_18_code 31 = .ok (.ifCond .lt 8, 3) := by decide +kernel
theorem d_TP_book_34 : decode prog_1_method_18_code 34 = .ok (.iload_n 2, 1) := by decide +kernel
theorem d_TP_book_35 : decode prog_1_method_18_code 35 = .ok (.iconst 3, 1) := by decide +kernel
theorem d_TP_book_36 : decode prog_1_method_18_code 36 = .ok (.if_icmp .lt 6, 3) := by decide +kernel
theorem d_TP_book_39 : decode prog_1_method_18_code 39 = .ok (.bipush (-2), 2) := by decide +kernel
theorem d_TP_book_41 : decode prog_1_method_18_code 41 = .ok (.ireturn, 1) := by decide +kernel
theorem d_TP_book_42 : decode prog_1_method_18_code 42 = .ok (.aload_n 3, 1) := by decide +kernel
theorem d_TP_book_43 : decode prog_1_method_18_code 43 = .ok (.iload_n 1, 1) := by decide +kernel
theorem d_TP_book_44 : decode prog_1_method_18_code 44 = .ok (.iload_n 2, 1) := by decide +kernel
theorem d_TP_book_45 : decode prog_1_method_18_code 45 = .ok (.invokevirtual 203, 3) := by decide +kernel
theorem d_TP_book_48 : decode prog_1_method_18_code 48 = .ok (.ireturn, 1) := by decide +kernel
theorem d_TP_foretold_0 : decode prog_1_method_19_code 0 = .ok (.iload_n 1, 1) := by decide +kernel
theorem d_TP_foretold_1 : decode prog_1_method_19_code 1 = .ok (.iconst 1, 1) := by decide +kernel
theorem d_TP_foretold_2 : decode prog_1_method_19_code 2 = .ok (.if_icmp .lt 18, 3) := by decide +kernel
theorem d_TP_foretold_5 : decode prog_1_method_19_code 5 = .ok (.iload_n 1, 1) := by decide +kernel
theorem d_TP_foretold_6 : decode prog_1_method_19_code 6 = .ok (.bipush 60, 2) := by decide +kernel
theorem d_TP_foretold_8 : decode prog_1_method_19_code 8 = .ok (.if_icmp .gt 12, 3) := by decide +kernel
theorem d_TP_foretold_11 : decode prog_1_method_19_code 11 = .ok (.iload_n 2, 1) := by decide +kernel
theorem d_TP_foretold_12 : decode prog_1_method_19_code 12 = .ok (.ifCond .lt 8, 3) := by decide +kernel
theorem d_TP_foretold_15 : decode prog_1_method_19_code 15 = .ok (.iload_n 2, 1) := by decide +kernel
theorem d_TP_foretold_16 : decode prog_1_method_19_code 16 = .ok (.iconst 1, 1) := by decide +kernel
theorem d_TP_foretold_17 : decode prog_1_method_19_code 17 = .ok (.if_icmp .le 5, 3) := by decide +kernel
theorem d_TP_foretold_20 : decode prog_1_method_19_code 20 = .ok (.iconst (-1), 1) := by decide +kernel
theorem d_TP_foretold_21 : decode prog_1_method_19_code 21 = .ok (.ireturn, 1) := by decide +kernel
theorem d_TP_foretold_22 : decode prog_1_method_19_code 22 = .ok (.aload_n 0, 1) := by decide +kernel
theorem d_TP_foretold_23 : decode prog_1_method_19_code 23 = .ok (.getfield 22, 3) := by decide +kernel
theorem d_TP_foretold_26 : decode prog_1_method_19_code 26 = .ok (.aload_n 0, 1) := by decide +kernel
theorem d_TP_foretold_27 : decode prog_1_method_19_code 27 = .ok (.getfield 10, 3) := by decide +kernel
theorem d_TP_foretold_30 : decode prog_1_method_19_code 30 = .ok (.getfield 128, 3) := by decide +kernel
theorem d_TP_foretold_33 : decode prog_1_method_19_code 33 = .ok (.invokevirtual 206, 3) := by decide +kernel
theorem d_TP_foretold_36 : decode prog_1_method_19_code 36 = .ok (.aload_n 0, 1) := by decide +kernel
theorem d_TP_foretold_37 : decode prog_1_method_19_code 37 = .ok (.getfield 40, 3) := by decide +kernel
theorem d_TP_foretold_40 : decode prog_1_method_19_code 40 = .ok (.aload_n 0, 1) := by decide +kernel
theorem d_TP_foretold_41 : decode prog_1_method_19_code 41 = .ok (.getfield 22, 3) := by decide +kernel
theorem d_TP_foretold_44 : decode prog_1_method_19_code 44 = .ok (.iload_n 1, 1) := by decide +kernel
theorem d_TP_foretold_45 : decode prog_1_method_19_code 45 = .ok (.invokevirtual 210, 3) := by decide +kernel
theorem d_TP_foretold_48 : decode prog_1_method_19_code 48 = .ok (.iload_n 2, 1) := by decide +kernel
theorem d_TP_foretold_49 : decode prog_1_method_19_code 49 = .ok (.ifCond .ne 13, 3) := by decide +kernel
theorem d_TP_foretold_52 : decode prog_1_method_19_code 52 = .ok (.aload_n 0, 1) := by decide +kernel
theorem d_TP_foretold_53 : decode prog_1_method_19_code 53 = .ok (.getfield 22, 3) := by decide +kernel
theorem d_TP_foretold_56 : decode prog_1_method_19_code 56 = .ok (.getfield 131, 3) := by decide +kernel
theorem d_TP_foretold_59 : decode prog_1_method_19_code 59 = .ok (.goto 10, 3) := by decide +kernel
theorem d_TP_foretold_62 : decode prog_1_method_19_code 62 = .ok (.aload_n 0, 1) := by decide +kernel
theorem d_TP_foretold_63 : decode prog_1_method_19_code 63 = .ok (.getfield 22, 3) := by decide +kernel
theorem d_TP_foretold_66 : decode prog_1_method_19_code 66 = .ok (.getfield 179, 3) := by decide +kernel
theorem d_TP_foretold_69 : decode prog_1_method_19_code 69 = .ok (.ireturn, 1) := by decide +kernel
theorem d_Ro_passSome_0 : decode prog_7_method_3_code 0 = .ok (.iconst 0, 1) := by decide +kernel
theorem d_Ro_passSome_1 : decode prog_7_method_3_code 1 = .ok (.istore_n 3, 1) := by decide +kernel
theorem d_Ro_passSome_2 : decode prog_7_method_3_code 2 = .ok (.iload_n 3, 1) := by decide +kernel
theorem d_Ro_passSome_3 : decode prog_7_method_3_code 3 = .ok (.iload_n 2, 1) := by decide +kernel
theorem d_Ro_passSome_4 : decode prog_7_method_3_code 4 = .ok (.if_icmp .ge 25, 3) := by decide +kernel
theorem d_Ro_passSome_7 : decode prog_7_method_3_code 7 = .ok (.aload_n 1, 1) := by decide +kernel
theorem d_Ro_passSome_8 : decode prog_7_method_3_code 8 = .ok (.invokevirtual 85, 3) := by decide +kernel
theorem d_Ro_passSome_11 : decode prog_7_method_3_code 11 = .ok (.ifCond .eq 18, 3) := by decide +kernel
theorem d_Ro_passSome_14 : decode prog_7_method_3_code 14 = .ok (.aload_n 0, 1) := by decide +kernel
theorem d_Ro_passSome_15 : decode prog_7_method_3_code 15 = .ok (.aload_n 1, 1) := by decide +kernel
theorem d_Ro_passSome_16 : decode prog_7_method_3_code 16 = .ok (.aload_n 1, 1) := by decide +kernel
theorem d_Ro_passSome_17 : decode prog_7_method_3_code 17 = .ok (.getfield 75, 3) := by decide +kernel
theorem d_Ro_passSome_20 : decode prog_7_method_3_code 20 = .ok (.invokevirtual 89, 3) := by decide +kernel
theorem d_Ro_passSome_23 : decode prog_7_method_3_code 23 = .ok (.iinc 3 1, 3) := by decide +kernel
theorem d_Ro_passSome_26 : decode prog_7_method_3_code 26 = .ok (.goto (-24), 3) := by decide +kernel
theorem d_Ro_passSome_29 : decode prog_7_method_3_code 29 = .ok (.return_, 1) := by decide +kernel
theorem d_TP_comes_0 : decode prog_1_method_20_code 0 = .ok (.aload_n 0, 1) := by decide +kernel
theorem d_TP_comes_1 : decode prog_1_method_20_code 1 = .ok (.iload_n 1, 1) := by decide +kernel
theorem d_TP_comes_2 : decode prog_1_method_20_code 2 = .ok (.invokevirtual 214, 3) := by decide +kernel
theorem d_TP_comes_5 : decode prog_1_method_20_code 5 = .ok (.ifCond .eq 14, 3) := by decide +kernel
theorem d_TP_comes_8 : decode prog_1_method_20_code 8 = .ok (.aload_n 0, 1) := by decide +kernel
theorem d_TP_comes_9 : decode prog_1_method_20_code 9 = .ok (.invokevirtual 217, 3) := by decide +kernel
theorem d_TP_comes_12 : decode prog_1_method_20_code 12 = .ok (.iload_n 1, 1) := by decide +kernel
theorem d_TP_comes_13 : decode prog_1_method_20_code 13 = .ok (.invokevirtual 221, 3) := by decide +kernel
theorem d_TP_comes_16 : decode prog_1_method_20_code 16 = .ok (.goto 4, 3) := by decide +kernel
theorem d_TP_comes_19 : decode prog_1_method_20_code 19 = .ok (.iconst (-1), 1) := by decide +kernel
theorem d_TP_comes_20 : decode prog_1_method_20_code 20 = .ok (.ireturn, 1) := by decide +kernel
theorem d_TP_isFigure_0 : decode prog_1_method_66_code 0 = .ok (.iload_n 1, 1) := by decide +kernel
theorem d_TP_isFigure_1 : decode prog_1_method_66_code 1 = .ok (.ifCond .lt 21, 3) := by decide +kernel
theorem d_TP_isFigure_4 : decode prog_1_method_66_code 4 = .ok (.iload_n 1, 1) := by decide +kernel
theorem d_TP_isFigure_5 : decode prog_1_method_66_code 5 = .ok (.aload_n 0, 1) := by decide +kernel
theorem d_TP_isFigure_6 : decode prog_1_method_66_code 6 = .ok (.getfield 10, 3) := by decide +kernel
theorem d_TP_isFigure_9 : decode prog_1_method_66_code 9 = .ok (.getfield 128, 3) := by decide +kernel
theorem d_TP_isFigure_12 : decode prog_1_method_66_code 12 = .ok (.getfield 310, 3) := by decide +kernel
theorem d_TP_isFigure_15 : decode prog_1_method_66_code 15 = .ok (.if_icmp .gt 7, 3) := by decide +kernel
theorem d_TP_isFigure_18 : decode prog_1_method_66_code 18 = .ok (.iconst 1, 1) := by decide +kernel
theorem d_TP_isFigure_19 : decode prog_1_method_66_code 19 = .ok (.goto 4, 3) := by decide +kernel
theorem d_TP_isFigure_22 : decode prog_1_method_66_code 22 = .ok (.iconst 0, 1) := by decide +kernel
theorem d_TP_isFigure_23 : decode prog_1_method_66_code 23 = .ok (.ireturn, 1) := by decide +kernel
theorem d_TP_look_0 : decode prog_1_method_68_code 0 = .ok (.aload_n 0, 1) := by decide +kernel
theorem d_TP_look_1 : decode prog_1_method_68_code 1 = .ok (.getfield 10, 3) := by decide +kernel
theorem d_TP_look_4 : decode prog_1_method_68_code 4 = .ok (.getfield 128, 3) := by decide +kernel
theorem d_TP_look_7 : decode prog_1_method_68_code 7 = .ok (.astore_n 1, 1) := by decide +kernel
theorem d_TP_look_8 : decode prog_1_method_68_code 8 = .ok (.aload_n 0, 1) := by decide +kernel
theorem d_TP_look_9 : decode prog_1_method_68_code 9 = .ok (.getfield 47, 3) := by decide +kernel
theorem d_TP_look_12 : decode prog_1_method_68_code 12 = .ok (.aload_n 1, 1) := by decide +kernel
theorem d_TP_look_13 : decode prog_1_method_68_code 13 = .ok (.getfield 310, 3) := by decide +kernel
theorem d_TP_look_16 : decode prog_1_method_68_code 16 = .ok (.putfield 383, 3) := by decide +kernel
theorem d_TP_look_19 : decode prog_1_method_68_code 19 = .ok (.iconst 0, 1) := by decide +kernel
theorem d_TP_look_20 : decode prog_1_method_68_code 20 = .ok (.istore_n 2, 1) := by decide +kernel
theorem d_TP_look_21 : decode prog_1_method_68_code 21 = .ok (.iload_n 2, 1) := by decide +kernel
theorem d_TP_look_22 : decode prog_1_method_68_code 22 = .ok (.aload_n 1, 1) := by decide +kernel
theorem d_TP_look_23 : decode prog_1_method_68_code 23 = .ok (.getfield 310, 3) := by decide +kernel
theorem d_TP_look_26 : decode prog_1_method_68_code 26 = .ok (.if_icmp .gt 36, 3) := by decide +kernel
theorem d_TP_look_29 : decode prog_1_method_68_code 29 = .ok (.aload_n 0, 1) := by decide +kernel
theorem d_TP_look_30 : decode prog_1_method_68_code 30 = .ok (.getfield 47, 3) := by decide +kernel
theorem d_TP_look_33 : decode prog_1_method_68_code 33 = .ok (.getfield 384, 3) := by decide +kernel
theorem d_TP_look_36 : decode prog_1_method_68_code 36 = .ok (.iload_n 2, 1) := by decide +kernel
theorem d_TP_look_37 : decode prog_1_method_68_code 37 = .ok (.aload_n 0, 1) := by decide +kernel
theorem d_TP_look_38 : decode prog_1_method_68_code 38 = .ok (.getfield 31, 3) := by decide +kernel
theorem d_TP_look_41 : decode prog_1_method_68_code 41 = .ok (.aload_n 1, 1) := by decide +kernel
theorem d_TP_look_42 : decode prog_1_method_68_code 42 = .ok (.aload_n 0, 1) := by decide +kernel
theorem d_TP_look_43 : decode prog_1_method_68_code 43 = .ok (.getfield 10, 3) := by decide +kernel
theorem d_TP_look_46 : decode prog_1_method_68_code 46 = .ok (.invokevirtual 186, 3) := by decide +kernel
theorem d_TP_look_49 : decode prog_1_method_68_code 49 = .ok (.iload_n 2, 1) := by decide +kernel
theorem d_TP_look_50 : decode prog_1_method_68_code 50 = .ok (.invokevirtual 387, 3) := by decide +kernel
theorem d_TP_look_53 : decode prog_1_method_68_code 53 = .ok (.invokestatic 351, 3) := by decide +kernel
theorem d_TP_look_56 : decode prog_1_method_68_code 56 = .ok (.iinc 2 1, 3) := by decide +kernel
theorem d_TP_look_59 : decode prog_1_method_68_code 59 = .ok (.goto (-38), 3) := by decide +kernel
theorem d_TP_look_62 : decode prog_1_method_68_code 62 = .ok (.aload_n 0, 1) := by decide +kernel
theorem d_TP_look_63 : decode prog_1_method_68_code 63 = .ok (.getfield 47, 3) := by decide +kernel
theorem d_TP_look_66 : decode prog_1_method_68_code 66 = .ok (.areturn, 1) := by decide +kernel
theorem d_TP_trues_0 : decode prog_1_method_21_code 0 = .ok (.aload_n 0, 1) := by decide +kernel
theorem d_TP_trues_1 : decode prog_1_method_21_code 1 = .ok (.invokevirtual 217, 3) := by decide +kernel
theorem d_TP_trues_4 : decode prog_1_method_21_code 4 = .ok (.invokevirtual 225, 3) := by decide +kernel
theorem d_TP_trues_7 : decode prog_1_method_21_code 7 = .ok (.ireturn, 1) := by decide +kernel
theorem d_TP_firm_0 : decode prog_1_method_22_code 0 = .ok (.aload_n 0, 1) := by decide +kernel
theorem d_TP_firm_1 : decode prog_1_method_22_code 1 = .ok (.invokevirtual 217, 3) := by decide +kernel
theorem d_TP_firm_4 : decode prog_1_method_22_code 4 = .ok (.invokevirtual 228, 3) := by decide +kernel
theorem d_TP_firm_7 : decode prog_1_method_22_code 7 = .ok (.ireturn, 1) := by decide +kernel
theorem d_TP_ends_0 : decode prog_1_method_23_code 0 = .ok (.aload_n 0, 1) := by decide +kernel
theorem d_TP_ends_1 : decode prog_1_method_23_code 1 = .ok (.iload_n 1, 1) := by decide +kernel
theorem d_TP_ends_2 : decode prog_1_method_23_code 2 = .ok (.invokevirtual 214, 3) := by decide +kernel
theorem d_TP_ends_5 : decode prog_1_method_23_code 5 = .ok (.ifCond .ne 5, 3) := by decide +kernel
theorem d_TP_ends_8 : decode prog_1_method_23_code 8 = .ok (.iconst (-1), 1) := by decide +kernel
theorem d_TP_ends_9 : decode prog_1_method_23_code 9 = .ok (.ireturn, 1) := by decide +kernel
theorem d_TP_ends_10 : decode prog_1_method_23_code 10 = .ok (.iload_n 2, 1) := by decide +kernel
theorem d_TP_ends_11 : decode prog_1_method_23_code 11 = .ok (.ifCond .eq 14, 3) := by decide +kernel
theorem d_TP_ends_14 : decode prog_1_method_23_code 14 = .ok (.aload_n 0, 1) := by decide +kernel
theorem d_TP_ends_15 : decode prog_1_method_23_code 15 = .ok (.invokevirtual 217, 3) := by decide +kernel
theorem d_TP_ends_18 : decode prog_1_method_23_code 18 = .ok (.iload_n 1, 1) := by decide +kernel
theorem d_TP_ends_19 : decode prog_1_method_23_code 19 = .ok (.invokevirtual 231, 3) := by decide +kernel
theorem d_TP_ends_22 : decode prog_1_method_23_code 22 = .ok (.goto 11, 3) := by decide +kernel
theorem d_TP_ends_25 : decode prog_1_method_23_code 25 = .ok (.aload_n 0, 1) := by decide +kernel
theorem d_TP_ends_26 : decode prog_1_method_23_code 26 = .ok (.invokevirtual 217, 3) := by decide +kernel
theorem d_TP_ends_29 : decode prog_1_method_23_code 29 = .ok (.iload_n 1, 1) := by decide +kernel
theorem d_TP_ends_30 : decode prog_1_method_23_code 30 = .ok (.invokevirtual 234, 3) := by decide +kernel
theorem d_TP_ends_33 : decode prog_1_method_23_code 33 = .ok (.ireturn, 1) := by decide +kernel
theorem d_TP_till_0 : decode prog_1_method_24_code 0 = .ok (.aload_n 0, 1) := by decide +kernel
theorem d_TP_till_1 : decode prog_1_method_24_code 1 = .ok (.iload_n 1, 1) := by decide +kernel
theorem d_TP_till_2 : decode prog_1_method_24_code 2 = .ok (.invokevirtual 214, 3) := by decide +kernel
theorem d_TP_till_5 : decode prog_1_method_24_code 5 = .ok (.ifCond .eq 14, 3) := by decide +kernel
theorem d_TP_till_8 : decode prog_1_method_24_code 8 = .ok (.aload_n 0, 1) := by decide +kernel
theorem d_TP_till_9 : decode prog_1_method_24_code 9 = .ok (.invokevirtual 217, 3) := by decide +kernel
theorem d_TP_till_12 : decode prog_1_method_24_code 12 = .ok (.iload_n 1, 1) := by decide +kernel
theorem d_TP_till_13 : decode prog_1_method_24_code 13 = .ok (.invokevirtual 237, 3) := by decide +kernel
theorem d_TP_till_16 : decode prog_1_method_24_code 16 = .ok (.goto 4, 3) := by decide +kernel
theorem d_TP_till_19 : decode prog_1_method_24_code 19 = .ok (.iconst (-1), 1) := by decide +kernel
theorem d_TP_till_20 : decode prog_1_method_24_code 20 = .ok (.ireturn, 1) := by decide +kernel
theorem d_TP_leads_0 : decode prog_1_method_25_code 0 = .ok (.aload_n 0, 1) := by decide +kernel
theorem d_TP_leads_1 : decode prog_1_method_25_code 1 = .ok (.iload_n 1, 1) := by decide +kernel
theorem d_TP_leads_2 : decode prog_1_method_25_code 2 = .ok (.invokevirtual 214, 3) := by decide +kernel
theorem d_TP_leads_5 : decode prog_1_method_25_code 5 = .ok (.ifCond .eq 14, 3) := by decide +kernel
theorem d_TP_leads_8 : decode prog_1_method_25_code 8 = .ok (.aload_n 0, 1) := by decide +kernel
theorem d_TP_leads_9 : decode prog_1_method_25_code 9 = .ok (.invokevirtual 217, 3) := by decide +kernel
theorem d_TP_leads_12 : decode prog_1_method_25_code 12 = .ok (.iload_n 1, 1) := by decide +kernel
theorem d_TP_leads_13 : decode prog_1_method_25_code 13 = .ok (.invokevirtual 240, 3) := by decide +kernel
theorem d_TP_leads_16 : decode prog_1_method_25_code 16 = .ok (.goto 4, 3) := by decide +kernel
theorem d_TP_leads_19 : decode prog_1_method_25_code 19 = .ok (.iconst (-1), 1) := by decide +kernel
theorem d_TP_leads_20 : decode prog_1_method_25_code 20 = .ok (.ireturn, 1) := by decide +kernel
theorem d_TP_rings_0 : decode prog_1_method_26_code 0 = .ok (.aload_n 0, 1) := by decide +kernel
theorem d_TP_rings_1 : decode prog_1_method_26_code 1 = .ok (.invokevirtual 217, 3) := by decide +kernel
theorem d_TP_rings_4 : decode prog_1_method_26_code 4 = .ok (.invokevirtual 243, 3) := by decide +kernel
theorem d_TP_rings_7 : decode prog_1_method_26_code 7 = .ok (.ireturn, 1) := by decide +kernel
theorem d_TP_nearest_0 : decode prog_1_method_27_code 0 = .ok (.aload_n 0, 1) := by decide +kernel
theorem d_TP_nearest_1 : decode prog_1_method_27_code 1 = .ok (.invokevirtual 217, 3) := by decide +kernel
theorem d_TP_nearest_4 : decode prog_1_method_27_code 4 = .ok (.invokevirtual 246, 3) := by decide +kernel
theorem d_TP_nearest_7 : decode prog_1_method_27_code 7 = .ok (.ireturn, 1) := by decide +kernel
theorem d_TP_path_0 : decode prog_1_method_28_code 0 = .ok (.aload_n 0, 1) := by decide +kernel
theorem d_TP_path_1 : decode prog_1_method_28_code 1 = .ok (.iload_n 1, 1) := by decide +kernel
theorem d_TP_path_2 : decode prog_1_method_28_code 2 = .ok (.invokevirtual 214, 3) := by decide +kernel
theorem d_TP_path_5 : decode prog_1_method_28_code 5 = .ok (.ifCond .eq 21, 3) := by decide +kernel
theorem d_TP_path_8 : decode prog_1_method_28_code 8 = .ok (.aload_n 0, 1) := by decide +kernel
theorem d_TP_path_9 : decode prog_1_method_28_code 9 = .ok (.iload_n 2, 1) := by decide +kernel
theorem d_TP_path_10 : decode prog_1_method_28_code 10 = .ok (.invokevirtual 214, 3) := by decide +kernel
theorem d_TP_path_13 : decode prog_1_method_28_code 13 = .ok (.ifCond .eq 13, 3) := by decide +kernel
theorem d_TP_path_16 : decode prog_1_method_28_code 16 = .ok (.iload_n 3, 1) := by decide +kernel
theorem d_TP_path_17 : decode prog_1_method_28_code 17 = .ok (.ifCond .lt 9, 3) := by decide +kernel
theorem d_TP_path_20 : decode prog_1_method_28_code 20 = .ok (.iload_n 3, 1) := by decide +kernel
theorem d_TP_path_21 : decode prog_1_method_28_code 21 = .ok (.bipush 8, 2) := by decide +kernel
theorem d_TP_path_23 : decode prog_1_method_28_code 23 = .ok (.if_icmp .le 5, 3) := by decide +kernel
theorem d_TP_path_26 : decode prog_1_method_28_code 26 = .ok (.iconst (-1), 1) := by decide +kernel
theorem d_TP_path_27 : decode prog_1_method_28_code 27 = .ok (.ireturn, 1) := by decide +kernel
theorem d_TP_path_28 : decode prog_1_method_28_code 28 = .ok (.aload_n 0, 1) := by decide +kernel
theorem d_TP_path_29 : decode prog_1_method_28_code 29 = .ok (.invokevirtual 217, 3) := by decide +kernel
theorem d_TP_path_32 : decode prog_1_method_28_code 32 = .ok (.iload_n 1, 1) := by decide +kernel
theorem d_TP_path_33 : decode prog_1_method_28_code 33 = .ok (.iload_n 2, 1) := by decide +kernel
theorem d_TP_path_34 : decode prog_1_method_28_code 34 = .ok (.iload_n 3, 1) := by decide +kernel
theorem d_TP_path_35 : decode prog_1_method_28_code 35 = .ok (.invokevirtual 249, 3) := by decide +kernel
theorem d_TP_path_38 : decode prog_1_method_28_code 38 = .ok (.ireturn, 1) := by decide +kernel
theorem d_TP_win_0 : decode prog_1_method_29_code 0 = .ok (.aload_n 0, 1) := by decide +kernel
theorem d_TP_win_1 : decode prog_1_method_29_code 1 = .ok (.iload_n 1, 1) := by decide +kernel
theorem d_TP_win_2 : decode prog_1_method_29_code 2 = .ok (.invokevirtual 214, 3) := by decide +kernel
theorem d_TP_win_5 : decode prog_1_method_29_code 5 = .ok (.ifCond .ne 5, 3) := by decide +kernel
theorem d_TP_win_8 : decode prog_1_method_29_code 8 = .ok (.iconst (-1), 1) := by decide +kernel
theorem d_TP_win_9 : decode prog_1_method_29_code 9 = .ok (.ireturn, 1) := by decide +kernel
theorem d_TP_win_10 : decode prog_1_method_29_code 10 = .ok (.aload_n 0, 1) := by decide +kernel
theorem d_TP_win_11 : decode prog_1_method_29_code 11 = .ok (.invokevirtual 217, 3) := by decide +kernel
theorem d_TP_win_14 : decode prog_1_method_29_code 14 = .ok (.iload_n 1, 1) := by decide +kernel
theorem d_TP_win_15 : decode prog_1_method_29_code 15 = .ok (.invokevirtual 253, 3) := by decide +kernel
theorem d_TP_win_18 : decode prog_1_method_29_code 18 = .ok (.istore_n 3, 1) := by decide +kernel
theorem d_TP_win_19 : decode prog_1_method_29_code 19 = .ok (.iload_n 3, 1) := by decide +kernel
theorem d_TP_win_20 : decode prog_1_method_29_code 20 = .ok (.iconst (-1), 1) := by decide +kernel
theorem d_TP_win_21 : decode prog_1_method_29_code 21 = .ok (.if_icmp .eq 7, 3) := by decide +kernel
theorem d_TP_win_24 : decode prog_1_method_29_code 24 = .ok (.iload_n 2, 1) := by decide +kernel
theorem d_TP_win_25 : decode prog_1_method_29_code 25 = .ok (.ifCond .ne 7, 3) := by decide +kernel
theorem d_TP_win_28 : decode prog_1_method_29_code 28 = .ok (.iload_n 3, 1) := by decide +kernel
theorem d_TP_win_29 : decode prog_1_method_29_code 29 = .ok (.goto 7, 3) := by decide +kernel
theorem d_TP_win_32 : decode prog_1_method_29_code 32 = .ok (.iload_n 3, 1) := by decide +kernel
theorem d_TP_win_33 : decode prog_1_method_29_code 33 = .ok (.invokestatic 256, 3) := by decide +kernel
theorem d_TP_win_36 : decode prog_1_method_29_code 36 = .ok (.ireturn, 1) := by decide +kernel
theorem d_TP_two_0 : decode prog_1_method_30_code 0 = .ok (.aload_n 0, 1) := by decide +kernel
theorem d_TP_two_1 : decode prog_1_method_30_code 1 = .ok (.iload_n 1, 1) := by decide +kernel
theorem d_TP_two_2 : decode prog_1_method_30_code 2 = .ok (.invokevirtual 214, 3) := by decide +kernel
theorem d_TP_two_5 : decode prog_1_method_30_code 5 = .ok (.ifCond .eq 11, 3) := by decide +kernel
theorem d_TP_two_8 : decode prog_1_method_30_code 8 = .ok (.aload_n 0, 1) := by decide +kernel
theorem d_TP_two_9 : decode prog_1_method_30_code 9 = .ok (.iload_n 2, 1) := by decide +kernel
theorem d_TP_two_10 : decode prog_1_method_30_code 10 = .ok (.invokevirtual 214, 3) := by decide +kernel
theorem d_TP_two_13 : decode prog_1_method_30_code 13 = .ok (.ifCond .ne 5, 3) := by decide +kernel
theorem d_TP_two_16 : decode prog_1_method_30_code 16 = .ok (.iconst (-1), 1) := by decide +kernel
theorem d_TP_two_17 : decode prog_1_method_30_code 17 = .ok (.ireturn, 1) := by decide +kernel
theorem d_TP_two_18 : decode prog_1_method_30_code 18 = .ok (.iload_n 3, 1) := by decide +kernel
theorem d_TP_two_19 : decode prog_1_method_30_code 19 = .ok (.tableswitch 57 0 2 #[25, 36, 47], 25) := by decide +kernel
theorem d_TP_two_44 : decode prog_1_method_30_code 44 = .ok (.aload_n 0, 1) := by decide +kernel
theorem d_TP_two_45 : decode prog_1_method_30_code 45 = .ok (.invokevirtual 217, 3) := by decide +kernel
theorem d_TP_two_48 : decode prog_1_method_30_code 48 = .ok (.iload_n 1, 1) := by decide +kernel
theorem d_TP_two_49 : decode prog_1_method_30_code 49 = .ok (.iload_n 2, 1) := by decide +kernel
theorem d_TP_two_50 : decode prog_1_method_30_code 50 = .ok (.iconst 0, 1) := by decide +kernel
theorem d_TP_two_51 : decode prog_1_method_30_code 51 = .ok (.invokevirtual 261, 3) := by decide +kernel
theorem d_TP_two_54 : decode prog_1_method_30_code 54 = .ok (.ireturn, 1) := by decide +kernel
theorem d_TP_two_55 : decode prog_1_method_30_code 55 = .ok (.aload_n 0, 1) := by decide +kernel
theorem d_TP_two_56 : decode prog_1_method_30_code 56 = .ok (.invokevirtual 217, 3) := by decide +kernel
theorem d_TP_two_59 : decode prog_1_method_30_code 59 = .ok (.iload_n 1, 1) := by decide +kernel
theorem d_TP_two_60 : decode prog_1_method_30_code 60 = .ok (.iload_n 2, 1) := by decide +kernel
theorem d_TP_two_61 : decode prog_1_method_30_code 61 = .ok (.iconst 1, 1) := by decide +kernel
theorem d_TP_two_62 : decode prog_1_method_30_code 62 = .ok (.invokevirtual 261, 3) := by decide +kernel
theorem d_TP_two_65 : decode prog_1_method_30_code 65 = .ok (.ireturn, 1) := by decide +kernel
theorem d_TP_two_66 : decode prog_1_method_30_code 66 = .ok (.aload_n 0, 1) := by decide +kernel
theorem d_TP_two_67 : decode prog_1_method_30_code 67 = .ok (.invokevirtual 217, 3) := by decide +kernel
theorem d_TP_two_70 : decode prog_1_method_30_code 70 = .ok (.iload_n 1, 1) := by decide +kernel
theorem d_TP_two_71 : decode prog_1_method_30_code 71 = .ok (.iload_n 2, 1) := by decide +kernel
theorem d_TP_two_72 : decode prog_1_method_30_code 72 = .ok (.invokevirtual 265, 3) := by decide +kernel
theorem d_TP_two_75 : decode prog_1_method_30_code 75 = .ok (.ireturn, 1) := by decide +kernel
theorem d_TP_two_76 : decode prog_1_method_30_code 76 = .ok (.iconst (-1), 1) := by decide +kernel
theorem d_TP_two_77 : decode prog_1_method_30_code 77 = .ok (.ireturn, 1) := by decide +kernel
theorem d_TP_split_0 : decode prog_1_method_31_code 0 = .ok (.aload_n 0, 1) := by decide +kernel
theorem d_TP_split_1 : decode prog_1_method_31_code 1 = .ok (.iload_n 1, 1) := by decide +kernel
theorem d_TP_split_2 : decode prog_1_method_31_code 2 = .ok (.invokevirtual 214, 3) := by decide +kernel
theorem d_TP_split_5 : decode prog_1_method_31_code 5 = .ok (.ifCond .eq 23, 3) := by decide +kernel
theorem d_TP_split_8 : decode prog_1_method_31_code 8 = .ok (.aload_n 0, 1) := by decide +kernel
theorem d_TP_split_9 : decode prog_1_method_31_code 9 = .ok (.iload_n 2, 1) := by decide +kernel
theorem d_TP_split_10 : decode prog_1_method_31_code 10 = .ok (.invokevirtual 214, 3) := by decide +kernel
theorem d_TP_split_13 : decode prog_1_method_31_code 13 = .ok (.ifCond .eq 15, 3) := by decide +kernel
theorem d_TP_split_16 : decode prog_1_method_31_code 16 = .ok (.aload_n 0, 1) := by decide +kernel
theorem d_TP_split_17 : decode prog_1_method_31_code 17 = .ok (.invokevirtual 217, 3) := by decide +kernel
theorem d_TP_split_20 : decode prog_1_method_31_code 20 = .ok (.iload_n 1, 1) := by decide +kernel
theorem d_TP_split_21 : decode prog_1_method_31_code 21 = .ok (.iload_n 2, 1) := by decide +kernel
theorem d_TP_split_22 : decode prog_1_method_31_code 22 = .ok (.invokevirtual 268, 3) := by decide +kernel
theorem d_TP_split_25 : decode prog_1_method_31_code 25 = .ok (.goto 4, 3) := by decide +kernel
theorem d_TP_split_28 : decode prog_1_method_31_code 28 = .ok (.iconst (-1), 1) := by decide +kernel
theorem d_TP_split_29 : decode prog_1_method_31_code 29 = .ok (.ireturn, 1) := by decide +kernel
theorem d_TP_mind_0 : decode prog_1_method_32_code 0 = .ok (.aload_n 0, 1) := by decide +kernel
theorem d_TP_mind_1 : decode prog_1_method_32_code 1 = .ok (.iload_n 1, 1) := by decide +kernel
theorem d_TP_mind_2 : decode prog_1_method_32_code 2 = .ok (.invokevirtual 214, 3) := by decide +kernel
theorem d_TP_mind_5 : decode prog_1_method_32_code 5 = .ok (.ifCond .eq 31, 3) := by decide +kernel
theorem d_TP_mind_8 : decode prog_1_method_32_code 8 = .ok (.aload_n 0, 1) := by decide +kernel
theorem d_TP_mind_9 : decode prog_1_method_32_code 9 = .ok (.iload_n 2, 1) := by decide +kernel
theorem d_TP_mind_10 : decode prog_1_method_32_code 10 = .ok (.invokevirtual 214, 3) := by decide +kernel
theorem d_TP_mind_13 : decode prog_1_method_32_code 13 = .ok (.ifCond .eq 23, 3) := by decide +kernel
theorem d_TP_mind_16 : decode prog_1_method_32_code 16 = .ok (.aload_n 0, 1) := by decide +kernel
theorem d_TP_mind_17 : decode prog_1_method_32_code 17 = .ok (.invokevirtual 217, 3) := by decide +kernel
theorem d_TP_mind_20 : decode prog_1_method_32_code 20 = .ok (.iload_n 1, 1) := by decide +kernel
theorem d_TP_mind_21 : decode prog_1_method_32_code 21 = .ok (.invokevirtual 271, 3) := by decide +kernel
theorem d_TP_mind_24 : decode prog_1_method_32_code 24 = .ok (.aload_n 0, 1) := by decide +kernel
theorem d_TP_mind_25 : decode prog_1_method_32_code 25 = .ok (.invokevirtual 217, 3) := by decide +kernel
theorem d_TP_mind_28 : decode prog_1_method_32_code 28 = .ok (.iload_n 2, 1) := by decide +kernel
theorem d_TP_mind_29 : decode prog_1_method_32_code 29 = .ok (.invokevirtual 271, 3) := by decide +kernel
theorem d_TP_mind_32 : decode prog_1_method_32_code 32 = .ok (.ixor, 1) := by decide +kernel
theorem d_TP_mind_33 : decode prog_1_method_32_code 33 = .ok (.goto 4, 3) := by decide +kernel
theorem d_TP_mind_36 : decode prog_1_method_32_code 36 = .ok (.iconst (-1), 1) := by decide +kernel
theorem d_TP_mind_37 : decode prog_1_method_32_code 37 = .ok (.ireturn, 1) := by decide +kernel
theorem d_TP_unasked_0 : decode prog_1_method_33_code 0 = .ok (.iload_n 1, 1) := by decide +kernel
theorem d_TP_unasked_1 : decode prog_1_method_33_code 1 = .ok (.ifCond .eq 13, 3) := by decide +kernel
theorem d_TP_unasked_4 : decode prog_1_method_33_code 4 = .ok (.aload_n 0, 1) := by decide +kernel
theorem d_TP_unasked_5 : decode prog_1_method_33_code 5 = .ok (.invokevirtual 217, 3) := by decide +kernel
theorem d_TP_unasked_8 : decode prog_1_method_33_code 8 = .ok (.invokevirtual 274, 3) := by decide +kernel
theorem d_TP_unasked_11 : decode prog_1_method_33_code 11 = .ok (.goto 10, 3) := by decide +kernel
theorem d_TP_unasked_14 : decode prog_1_method_33_code 14 = .ok (.aload_n 0, 1) := by decide +kernel
theorem d_TP_unasked_15 : decode prog_1_method_33_code 15 = .ok (.invokevirtual 217, 3) := by decide +kernel
theorem d_TP_unasked_18 : decode prog_1_method_33_code 18 = .ok (.invokevirtual 277, 3) := by decide +kernel
theorem d_TP_unasked_21 : decode prog_1_method_33_code 21 = .ok (.invokestatic 256, 3) := by decide +kernel
theorem d_TP_unasked_24 : decode prog_1_method_33_code 24 = .ok (.ireturn, 1) := by decide +kernel
theorem d_TP_alike_0 : decode prog_1_method_34_code 0 = .ok (.aload_n 0, 1) := by decide +kernel
theorem d_TP_alike_1 : decode prog_1_method_34_code 1 = .ok (.getfield 10, 3) := by decide +kernel
theorem d_TP_alike_4 : decode prog_1_method_34_code 4 = .ok (.getfield 128, 3) := by decide +kernel
theorem d_TP_alike_7 : decode prog_1_method_34_code 7 = .ok (.iload_n 1, 1) := by decide +kernel
theorem d_TP_alike_8 : decode prog_1_method_34_code 8 = .ok (.invokevirtual 163, 3) := by decide +kernel
theorem d_TP_alike_11 : decode prog_1_method_34_code 11 = .ok (.ifCond .eq 29, 3) := by decide +kernel
theorem d_TP_alike_14 : decode prog_1_method_34_code 14 = .ok (.aload_n 0, 1) := by decide +kernel
theorem d_TP_alike_15 : decode prog_1_method_34_code 15 = .ok (.getfield 10, 3) := by decide +kernel
theorem d_TP_alike_18 : decode prog_1_method_34_code 18 = .ok (.getfield 128, 3) := by decide +kernel
theorem d_TP_alike_21 : decode prog_1_method_34_code 21 = .ok (.iload_n 2, 1) := by decide +kernel
theorem d_TP_alike_22 : decode prog_1_method_34_code 22 = .ok (.invokevirtual 163, 3) := by decide +kernel
theorem d_TP_alike_25 : decode prog_1_method_34_code 25 = .ok (.ifCond .eq 15, 3) := by decide +kernel
theorem d_TP_alike_28 : decode prog_1_method_34_code 28 = .ok (.aload_n 0, 1) := by decide +kernel
theorem d_TP_alike_29 : decode prog_1_method_34_code 29 = .ok (.invokevirtual 217, 3) := by decide +kernel
theorem d_TP_alike_32 : decode prog_1_method_34_code 32 = .ok (.iload_n 1, 1) := by decide +kernel
theorem d_TP_alike_33 : decode prog_1_method_34_code 33 = .ok (.iload_n 2, 1) := by decide +kernel
theorem d_TP_alike_34 : decode prog_1_method_34_code 34 = .ok (.invokevirtual 280, 3) := by decide +kernel
theorem d_TP_alike_37 : decode prog_1_method_34_code 37 = .ok (.goto 4, 3) := by decide +kernel
theorem d_TP_alike_40 : decode prog_1_method_34_code 40 = .ok (.iconst (-1), 1) := by decide +kernel
theorem d_TP_alike_41 : decode prog_1_method_34_code 41 = .ok (.ireturn, 1) := by decide +kernel
theorem d_TP_pair_0 : decode prog_1_method_35_code 0 = .ok (.aload_n 0, 1) := by decide +kernel
theorem d_TP_pair_1 : decode prog_1_method_35_code 1 = .ok (.invokevirtual 217, 3) := by decide +kernel
theorem d_TP_pair_4 : decode prog_1_method_35_code 4 = .ok (.iload_n 1, 1) := by decide +kernel
theorem d_TP_pair_5 : decode prog_1_method_35_code 5 = .ok (.invokevirtual 283, 3) := by decide +kernel
theorem d_TP_pair_8 : decode prog_1_method_35_code 8 = .ok (.ireturn, 1) := by decide +kernel
theorem d_TP_move_0 : decode prog_1_method_36_code 0 = .ok (.aload_n 0, 1) := by decide +kernel
theorem d_TP_move_1 : decode prog_1_method_36_code 1 = .ok (.getfield 10, 3) := by decide +kernel
theorem d_TP_move_4 : decode prog_1_method_36_code 4 = .ok (.getfield 128, 3) := by decide +kernel
theorem d_TP_move_7 : decode prog_1_method_36_code 7 = .ok (.iload_n 1, 1) := by decide +kernel
theorem d_TP_move_8 : decode prog_1_method_36_code 8 = .ok (.invokevirtual 163, 3) := by decide +kernel
theorem d_TP_move_11 : decode prog_1_method_36_code 11 = .ok (.ifCond .eq 20, 3) := by decide +kernel
theorem d_TP_move_14 : decode prog_1_method_36_code 14 = .ok (.aload_n 0, 1) := by decide +kernel
theorem d_TP_move_15 : decode prog_1_method_36_code 15 = .ok (.iload_n 2, 1) := by decide +kernel
theorem d_TP_move_16 : decode prog_1_method_36_code 16 = .ok (.invokevirtual 214, 3) := by decide +kernel
theorem d_TP_move_19 : decode prog_1_method_36_code 19 = .ok (.ifCond .eq 12, 3) := by decide +kernel
theorem d_TP_move_22 : decode prog_1_method_36_code 22 = .ok (.aload_n 0, 1) := by decide +kernel
theorem d_TP_move_23 : decode prog_1_method_36_code 23 = .ok (.iload_n 1, 1) := by decide +kernel
theorem d_TP_move_24 : decode prog_1_method_36_code 24 = .ok (.iload_n 2, 1) := by decide +kernel
theorem d_TP_move_25 : decode prog_1_method_36_code 25 = .ok (.invokevirtual 287, 3) := by decide +kernel
theorem d_TP_move_28 : decode prog_1_method_36_code 28 = .ok (.goto 4, 3) := by decide +kernel
theorem d_TP_move_31 : decode prog_1_method_36_code 31 = .ok (.iconst (-1), 1) := by decide +kernel
theorem d_TP_move_32 : decode prog_1_method_36_code 32 = .ok (.ireturn, 1) := by decide +kernel
theorem d_TP_nearestLean_0 : decode prog_1_method_70_code 0 = .ok (.aload_n 0, 1) := by decide +kernel
theorem d_TP_nearestLean_1 : decode prog_1_method_70_code 1 = .ok (.getfield 10, 3) := by decide +kernel
theorem d_TP_nearestLean_4 : decode prog_1_method_70_code 4 = .ok (.invokevirtual 186, 3) := by decide +kernel
theorem d_TP_nearestLean_7 : decode prog_1_method_70_code 7 = .ok (.astore_n 3, 1) := by decide +kernel
theorem d_TP_nearestLean_8 : decode prog_1_method_70_code 8 = .ok (.aload_n 0, 1) := by decide +kernel
theorem d_TP_nearestLean_9 : decode prog_1_method_70_code 9 = .ok (.getfield 31, 3) := by decide +kernel
theorem d_TP_nearestLean_12 : decode prog_1_method_70_code 12 = .ok (.aload_n 0, 1) := by decide +kernel
theorem d_TP_nearestLean_13 : decode prog_1_method_70_code 13 = .ok (.getfield 10, 3) := by decide +kernel
theorem d_TP_nearestLean_16 : decode prog_1_method_70_code 16 = .ok (.getfield 128, 3) := by decide +kernel
theorem d_TP_nearestLean_19 : decode prog_1_method_70_code 19 = .ok (.aload_n 3, 1) := by decide +kernel
theorem d_TP_nearestLean_20 : decode prog_1_method_70_code 20 = .ok (.iload_n 1, 1) := by decide +kernel
theorem d_TP_nearestLean_21 : decode prog_1_method_70_code 21 = .ok (.iload_n 2, 1) := by decide +kernel
theorem d_TP_nearestLean_22 : decode prog_1_method_70_code 22 = .ok (.invokevirtual 189, 3) := by decide +kernel
theorem d_TP_nearestLean_25 : decode prog_1_method_70_code 25 = .ok (.istore 4, 2) := by decide +kernel
theorem d_TP_nearestLean_27 : decode prog_1_method_70_code 27 = .ok (.aload_n 0, 1) := by decide +kernel
theorem d_TP_nearestLean_28 : decode prog_1_method_70_code 28 = .ok (.getfield 10, 3) := by decide +kernel
theorem d_TP_nearestLean_31 : decode prog_1_method_70_code 31 = .ok (.getfield 128, 3) := by decide +kernel
theorem d_TP_nearestLean_34 : decode prog_1_method_70_code 34 = .ok (.getfield 166, 3) := by decide +kernel
theorem d_TP_nearestLean_37 : decode prog_1_method_70_code 37 = .ok (.iload_n 1, 1) := by decide +kernel
theorem d_TP_nearestLean_38 : decode prog_1_method_70_code 38 = .ok (.invokestatic 169, 3) := by decide +kernel
theorem d_TP_nearestLean_41 : decode prog_1_method_70_code 41 = .ok (.istore 5, 2) := by decide +kernel
theorem d_TP_nearestLean_43 : decode prog_1_method_70_code 43 = .ok (.iconst (-1), 1) := by decide +kernel
theorem d_TP_nearestLean_44 : decode prog_1_method_70_code 44 = .ok (.istore 6, 2) := by decide +kernel
theorem d_TP_nearestLean_46 : decode prog_1_method_70_code 46 = .ok (.aload_n 0, 1) := by decide +kernel
theorem d_TP_nearestLean_47 : decode prog_1_method_70_code 47 = .ok (.getfield 22, 3) := by decide +kernel
theorem d_TP_nearestLean_50 : decode prog_1_method_70_code 50 = .ok (.aload_n 0, 1) := by decide +kernel
theorem d_TP_nearestLean_51 : decode prog_1_method_70_code 51 = .ok (.getfield 10, 3) := by decide +kernel
theorem d_TP_nearestLean_54 : decode prog_1_method_70_code 54 = .ok (.getfield 128, 3) := by decide +kernel
theorem d_TP_nearestLean_57 : decode prog_1_method_70_code 57 = .ok (.invokevirtual 206, 3) := by decide +kernel
theorem d_TP_nearestLean_60 : decode prog_1_method_70_code 60 = .ok (.bipush 9, 2) := by decide +kernel
theorem d_TP_nearestLean_62 : decode prog_1_method_70_code 62 = .ok (.istore 7, 2) := by decide +kernel
theorem d_TP_nearestLean_64 : decode prog_1_method_70_code 64 = .ok (.iload 7, 2) := by decide +kernel
theorem d_TP_nearestLean_66 : decode prog_1_method_70_code 66 = .ok (.ifCond .lt 82, 3) := by decide +kernel
theorem d_TP_nearestLean_69 : decode prog_1_method_70_code 69 = .ok (.aload_n 0, 1) := by decide +kernel
theorem d_TP_nearestLean_70 : decode prog_1_method_70_code 70 = .ok (.getfield 22, 3) := by decide +kernel
theorem d_TP_nearestLean_73 : decode prog_1_method_70_code 73 = .ok (.getfield 166, 3) := by decide +kernel
theorem d_TP_nearestLean_76 : decode prog_1_method_70_code 76 = .ok (.iload_n 1, 1) := by decide +kernel
theorem d_TP_nearestLean_77 : decode prog_1_method_70_code 77 = .ok (.iload 7, 2) := by decide +kernel
theorem d_TP_nearestLean_79 : decode prog_1_method_70_code 79 = .ok (.invokestatic 351, 3) := by decide +kernel
theorem d_TP_nearestLean_82 : decode prog_1_method_70_code 82 = .ok (.iload 6, 2) := by decide +kernel
theorem d_TP_nearestLean_84 : decode prog_1_method_70_code 84 = .ok (.iconst (-1), 1) := by decide +kernel
theorem d_TP_nearestLean_85 : decode prog_1_method_70_code 85 = .ok (.if_icmp .eq 22, 3) := by decide +kernel
theorem d_TP_nearestLean_88 : decode prog_1_method_70_code 88 = .ok (.iload 7, 2) := by decide +kernel
theorem d_TP_nearestLean_90 : decode prog_1_method_70_code 90 = .ok (.iload 5, 2) := by decide +kernel
theorem d_TP_nearestLean_92 : decode prog_1_method_70_code 92 = .ok (.isub, 1) := by decide +kernel
theorem d_TP_nearestLean_93 : decode prog_1_method_70_code 93 = .ok (.invokestatic 391, 3) := by decide +kernel
theorem d_TP_nearestLean_96 : decode prog_1_method_70_code 96 = .ok (.iload 6, 2) := by decide +kernel
theorem d_TP_nearestLean_98 : decode prog_1_method_70_code 98 = .ok (.iload 5, 2) := by decide +kernel
theorem d_TP_nearestLean_100 : decode prog_1_method_70_code 100 = .ok (.isub, 1) := by decide +kernel
theorem d_TP_nearestLean_101 : decode prog_1_method_70_code 101 = .ok (.invokestatic 391, 3) := by decide +kernel
theorem d_TP_nearestLean_104 : decode prog_1_method_70_code 104 = .ok (.if_icmp .gt 7, 3) := by decide +kernel
theorem d_TP_nearestLean_107 : decode prog_1_method_70_code 107 = .ok (.iconst 1, 1) := by decide +kernel
theorem d_TP_nearestLean_108 : decode prog_1_method_70_code 108 = .ok (.goto 4, 3) := by decide +kernel
theorem d_TP_nearestLean_111 : decode prog_1_method_70_code 111 = .ok (.iconst 0, 1) := by decide +kernel
theorem d_TP_nearestLean_112 : decode prog_1_method_70_code 112 = .ok (.istore 8, 2) := by decide +kernel
theorem d_TP_nearestLean_114 : decode prog_1_method_70_code 114 = .ok (.iload 8, 2) := by decide +kernel
theorem d_TP_nearestLean_116 : decode prog_1_method_70_code 116 = .ok (.ifCond .eq 26, 3) := by decide +kernel
theorem d_TP_nearestLean_119 : decode prog_1_method_70_code 119 = .ok (.aload_n 0, 1) := by decide +kernel
theorem d_TP_nearestLean_120 : decode prog_1_method_70_code 120 = .ok (.getfield 31, 3) := by decide +kernel
theorem d_TP_nearestLean_123 : decode prog_1_method_70_code 123 = .ok (.aload_n 0, 1) := by decide +kernel
theorem d_TP_nearestLean_124 : decode prog_1_method_70_code 124 = .ok (.getfield 22, 3) := by decide +kernel
theorem d_TP_nearestLean_127 : decode prog_1_method_70_code 127 = .ok (.aload_n 3, 1) := by decide +kernel
theorem d_TP_nearestLean_128 : decode prog_1_method_70_code 128 = .ok (.iload_n 1, 1) := by decide +kernel
theorem d_TP_nearestLean_129 : decode prog_1_method_70_code 129 = .ok (.iload_n 2, 1) := by decide +kernel
theorem d_TP_nearestLean_130 : decode prog_1_method_70_code 130 = .ok (.invokevirtual 189, 3) := by decide +kernel
theorem d_TP_nearestLean_133 : decode prog_1_method_70_code 133 = .ok (.iload 4, 2) := by decide +kernel
theorem d_TP_nearestLean_135 : decode prog_1_method_70_code 135 = .ok (.if_icmp .eq 7, 3) := by decide +kernel
theorem d_TP_nearestLean_138 : decode prog_1_method_70_code 138 = .ok (.iload 7, 2) := by decide +kernel
theorem d_TP_nearestLean_140 : decode prog_1_method_70_code 140 = .ok (.istore 6, 2) := by decide +kernel
theorem d_TP_nearestLean_142 : decode prog_1_method_70_code 142 = .ok (.iinc 7 (-1), 3) := by decide +kernel
theorem d_TP_nearestLean_145 : decode prog_1_method_70_code 145 = .ok (.goto (-81), 3) := by decide +kernel
theorem d_TP_nearestLean_148 : decode prog_1_method_70_code 148 = .ok (.iload 6, 2) := by decide +kernel
theorem d_TP_nearestLean_150 : decode prog_1_method_70_code 150 = .ok (.ireturn, 1) := by decide +kernel
theorem d_TP_cheapest_0 : decode prog_1_method_37_code 0 = .ok (.aload_n 0, 1) := by decide +kernel
theorem d_TP_cheapest_1 : decode prog_1_method_37_code 1 = .ok (.iload_n 1, 1) := by decide +kernel
theorem d_TP_cheapest_2 : decode prog_1_method_37_code 2 = .ok (.invokevirtual 214, 3) := by decide +kernel
theorem d_TP_cheapest_5 : decode prog_1_method_37_code 5 = .ok (.ifCond .eq 11, 3) := by decide +kernel
theorem d_TP_cheapest_8 : decode prog_1_method_37_code 8 = .ok (.aload_n 0, 1) := by decide +kernel
theorem d_TP_cheapest_9 : decode prog_1_method_37_code 9 = .ok (.iload_n 1, 1) := by decide +kernel
theorem d_TP_cheapest_10 : decode prog_1_method_37_code 10 = .ok (.invokevirtual 290, 3) := by decide +kernel
theorem d_TP_cheapest_13 : decode prog_1_method_37_code 13 = .ok (.goto 4, 3) := by decide +kernel
theorem d_TP_cheapest_16 : decode prog_1_method_37_code 16 = .ok (.iconst (-1), 1) := by decide +kernel
theorem d_TP_cheapest_17 : decode prog_1_method_37_code 17 = .ok (.ireturn, 1) := by decide +kernel
theorem d_TP_cheapestMoves_0 : decode prog_1_method_71_code 0 = .ok (.aload_n 0, 1) := by decide +kernel
theorem d_TP_cheapestMoves_1 : decode prog_1_method_71_code 1 = .ok (.invokevirtual 217, 3) := by decide +kernel
theorem d_TP_cheapestMoves_4 : decode prog_1_method_71_code 4 = .ok (.iload_n 1, 1) := by decide +kernel
theorem d_TP_cheapestMoves_5 : decode prog_1_method_71_code 5 = .ok (.invokevirtual 271, 3) := by decide +kernel
theorem d_TP_cheapestMoves_8 : decode prog_1_method_71_code 8 = .ok (.istore_n 2, 1) := by decide +kernel
theorem d_TP_cheapestMoves_9 : decode prog_1_method_71_code 9 = .ok (.iload_n 2, 1) := by decide +kernel
theorem d_TP_cheapestMoves_10 : decode prog_1_method_71_code 10 = .ok (.invokestatic 256, 3) := by decide +kernel
theorem d_TP_cheapestMoves_13 : decode prog_1_method_71_code 13 = .ok (.iload_n 1, 1) := by decide +kernel
theorem d_TP_cheapestMoves_14 : decode prog_1_method_71_code 14 = .ok (.isub, 1) := by decide +kernel
theorem d_TP_cheapestMoves_15 : decode prog_1_method_71_code 15 = .ok (.istore_n 3, 1) := by decide +kernel
theorem d_TP_cheapestMoves_16 : decode prog_1_method_71_code 16 = .ok (.iload_n 3, 1) := by decide +kernel
theorem d_TP_cheapestMoves_17 : decode prog_1_method_71_code 17 = .ok (.ifCond .le 7, 3) := by decide +kernel
theorem d_TP_cheapestMoves_20 : decode prog_1_method_71_code 20 = .ok (.iload_n 2, 1) := by decide +kernel
theorem d_TP_cheapestMoves_21 : decode prog_1_method_71_code 21 = .ok (.goto 6, 3) := by decide +kernel
theorem d_TP_cheapestMoves_24 : decode prog_1_method_71_code 24 = .ok (.iload_n 2, 1) := by decide +kernel
theorem d_TP_cheapestMoves_25 : decode prog_1_method_71_code 25 = .ok (.iconst (-1), 1) := by decide +kernel
theorem d_TP_cheapestMoves_26 : decode prog_1_method_71_code 26 = .ok (.ixor, 1) := by decide +kernel
theorem d_TP_cheapestMoves_27 : decode prog_1_method_71_code 27 = .ok (.istore 4, 2) := by decide +kernel
theorem d_TP_cheapestMoves_29 : decode prog_1_method_71_code 29 = .ok (.iload_n 3, 1) := by decide +kernel
theorem d_TP_cheapestMoves_30 : decode prog_1_method_71_code 30 = .ok (.invokestatic 391, 3) := by decide +kernel
theorem d_TP_cheapestMoves_33 : decode prog_1_method_71_code 33 = .ok (.istore 5, 2) := by decide +kernel
theorem d_TP_cheapestMoves_35 : decode prog_1_method_71_code 35 = .ok (.iload 5, 2) := by decide +kernel
theorem d_TP_cheapestMoves_37 : decode prog_1_method_71_code 37 = .ok (.ifCond .ne 5, 3) := by decide +kernel
theorem d_TP_cheapestMoves_40 : decode prog_1_method_71_code 40 = .ok (.iconst 0, 1) := by decide +kernel
theorem d_TP_cheapestMoves_41 : decode prog_1_method_71_code 41 = .ok (.ireturn, 1) := by decide +kernel
theorem d_TP_cheapestMoves_42 : decode prog_1_method_71_code 42 = .ok (.aload_n 0, 1) := by decide +kernel
theorem d_TP_cheapestMoves_43 : decode prog_1_method_71_code 43 = .ok (.iload 4, 2) := by decide +kernel
theorem d_TP_cheapestMoves_45 : decode prog_1_method_71_code 45 = .ok (.iload_n 1, 1) := by decide +kernel
theorem d_TP_cheapestMoves_46 : decode prog_1_method_71_code 46 = .ok (.invokevirtual 394, 3) := by decide +kernel
theorem d_TP_cheapestMoves_49 : decode prog_1_method_71_code 49 = .ok (.iconst 0, 1) := by decide +kernel
theorem d_TP_cheapestMoves_50 : decode prog_1_method_71_code 50 = .ok (.istore 6, 2) := by decide +kernel
theorem d_TP_cheapestMoves_52 : decode prog_1_method_71_code 52 = .ok (.iconst 1, 1) := by decide +kernel
theorem d_TP_cheapestMoves_53 : decode prog_1_method_71_code 53 = .ok (.istore 7, 2) := by decide +kernel
theorem d_TP_cheapestMoves_55 : decode prog_1_method_71_code 55 = .ok (.iload 7, 2) := by decide +kernel
theorem d_TP_cheapestMoves_57 : decode prog_1_method_71_code 57 = .ok (.bipush 9, 2) := by decide +kernel
theorem d_TP_cheapestMoves_59 : decode prog_1_method_71_code 59 = .ok (.if_icmp .gt 62, 3) := by decide +kernel
theorem d_TP_cheapestMoves_62 : decode prog_1_method_71_code 62 = .ok (.iconst 0, 1) := by decide +kernel
theorem d_TP_cheapestMoves_63 : decode prog_1_method_71_code 63 = .ok (.istore 8, 2) := by decide +kernel
theorem d_TP_cheapestMoves_65 : decode prog_1_method_71_code 65 = .ok (.iload 8, 2) := by decide +kernel
theorem d_TP_cheapestMoves_67 : decode prog_1_method_71_code 67 = .ok (.aload_n 0, 1) := by decide +kernel
theorem d_TP_cheapestMoves_68 : decode prog_1_method_71_code 68 = .ok (.getfield 10, 3) := by decide +kernel
theorem d_TP_cheapestMoves_71 : decode prog_1_method_71_code 71 = .ok (.getfield 128, 3) := by decide +kernel
theorem d_TP_cheapestMoves_74 : decode prog_1_method_71_code 74 = .ok (.getfield 310, 3) := by decide +kernel
theorem d_TP_cheapestMoves_77 : decode prog_1_method_71_code 77 = .ok (.if_icmp .ge 38, 3) := by decide +kernel
theorem d_TP_cheapestMoves_80 : decode prog_1_method_71_code 80 = .ok (.iload 5, 2) := by decide +kernel
theorem d_TP_cheapestMoves_82 : decode prog_1_method_71_code 82 = .ok (.ifCond .le 33, 3) := by decide +kernel
theorem d_TP_cheapestMoves_85 : decode prog_1_method_71_code 85 = .ok (.aload_n 0, 1) := by decide +kernel
theorem d_TP_cheapestMoves_86 : decode prog_1_method_71_code 86 = .ok (.getfield 71, 3) := by decide +kernel
theorem d_TP_cheapestMoves_89 : decode prog_1_method_71_code 89 = .ok (.iload 8, 2) := by decide +kernel
theorem d_TP_cheapestMoves_91 : decode prog_1_method_71_code 91 = .ok (.invokestatic 169, 3) := by decide +kernel
theorem d_TP_cheapestMoves_94 : decode prog_1_method_71_code 94 = .ok (.iload 7, 2) := by decide +kernel
theorem d_TP_cheapestMoves_96 : decode prog_1_method_71_code 96 = .ok (.if_icmp .ne 13, 3) := by decide +kernel
theorem d_TP_cheapestMoves_99 : decode prog_1_method_71_code 99 = .ok (.iload 6, 2) := by decide +kernel
theorem d_TP_cheapestMoves_101 : decode prog_1_method_71_code 101 = .ok (.iload 7, 2) := by decide +kernel
theorem d_TP_cheapestMoves_103 : decode prog_1_method_71_code 103 = .ok (.iadd, 1) := by decide +kernel
theorem d_TP_cheapestMoves_104 : decode prog_1_method_71_code 104 = .ok (.istore 6, 2) := by decide +kernel
theorem d_TP_cheapestMoves_106 : decode prog_1_method_71_code 106 = .ok (.iinc 5 (-1), 3) := by decide +kernel
theorem d_TP_cheapestMoves_109 : decode prog_1_method_71_code 109 = .ok (.iinc 8 1, 3) := by decide +kernel
theorem d_TP_cheapestMoves_112 : decode prog_1_method_71_code 112 = .ok (.goto (-47), 3) := by decide +kernel
theorem d_TP_cheapestMoves_115 : decode prog_1_method_71_code 115 = .ok (.iinc 7 1, 3) := by decide +kernel
theorem d_TP_cheapestMoves_118 : decode prog_1_method_71_code 118 = .ok (.goto (-63), 3) := by decide +kernel
theorem d_TP_cheapestMoves_121 : decode prog_1_method_71_code 121 = .ok (.iload 5, 2) := by decide +kernel
theorem d_TP_cheapestMoves_123 : decode prog_1_method_71_code 123 = .ok (.ifCond .ne 8, 3) := by decide +kernel
theorem d_TP_cheapestMoves_126 : decode prog_1_method_71_code 126 = .ok (.iload 6, 2) := by decide +kernel
theorem d_TP_cheapestMoves_128 : decode prog_1_method_71_code 128 = .ok (.goto 4, 3) := by decide +kernel
theorem d_TP_cheapestMoves_131 : decode prog_1_method_71_code 131 = .ok (.iconst (-1), 1) := by decide +kernel
theorem d_TP_cheapestMoves_132 : decode prog_1_method_71_code 132 = .ok (.ireturn, 1) := by decide +kernel
theorem d_TP_fillCosts_0 : decode prog_1_method_72_code 0 = .ok (.iconst 0, 1) := by decide +kernel
theorem d_TP_fillCosts_1 : decode prog_1_method_72_code 1 = .ok (.istore_n 3, 1) := by decide +kernel
theorem d_TP_fillCosts_2 : decode prog_1_method_72_code 2 = .ok (.iload_n 3, 1) := by decide +kernel
theorem d_TP_fillCosts_3 : decode prog_1_method_72_code 3 = .ok (.aload_n 0, 1) := by decide +kernel
theorem d_TP_fillCosts_4 : decode prog_1_method_72_code 4 = .ok (.getfield 10, 3) := by decide +kernel
theorem d_TP_fillCosts_7 : decode prog_1_method_72_code 7 = .ok (.getfield 128, 3) := by decide +kernel
theorem d_TP_fillCosts_10 : decode prog_1_method_72_code 10 = .ok (.getfield 310, 3) := by decide +kernel
theorem d_TP_fillCosts_13 : decode prog_1_method_72_code 13 = .ok (.if_icmp .ge 68, 3) := by decide +kernel
theorem d_TP_fillCosts_16 : decode prog_1_method_72_code 16 = .ok (.iload_n 1, 1) := by decide +kernel
theorem d_TP_fillCosts_17 : decode prog_1_method_72_code 17 = .ok (.iload_n 3, 1) := by decide +kernel
theorem d_TP_fillCosts_18 : decode prog_1_method_72_code 18 = .ok (.ishr, 1) := by decide +kernel
theorem d_TP_fillCosts_19 : decode prog_1_method_72_code 19 = .ok (.iconst 1, 1) := by decide +kernel
theorem d_TP_fillCosts_20 : decode prog_1_method_72_code 20 = .ok (.iand, 1) := by decide +kernel
theorem d_TP_fillCosts_21 : decode prog_1_method_72_code 21 = .ok (.iconst 1, 1) := by decide +kernel
theorem d_TP_fillCosts_22 : decode prog_1_method_72_code 22 = .ok (.if_icmp .ne 12, 3) := by decide +kernel
theorem d_TP_fillCosts_25 : decode prog_1_method_72_code 25 = .ok (.aload_n 0, 1) := by decide +kernel
theorem d_TP_fillCosts_26 : decode prog_1_method_72_code 26 = .ok (.iload_n 3, 1) := by decide +kernel
theorem d_TP_fillCosts_27 : decode prog_1_method_72_code 27 = .ok (.iload_n 2, 1) := by decide +kernel
theorem d_TP_fillCosts_28 : decode prog_1_method_72_code 28 = .ok (.invokevirtual 287, 3) := by decide +kernel
theorem d_TP_fillCosts_31 : decode prog_1_method_72_code 31 = .ok (.goto 4, 3) := by decide +kernel
theorem d_TP_fillCosts_34 : decode prog_1_method_72_code 34 = .ok (.iconst (-1), 1) := by decide +kernel
theorem d_TP_fillCosts_35 : decode prog_1_method_72_code 35 = .ok (.istore 4, 2) := by decide +kernel
theorem d_TP_fillCosts_37 : decode prog_1_method_72_code 37 = .ok (.aload_n 0, 1) := by decide +kernel
theorem d_TP_fillCosts_38 : decode prog_1_method_72_code 38 = .ok (.getfield 71, 3) := by decide +kernel
theorem d_TP_fillCosts_41 : decode prog_1_method_72_code 41 = .ok (.iload_n 3, 1) := by decide +kernel
theorem d_TP_fillCosts_42 : decode prog_1_method_72_code 42 = .ok (.iload 4, 2) := by decide +kernel
theorem d_TP_fillCosts_44 : decode prog_1_method_72_code 44 = .ok (.iconst (-1), 1) := by decide +kernel
theorem d_TP_fillCosts_45 : decode prog_1_method_72_code 45 = .ok (.if_icmp .ne 7, 3) := by decide +kernel
theorem d_TP_fillCosts_48 : decode prog_1_method_72_code 48 = .ok (.iconst 0, 1) := by decide +kernel
theorem d_TP_fillCosts_49 : decode prog_1_method_72_code 49 = .ok (.goto 23, 3) := by decide +kernel
theorem d_TP_fillCosts_52 : decode prog_1_method_72_code 52 = .ok (.iload 4, 2) := by decide +kernel
theorem d_TP_fillCosts_54 : decode prog_1_method_72_code 54 = .ok (.aload_n 0, 1) := by decide +kernel
theorem d_TP_fillCosts_55 : decode prog_1_method_72_code 55 = .ok (.getfield 10, 3) := by decide +kernel
theorem d_TP_fillCosts_58 : decode prog_1_method_72_code 58 = .ok (.getfield 128, 3) := by decide +kernel
theorem d_TP_fillCosts_61 : decode prog_1_method_72_code 61 = .ok (.getfield 166, 3) := by decide +kernel
theorem d_TP_fillCosts_64 : decode prog_1_method_72_code 64 = .ok (.iload_n 3, 1) := by decide +kernel
theorem d_TP_fillCosts_65 : decode prog_1_method_72_code 65 = .ok (.invokestatic 169, 3) := by decide +kernel
theorem d_TP_fillCosts_68 : decode prog_1_method_72_code 68 = .ok (.isub, 1) := by decide +kernel
theorem d_TP_fillCosts_69 : decode prog_1_method_72_code 69 = .ok (.invokestatic 391, 3) := by decide +kernel
theorem d_TP_fillCosts_72 : decode prog_1_method_72_code 72 = .ok (.invokestatic 351, 3) := by decide +kernel
theorem d_TP_fillCosts_75 : decode prog_1_method_72_code 75 = .ok (.iinc 3 1, 3) := by decide +kernel
theorem d_TP_fillCosts_78 : decode prog_1_method_72_code 78 = .ok (.goto (-76), 3) := by decide +kernel
theorem d_TP_fillCosts_81 : decode prog_1_method_72_code 81 = .ok (.return_, 1) := by decide +kernel
theorem d_TP_sure_0 : decode prog_1_method_38_code 0 = .ok (.iload_n 1, 1) := by decide +kernel
theorem d_TP_sure_1 : decode prog_1_method_38_code 1 = .ok (.ifCond .lt 19, 3) := by decide +kernel
theorem d_TP_sure_4 : decode prog_1_method_38_code 4 = .ok (.iload_n 1, 1) := by decide +kernel
theorem d_TP_sure_5 : decode prog_1_method_38_code 5 = .ok (.bipush 8, 2) := by decide +kernel
theorem d_TP_sure_7 : decode prog_1_method_38_code 7 = .ok (.if_icmp .gt 13, 3) := by decide +kernel
theorem d_TP_sure_10 : decode prog_1_method_38_code 10 = .ok (.iload_n 2, 1) := by decide +kernel
theorem d_TP_sure_11 : decode prog_1_method_38_code 11 = .ok (.ifCond .lt 9, 3) := by decide +kernel
theorem d_TP_sure_14 : decode prog_1_method_38_code 14 = .ok (.iload_n 2, 1) := by decide +kernel
theorem d_TP_sure_15 : decode prog_1_method_38_code 15 = .ok (.bipush 10, 2) := by decide +kernel
theorem d_TP_sure_17 : decode prog_1_method_38_code 17 = .ok (.if_icmp .le 7, 3) := by decide +kernel
theorem d_TP_sure_20 : decode prog_1_method_38_code 20 = .ok (.ldc2_w 293, 3) := by decide +kernel
theorem d_TP_sure_23 : decode prog_1_method_38_code 23 = .ok (.lreturn, 1) := by decide +kernel
theorem d_TP_sure_24 : decode prog_1_method_38_code 24 = .ok (.aload_n 0, 1) := by decide +kernel
theorem d_TP_sure_25 : decode prog_1_method_38_code 25 = .ok (.iload_n 1, 1) := by decide +kernel
theorem d_TP_sure_26 : decode prog_1_method_38_code 26 = .ok (.iload_n 2, 1) := by decide +kernel
theorem d_TP_sure_27 : decode prog_1_method_38_code 27 = .ok (.invokevirtual 295, 3) := by decide +kernel
theorem d_TP_sure_30 : decode prog_1_method_38_code 30 = .ok (.aload_n 0, 1) := by decide +kernel
theorem d_TP_sure_31 : decode prog_1_method_38_code 31 = .ok (.invokevirtual 299, 3) := by decide +kernel
theorem d_TP_sure_34 : decode prog_1_method_38_code 34 = .ok (.iload_n 3, 1) := by decide +kernel
theorem d_TP_sure_35 : decode prog_1_method_38_code 35 = .ok (.invokestatic 303, 3) := by decide +kernel
theorem d_TP_sure_38 : decode prog_1_method_38_code 38 = .ok (.lreturn, 1) := by decide +kernel
theorem d_TP_waysFor_0 : decode prog_1_method_73_code 0 = .ok (.aload_n 0, 1) := by decide +kernel
theorem d_TP_waysFor_1 : decode prog_1_method_73_code 1 = .ok (.invokevirtual 307, 3) := by decide +kernel
theorem d_TP_waysFor_4 : decode prog_1_method_73_code 4 = .ok (.istore_n 3, 1) := by decide +kernel
theorem d_TP_waysFor_5 : decode prog_1_method_73_code 5 = .ok (.aload_n 0, 1) := by decide +kernel
theorem d_TP_waysFor_6 : decode prog_1_method_73_code 6 = .ok (.getfield 67, 3) := by decide +kernel
theorem d_TP_waysFor_9 : decode prog_1_method_73_code 9 = .ok (.lconst 0, 1) := by decide +kernel
theorem d_TP_waysFor_10 : decode prog_1_method_73_code 10 = .ok (.invokestatic 397, 3) := by decide +kernel
theorem d_TP_waysFor_13 : decode prog_1_method_73_code 13 = .ok (.aload_n 0, 1) := by decide +kernel
theorem d_TP_waysFor_14 : decode prog_1_method_73_code 14 = .ok (.getfield 67, 3) := by decide +kernel
theorem d_TP_waysFor_17 : decode prog_1_method_73_code 17 = .ok (.iconst 0, 1) := by decide +kernel
theorem d_TP_waysFor_18 : decode prog_1_method_73_code 18 = .ok (.lconst 1, 1) := by decide +kernel
theorem d_TP_waysFor_19 : decode prog_1_method_73_code 19 = .ok (.lastore, 1) := by decide +kernel
theorem d_TP_waysFor_20 : decode prog_1_method_73_code 20 = .ok (.iconst 0, 1) := by decide +kernel
theorem d_TP_waysFor_21 : decode prog_1_method_73_code 21 = .ok (.istore 4, 2) := by decide +kernel
theorem d_TP_waysFor_23 : decode prog_1_method_73_code 23 = .ok (.iload 4, 2) := by decide +kernel
theorem d_TP_waysFor_25 : decode prog_1_method_73_code 25 = .ok (.aload_n 0, 1) := by decide +kernel
theorem d_TP_waysFor_26 : decode prog_1_method_73_code 26 = .ok (.getfield 10, 3) := by decide +kernel
theorem d_TP_waysFor_29 : decode prog_1_method_73_code 29 = .ok (.getfield 128, 3) := by decide +kernel
theorem d_TP_waysFor_32 : decode prog_1_method_73_code 32 = .ok (.getfield 310, 3) := by decide +kernel
theorem d_TP_waysFor_35 : decode prog_1_method_73_code 35 = .ok (.if_icmp .ge 103, 3) := by decide +kernel
theorem d_TP_waysFor_38 : decode prog_1_method_73_code 38 = .ok (.iload_n 3, 1) := by decide +kernel
theorem d_TP_waysFor_39 : decode prog_1_method_73_code 39 = .ok (.iload 4, 2) := by decide +kernel
theorem d_TP_waysFor_41 : decode prog_1_method_73_code 41 = .ok (.ishr, 1) := by decide +kernel
theorem d_TP_waysFor_42 : decode prog_1_method_73_code 42 = .ok (.iconst 1, 1) := by decide +kernel
theorem d_TP_waysFor_43 : decode prog_1_method_73_code 43 = .ok (.iand, 1) := by decide +kernel
theorem d_TP_waysFor_44 : decode prog_1_method_73_code 44 = .ok (.iconst 1, 1) := by decide +kernel
theorem d_TP_waysFor_45 : decode prog_1_method_73_code 45 = .ok (.if_icmp .ne 10, 3) := by decide +kernel
theorem d_TP_waysFor_48 : decode prog_1_method_73_code 48 = .ok (.bipush 10, 2) := by decide +kernel
theorem d_TP_waysFor_50 : decode prog_1_method_73_code 50 = .ok (.iload_n 2, 1) := by decide +kernel
theorem d_TP_waysFor_51 : decode prog_1_method_73_code 51 = .ok (.isub, 1) := by decide +kernel
theorem d_TP_waysFor_52 : decode prog_1_method_73_code 52 = .ok (.goto 4, 3) := by decide +kernel
theorem d_TP_waysFor_55 : decode prog_1_method_73_code 55 = .ok (.iload_n 2, 1) := by decide +kernel
theorem d_TP_waysFor_56 : decode prog_1_method_73_code 56 = .ok (.istore 5, 2) := by decide +kernel
theorem d_TP_waysFor_58 : decode prog_1_method_73_code 58 = .ok (.aload_n 0, 1) := by decide +kernel
theorem d_TP_waysFor_59 : decode prog_1_method_73_code 59 = .ok (.getfield 67, 3) := by decide +kernel
theorem d_TP_waysFor_62 : decode prog_1_method_73_code 62 = .ok (.arraylength, 1) := by decide +kernel
theorem d_TP_waysFor_63 : decode prog_1_method_73_code 63 = .ok (.iconst 1, 1) := by decide +kernel
theorem d_TP_waysFor_64 : decode prog_1_method_73_code 64 = .ok (.isub, 1) := by decide +kernel
theorem d_TP_waysFor_65 : decode prog_1_method_73_code 65 = .ok (.istore 6, 2) := by decide +kernel
theorem d_TP_waysFor_67 : decode prog_1_method_73_code 67 = .ok (.iload 6, 2) := by decide +kernel
theorem d_TP_waysFor_69 : decode prog_1_method_73_code 69 = .ok (.ifCond .le 44, 3) := by decide +kernel
theorem d_TP_waysFor_72 : decode prog_1_method_73_code 72 = .ok (.aload_n 0, 1) := by decide +kernel
theorem d_TP_waysFor_73 : decode prog_1_method_73_code 73 = .ok (.getfield 67, 3) := by decide +kernel
theorem d_TP_waysFor_76 : decode prog_1_method_73_code 76 = .ok (.iload 6, 2) := by decide +kernel
theorem d_TP_waysFor_78 : decode prog_1_method_73_code 78 = .ok (.aload_n 0, 1) := by decide +kernel
theorem d_TP_waysFor_79 : decode prog_1_method_73_code 79 = .ok (.getfield 67, 3) := by decide +kernel
theorem d_TP_waysFor_82 : decode prog_1_method_73_code 82 = .ok (.iload 6, 2) := by decide +kernel
theorem d_TP_waysFor_84 : decode prog_1_method_73_code 84 = .ok (.laload, 1) := by decide +kernel
theorem d_TP_waysFor_85 : decode prog_1_method_73_code 85 = .ok (.bipush 10, 2) := by decide +kernel
theorem d_TP_waysFor_87 : decode prog_1_method_73_code 87 = .ok (.iload 5, 2) := by decide +kernel
theorem d_TP_waysFor_89 : decode prog_1_method_73_code 89 = .ok (.isub, 1) := by decide +kernel
theorem d_TP_waysFor_90 : decode prog_1_method_73_code 90 = .ok (.i2l, 1) := by decide +kernel
theorem d_TP_waysFor_91 : decode prog_1_method_73_code 91 = .ok (.lmul, 1) := by decide +kernel
theorem d_TP_waysFor_92 : decode prog_1_method_73_code 92 = .ok (.aload_n 0, 1) := by decide +kernel
theorem d_TP_waysFor_93 : decode prog_1_method_73_code 93 = .ok (.getfield 67, 3) := by decide +kernel
theorem d_TP_waysFor_96 : decode prog_1_method_73_code 96 = .ok (.iload 6, 2) := by decide +kernel
theorem d_TP_waysFor_98 : decode prog_1_method_73_code 98 = .ok (.iconst 1, 1) := by decide +kernel
theorem d_TP_waysFor_99 : decode prog_1_method_73_code 99 = .ok (.isub, 1) := by decide +kernel
theorem d_TP_waysFor_100 : decode prog_1_method_73_code 100 = .ok (.laload, 1) := by decide +kernel
theorem d_TP_waysFor_101 : decode prog_1_method_73_code 101 = .ok (.iload 5, 2) := by decide +kernel
theorem d_TP_waysFor_103 : decode prog_1_method_73_code 103 = .ok (.i2l, 1) := by decide +kernel
theorem d_TP_waysFor_104 : decode prog_1_method_73_code 104 = .ok (.lmul, 1) := by decide +kernel
theorem d_TP_waysFor_105 : decode prog_1_method_73_code 105 = .ok (.ladd, 1) := by decide +kernel
theorem d_TP_waysFor_106 : decode prog_1_method_73_code 106 = .ok (.lastore, 1) := by decide +kernel
theorem d_TP_waysFor_107 : decode prog_1_method_73_code 107 = .ok (.iinc 6 (-1), 3) := by decide +kernel
theorem d_TP_waysFor_110 : decode prog_1_method_73_code 110 = .ok (.goto (-43), 3) := by decide +kernel
theorem d_TP_waysFor_113 : decode prog_1_method_73_code 113 = .ok (.aload_n 0, 1) := by decide +kernel
theorem d_TP_waysFor_114 : decode prog_1_method_73_code 114 = .ok (.getfield 67, 3) := by decide +kernel
theorem d_TP_waysFor_117 : decode prog_1_method_73_code 117 = .ok (.iconst 0, 1) := by decide +kernel
theorem d_TP_waysFor_118 : decode prog_1_method_73_code 118 = .ok (.aload_n 0, 1) := by decide +kernel
theorem d_TP_waysFor_119 : decode prog_1_method_73_code 119 = .ok (.getfield 67, 3) := by decide +kernel
theorem d_TP_waysFor_122 : decode prog_1_method_73_code 122 = .ok (.iconst 0, 1) := by decide +kernel
theorem d_TP_waysFor_123 : decode prog_1_method_73_code 123 = .ok (.laload, 1) := by decide +kernel
theorem d_TP_waysFor_124 : decode prog_1_method_73_code 124 = .ok (.bipush 10, 2) := by decide +kernel
theorem d_TP_waysFor_126 : decode prog_1_method_73_code 126 = .ok (.iload 5, 2) := by decide +kernel
theorem d_TP_waysFor_128 : decode prog_1_method_73_code 128 = .ok (.isub, 1) := by decide +kernel
theorem d_TP_waysFor_129 : decode prog_1_method_73_code 129 = .ok (.i2l, 1) := by decide +kernel
theorem d_TP_waysFor_130 : decode prog_1_method_73_code 130 = .ok (.lmul, 1) := by decide +kernel
theorem d_TP_waysFor_131 : decode prog_1_method_73_code 131 = .ok (.lastore, 1) := by decide +kernel
theorem d_TP_waysFor_132 : decode prog_1_method_73_code 132 = .ok (.iinc 4 1, 3) := by decide +kernel
theorem d_TP_waysFor_135 : decode prog_1_method_73_code 135 = .ok (.goto (-112), 3) := by decide +kernel
theorem d_TP_waysFor_138 : decode prog_1_method_73_code 138 = .ok (.iload_n 1, 1) := by decide +kernel
theorem d_TP_waysFor_139 : decode prog_1_method_73_code 139 = .ok (.ifCond .lt 21, 3) := by decide +kernel
theorem d_TP_waysFor_142 : decode prog_1_method_73_code 142 = .ok (.iload_n 1, 1) := by decide +kernel
theorem d_TP_waysFor_143 : decode prog_1_method_73_code 143 = .ok (.aload_n 0, 1) := by decide +kernel
theorem d_TP_waysFor_144 : decode prog_1_method_73_code 144 = .ok (.getfield 67, 3) := by decide +kernel
theorem d_TP_waysFor_147 : decode prog_1_method_73_code 147 = .ok (.arraylength, 1) := by decide +kernel
theorem d_TP_waysFor_148 : decode prog_1_method_73_code 148 = .ok (.if_icmp .ge 12, 3) := by decide +kernel
theorem d_TP_waysFor_151 : decode prog_1_method_73_code 151 = .ok (.aload_n 0, 1) := by decide +kernel
theorem d_TP_waysFor_152 : decode prog_1_method_73_code 152 = .ok (.getfield 67, 3) := by decide +kernel
theorem d_TP_waysFor_155 : decode prog_1_method_73_code 155 = .ok (.iload_n 1, 1) := by decide +kernel
theorem d_TP_waysFor_156 : decode prog_1_method_73_code 156 = .ok (.laload, 1) := by decide +kernel
theorem d_TP_waysFor_157 : decode prog_1_method_73_code 157 = .ok (.goto 4, 3) := by decide +kernel
theorem d_TP_waysFor_160 : decode prog_1_method_73_code 160 = .ok (.lconst 0, 1) := by decide +kernel
theorem d_TP_waysFor_161 : decode prog_1_method_73_code 161 = .ok (.lreturn, 1) := by decide +kernel
theorem d_TP_yesAsNow_0 : decode prog_1_method_69_code 0 = .ok (.aload_n 0, 1) := by decide +kernel
theorem d_TP_yesAsNow_1 : decode prog_1_method_69_code 1 = .ok (.getfield 31, 3) := by decide +kernel
theorem d_TP_yesAsNow_4 : decode prog_1_method_69_code 4 = .ok (.aload_n 0, 1) := by decide +kernel
theorem d_TP_yesAsNow_5 : decode prog_1_method_69_code 5 = .ok (.getfield 10, 3) := by decide +kernel
theorem d_TP_yesAsNow_8 : decode prog_1_method_69_code 8 = .ok (.getfield 128, 3) := by decide +kernel
theorem d_TP_yesAsNow_11 : decode prog_1_method_69_code 11 = .ok (.aload_n 0, 1) := by decide +kernel
theorem d_TP_yesAsNow_12 : decode prog_1_method_69_code 12 = .ok (.getfield 10, 3) := by decide +kernel
theorem d_TP_yesAsNow_15 : decode prog_1_method_69_code 15 = .ok (.invokevirtual 186, 3) := by decide +kernel
theorem d_TP_yesAsNow_18 : decode prog_1_method_69_code 18 = .ok (.aload_n 0, 1) := by decide +kernel
theorem d_TP_yesAsNow_19 : decode prog_1_method_69_code 19 = .ok (.getfield 10, 3) := by decide +kernel
theorem d_TP_yesAsNow_22 : decode prog_1_method_69_code 22 = .ok (.getfield 128, 3) := by decide +kernel
theorem d_TP_yesAsNow_25 : decode prog_1_method_69_code 25 = .ok (.getfield 131, 3) := by decide +kernel
theorem d_TP_yesAsNow_28 : decode prog_1_method_69_code 28 = .ok (.invokevirtual 387, 3) := by decide +kernel
theorem d_TP_yesAsNow_31 : decode prog_1_method_69_code 31 = .ok (.ireturn, 1) := by decide +kernel
theorem d_TP_allWays_0 : decode prog_1_method_74_code 0 = .ok (.lconst 1, 1) := by decide +kernel
theorem d_TP_allWays_1 : decode prog_1_method_74_code 1 = .ok (.lstore_n 1, 1) := by decide +kernel
theorem d_TP_allWays_2 : decode prog_1_method_74_code 2 = .ok (.iconst 0, 1) := by decide +kernel
theorem d_TP_allWays_3 : decode prog_1_method_74_code 3 = .ok (.istore_n 3, 1) := by decide +kernel
theorem d_TP_allWays_4 : decode prog_1_method_74_code 4 = .ok (.iload_n 3, 1) := by decide +kernel
theorem d_TP_allWays_5 : decode prog_1_method_74_code 5 = .ok (.aload_n 0, 1) := by decide +kernel
theorem d_TP_allWays_6 : decode prog_1_method_74_code 6 = .ok (.getfield 10, 3) := by decide +kernel
theorem d_TP_allWays_9 : decode prog_1_method_74_code 9 = .ok (.getfield 128, 3) := by decide +kernel
theorem d_TP_allWays_12 : decode prog_1_method_74_code 12 = .ok (.getfield 310, 3) := by decide +kernel
theorem d_TP_allWays_15 : decode prog_1_method_74_code 15 = .ok (.if_icmp .ge 15, 3) := by decide +kernel
theorem d_TP_allWays_18 : decode prog_1_method_74_code 18 = .ok (.lload_n 1, 1) := by decide +kernel
theorem d_TP_allWays_19 : decode prog_1_method_74_code 19 = .ok (.ldc2_w 313, 3) := by decide +kernel
theorem d_TP_allWays_22 : decode prog_1_method_74_code 22 = .ok (.lmul, 1) := by decide +kernel
theorem d_TP_allWays_23 : decode prog_1_method_74_code 23 = .ok (.lstore_n 1, 1) := by decide +kernel
theorem d_TP_allWays_24 : decode prog_1_method_74_code 24 = .ok (.iinc 3 1, 3) := by decide +kernel
theorem d_TP_allWays_27 : decode prog_1_method_74_code 27 = .ok (.goto (-23), 3) := by decide +kernel
theorem d_TP_allWays_30 : decode prog_1_method_74_code 30 = .ok (.lload_n 1, 1) := by decide +kernel
theorem d_TP_allWays_31 : decode prog_1_method_74_code 31 = .ok (.lreturn, 1) := by decide +kernel
theorem d_TP_inLowestTerms_0 : decode prog_1_method_75_code 0 = .ok (.lload_n 2, 1) := by decide +kernel
theorem d_TP_inLowestTerms_1 : decode prog_1_method_75_code 1 = .ok (.lstore 5, 2) := by decide +kernel
theorem d_TP_inLowestTerms_3 : decode prog_1_method_75_code 3 = .ok (.lload_n 0, 1) := by decide +kernel
theorem d_TP_inLowestTerms_4 : decode prog_1_method_75_code 4 = .ok (.lstore 7, 2) := by decide +kernel
theorem d_TP_inLowestTerms_6 : decode prog_1_method_75_code 6 = .ok (.iconst 0, 1) := by decide +kernel
theorem d_TP_inLowestTerms_7 : decode prog_1_method_75_code 7 = .ok (.istore 9, 2) := by decide +kernel
theorem d_TP_inLowestTerms_9 : decode prog_1_method_75_code 9 = .ok (.iload 9, 2) := by decide +kernel
theorem d_TP_inLowestTerms_11 : decode prog_1_method_75_code 11 = .ok (.sipush 200, 3) := by decide +kernel
theorem d_TP_inLowestTerms_14 : decode prog_1_method_75_code 14 = .ok (.if_icmp .ge 31, 3) := by decide +kernel
theorem d_TP_inLowestTerms_17 : decode prog_1_method_75_code 17 = .ok (.lload 7, 2) := by decide +kernel
theorem d_TP_inLowestTerms_19 : decode prog_1_method_75_code 19 = .ok (.lconst 0, 1) := by decide +kernel
theorem d_TP_inLowestTerms_20 : decode prog_1_method_75_code 20 = .ok (.lcmp, 1) := by decide +kernel
theorem d_TP_inLowestTerms_21 : decode prog_1_method_75_code 21 = .ok (.ifCond .eq 24, 3) := by decide +kernel
theorem d_TP_inLowestTerms_24 : decode prog_1_method_75_code 24 = .ok (.lload 5, 2) := by decide +kernel
theorem d_TP_inLowestTerms_26 : decode prog_1_method_75_code 26 = .ok (.lload 7, 2) := by decide +kernel
theorem d_TP_inLowestTerms_28 : decode prog_1_method_75_code 28 = .ok (.lrem, 1) := by decide +kernel
theorem d_TP_inLowestTerms_29 : decode prog_1_method_75_code 29 = .ok (.lstore 10, 2) := by decide +kernel
theorem d_TP_inLowestTerms_31 : decode prog_1_method_75_code 31 = .ok (.lload 7, 2) := by decide +kernel
theorem d_TP_inLowestTerms_33 : decode prog_1_method_75_code 33 = .ok (.lstore 5, 2) := by decide +kernel
theorem d_TP_inLowestTerms_35 : decode prog_1_method_75_code 35 = .ok (.lload 10, 2) := by decide +kernel
theorem d_TP_inLowestTerms_37 : decode prog_1_method_75_code 37 = .ok (.lstore 7, 2) := by decide +kernel
theorem d_TP_inLowestTerms_39 : decode prog_1_method_75_code 39 = .ok (.iinc 9 1, 3) := by decide +kernel
theorem d_TP_inLowestTerms_42 : decode prog_1_method_75_code 42 = .ok (.goto (-33), 3) := by decide +kernel
theorem d_TP_inLowestTerms_45 : decode prog_1_method_75_code 45 = .ok (.lload 5, 2) := by decide +kernel
theorem d_TP_inLowestTerms_47 : decode prog_1_method_75_code 47 = .ok (.lconst 0, 1) := by decide +kernel
theorem d_TP_inLowestTerms_48 : decode prog_1_method_75_code 48 = .ok (.lcmp, 1) := by decide +kernel
theorem d_TP_inLowestTerms_49 : decode prog_1_method_75_code 49 = .ok (.ifCond .ne 7, 3) := by decide +kernel
theorem d_TP_inLowestTerms_52 : decode prog_1_method_75_code 52 = .ok (.ldc2_w 293, 3) := by decide +kernel
theorem d_TP_inLowestTerms_55 : decode prog_1_method_75_code 55 = .ok (.lreturn, 1) := by decide +kernel
theorem d_TP_inLowestTerms_56 : decode prog_1_method_75_code 56 = .ok (.iload 4, 2) := by decide +kernel
theorem d_TP_inLowestTerms_58 : decode prog_1_method_75_code 58 = .ok (.ifCond .eq 7, 3) := by decide +kernel
theorem d_TP_inLowestTerms_61 : decode prog_1_method_75_code 61 = .ok (.lload_n 2, 1) := by decide +kernel
theorem d_TP_inLowestTerms_62 : decode prog_1_method_75_code 62 = .ok (.goto 4, 3) := by decide +kernel
theorem d_TP_inLowestTerms_65 : decode prog_1_method_75_code 65 = .ok (.lload_n 0, 1) := by decide +kernel
theorem d_TP_inLowestTerms_66 : decode prog_1_method_75_code 66 = .ok (.lload 5, 2) := by decide +kernel
theorem d_TP_inLowestTerms_68 : decode prog_1_method_75_code 68 = .ok (.ldiv, 1) := by decide +kernel
theorem d_TP_inLowestTerms_69 : decode prog_1_method_75_code 69 = .ok (.lreturn, 1) := by decide +kernel
theorem d_TP_mean_0 : decode prog_1_method_39_code 0 = .ok (.iload_n 1, 1) := by decide +kernel
theorem d_TP_mean_1 : decode prog_1_method_39_code 1 = .ok (.ifCond .lt 9, 3) := by decide +kernel
theorem d_TP_mean_4 : decode prog_1_method_39_code 4 = .ok (.iload_n 1, 1) := by decide +kernel
theorem d_TP_mean_5 : decode prog_1_method_39_code 5 = .ok (.bipush 10, 2) := by decide +kernel
theorem d_TP_mean_7 : decode prog_1_method_39_code 7 = .ok (.if_icmp .le 7, 3) := by decide +kernel
theorem d_TP_mean_10 : decode prog_1_method_39_code 10 = .ok (.ldc2_w 293, 3) := by decide +kernel
theorem d_TP_mean_13 : decode prog_1_method_39_code 13 = .ok (.lreturn, 1) := by decide +kernel
theorem d_TP_mean_14 : decode prog_1_method_39_code 14 = .ok (.aload_n 0, 1) := by decide +kernel
theorem d_TP_mean_15 : decode prog_1_method_39_code 15 = .ok (.invokevirtual 307, 3) := by decide +kernel
theorem d_TP_mean_18 : decode prog_1_method_39_code 18 = .ok (.invokestatic 256, 3) := by decide +kernel
theorem d_TP_mean_21 : decode prog_1_method_39_code 21 = .ok (.istore_n 3, 1) := by decide +kernel
theorem d_TP_mean_22 : decode prog_1_method_39_code 22 = .ok (.aload_n 0, 1) := by decide +kernel
theorem d_TP_mean_23 : decode prog_1_method_39_code 23 = .ok (.getfield 10, 3) := by decide +kernel
theorem d_TP_mean_26 : decode prog_1_method_39_code 26 = .ok (.getfield 128, 3) := by decide +kernel
theorem d_TP_mean_29 : decode prog_1_method_39_code 29 = .ok (.getfield 310, 3) := by decide +kernel
theorem d_TP_mean_32 : decode prog_1_method_39_code 32 = .ok (.iload_n 3, 1) := by decide +kernel
theorem d_TP_mean_33 : decode prog_1_method_39_code 33 = .ok (.isub, 1) := by decide +kernel
theorem d_TP_mean_34 : decode prog_1_method_39_code 34 = .ok (.istore 4, 2) := by decide +kernel
theorem d_TP_mean_36 : decode prog_1_method_39_code 36 = .ok (.iload_n 3, 1) := by decide +kernel
theorem d_TP_mean_37 : decode prog_1_method_39_code 37 = .ok (.i2l, 1) := by decide +kernel
theorem d_TP_mean_38 : decode prog_1_method_39_code 38 = .ok (.bipush 10, 2) := by decide +kernel
theorem d_TP_mean_40 : decode prog_1_method_39_code 40 = .ok (.iload_n 1, 1) := by decide +kernel
theorem d_TP_mean_41 : decode prog_1_method_39_code 41 = .ok (.isub, 1) := by decide +kernel
theorem d_TP_mean_42 : decode prog_1_method_39_code 42 = .ok (.i2l, 1) := by decide +kernel
theorem d_TP_mean_43 : decode prog_1_method_39_code 43 = .ok (.lmul, 1) := by decide +kernel
theorem d_TP_mean_44 : decode prog_1_method_39_code 44 = .ok (.iload 4, 2) := by decide +kernel
theorem d_TP_mean_46 : decode prog_1_method_39_code 46 = .ok (.i2l, 1) := by decide +kernel
theorem d_TP_mean_47 : decode prog_1_method_39_code 47 = .ok (.iload_n 1, 1) := by decide +kernel
theorem d_TP_mean_48 : decode prog_1_method_39_code 48 = .ok (.i2l, 1) := by decide +kernel
theorem d_TP_mean_49 : decode prog_1_method_39_code 49 = .ok (.lmul, 1) := by decide +kernel
theorem d_TP_mean_50 : decode prog_1_method_39_code 50 = .ok (.ladd, 1) := by decide +kernel
theorem d_TP_mean_51 : decode prog_1_method_39_code 51 = .ok (.ldc2_w 313, 3) := by decide +kernel
theorem d_TP_mean_54 : decode prog_1_method_39_code 54 = .ok (.iload_n 2, 1) := by decide +kernel
theorem d_TP_mean_55 : decode prog_1_method_39_code 55 = .ok (.invokestatic 303, 3) := by decide +kernel
theorem d_TP_mean_58 : decode prog_1_method_39_code 58 = .ok (.lreturn, 1) := by decide +kernel
theorem d_TP_reach_0 : decode prog_1_method_40_code 0 = .ok (.aload_n 0, 1) := by decide +kernel
theorem d_TP_reach_1 : decode prog_1_method_40_code 1 = .ok (.getfield 10, 3) := by decide +kernel
theorem d_TP_reach_4 : decode prog_1_method_40_code 4 = .ok (.getfield 128, 3) := by decide +kernel
theorem d_TP_reach_7 : decode prog_1_method_40_code 7 = .ok (.iload_n 1, 1) := by decide +kernel
theorem d_TP_reach_8 : decode prog_1_method_40_code 8 = .ok (.invokevirtual 163, 3) := by decide +kernel
theorem d_TP_reach_11 : decode prog_1_method_40_code 11 = .ok (.ifCond .eq 14, 3) := by decide +kernel
theorem d_TP_reach_14 : decode prog_1_method_40_code 14 = .ok (.aload_n 0, 1) := by decide +kernel
theorem d_TP_reach_15 : decode prog_1_method_40_code 15 = .ok (.getfield 10, 3) := by decide +kernel
theorem d_TP_reach_18 : decode prog_1_method_40_code 18 = .ok (.iload_n 1, 1) := by decide +kernel
theorem d_TP_reach_19 : decode prog_1_method_40_code 19 = .ok (.invokevirtual 315, 3) := by decide +kernel
theorem d_TP_reach_22 : decode prog_1_method_40_code 22 = .ok (.goto 4, 3) := by decide +kernel
theorem d_TP_reach_25 : decode prog_1_method_40_code 25 = .ok (.iconst (-1), 1) := by decide +kernel
theorem d_TP_reach_26 : decode prog_1_method_40_code 26 = .ok (.ireturn, 1) := by decide +kernel
theorem d_TP_circles_0 : decode prog_1_method_41_code 0 = .ok (.aload_n 0, 1) := by decide +kernel
theorem d_TP_circles_1 : decode prog_1_method_41_code 1 = .ok (.getfield 10, 3) := by decide +kernel
theorem d_TP_circles_4 : decode prog_1_method_41_code 4 = .ok (.invokevirtual 318, 3) := by decide +kernel
theorem d_TP_circles_7 : decode prog_1_method_41_code 7 = .ok (.ireturn, 1) := by decide +kernel
theorem d_TP_loud_0 : decode prog_1_method_42_code 0 = .ok (.aload_n 0, 1) := by decide +kernel
theorem d_TP_loud_1 : decode prog_1_method_42_code 1 = .ok (.getfield 10, 3) := by decide +kernel
theorem d_TP_loud_4 : decode prog_1_method_42_code 4 = .ok (.invokevirtual 321, 3) := by decide +kernel
theorem d_TP_loud_7 : decode prog_1_method_42_code 7 = .ok (.ireturn, 1) := by decide +kernel
theorem d_TP_part_0 : decode prog_1_method_43_code 0 = .ok (.iconst 0, 1) := by decide +kernel
theorem d_TP_part_1 : decode prog_1_method_43_code 1 = .ok (.istore_n 1, 1) := by decide +kernel
theorem d_TP_part_2 : decode prog_1_method_43_code 2 = .ok (.iconst 0, 1) := by decide +kernel
theorem d_TP_part_3 : decode prog_1_method_43_code 3 = .ok (.istore_n 2, 1) := by decide +kernel
theorem d_TP_part_4 : decode prog_1_method_43_code 4 = .ok (.iconst 0, 1) := by decide +kernel
theorem d_TP_part_5 : decode prog_1_method_43_code 5 = .ok (.istore_n 3, 1) := by decide +kernel
theorem d_TP_part_6 : decode prog_1_method_43_code 6 = .ok (.iload_n 3, 1) := by decide +kernel
theorem d_TP_part_7 : decode prog_1_method_43_code 7 = .ok (.aload_n 0, 1) := by decide +kernel
theorem d_TP_part_8 : decode prog_1_method_43_code 8 = .ok (.getfield 10, 3) := by decide +kernel
theorem d_TP_part_11 : decode prog_1_method_43_code 11 = .ok (.getfield 128, 3) := by decide +kernel
theorem d_TP_part_14 : decode prog_1_method_43_code 14 = .ok (.getfield 310, 3) := by decide +kernel
theorem d_TP_part_17 : decode prog_1_method_43_code 17 = .ok (.if_icmp .gt 27, 3) := by decide +kernel
theorem d_TP_part_20 : decode prog_1_method_43_code 20 = .ok (.aload_n 0, 1) := by decide +kernel
theorem d_TP_part_21 : decode prog_1_method_43_code 21 = .ok (.iload_n 3, 1) := by decide +kernel
theorem d_TP_part_22 : decode prog_1_method_43_code 22 = .ok (.invokevirtual 324, 3) := by decide +kernel
theorem d_TP_part_25 : decode prog_1_method_43_code 25 = .ok (.istore 4, 2) := by decide +kernel
theorem d_TP_part_27 : decode prog_1_method_43_code 27 = .ok (.iload 4, 2) := by decide +kernel
theorem d_TP_part_29 : decode prog_1_method_43_code 29 = .ok (.iload_n 2, 1) := by decide +kernel
theorem d_TP_part_30 : decode prog_1_method_43_code 30 = .ok (.if_icmp .le 8, 3) := by decide +kernel
theorem d_TP_part_33 : decode prog_1_method_43_code 33 = .ok (.iload 4, 2) := by decide +kernel
theorem d_TP_part_35 : decode prog_1_method_43_code 35 = .ok (.istore_n 2, 1) := by decide +kernel
theorem d_TP_part_36 : decode prog_1_method_43_code 36 = .ok (.iload_n 3, 1) := by decide +kernel
theorem d_TP_part_37 : decode prog_1_method_43_code 37 = .ok (.istore_n 1, 1) := by decide +kernel
theorem d_TP_part_38 : decode prog_1_method_43_code 38 = .ok (.iinc 3 1, 3) := by decide +kernel
theorem d_TP_part_41 : decode prog_1_method_43_code 41 = .ok (.goto (-35), 3) := by decide +kernel
theorem d_TP_part_44 : decode prog_1_method_43_code 44 = .ok (.iload_n 1, 1) := by decide +kernel
theorem d_TP_part_45 : decode prog_1_method_43_code 45 = .ok (.ireturn, 1) := by decide +kernel
theorem d_TP_unlikeCounts_0 : decode prog_1_method_76_code 0 = .ok (.iconst 0, 1) := by decide +kernel
theorem d_TP_unlikeCounts_1 : decode prog_1_method_76_code 1 = .ok (.istore_n 2, 1) := by decide +kernel
theorem d_TP_unlikeCounts_2 : decode prog_1_method_76_code 2 = .ok (.iconst 0, 1) := by decide +kernel
theorem d_TP_unlikeCounts_3 : decode prog_1_method_76_code 3 = .ok (.istore_n 3, 1) := by decide +kernel
theorem d_TP_unlikeCounts_4 : decode prog_1_method_76_code 4 = .ok (.iload_n 3, 1) := by decide +kernel
theorem d_TP_unlikeCounts_5 : decode prog_1_method_76_code 5 = .ok (.aload_n 0, 1) := by decide +kernel
theorem d_TP_unlikeCounts_6 : decode prog_1_method_76_code 6 = .ok (.getfield 10, 3) := by decide +kernel
theorem d_TP_unlikeCounts_9 : decode prog_1_method_76_code 9 = .ok (.getfield 100, 3) := by decide +kernel
theorem d_TP_unlikeCounts_12 : decode prog_1_method_76_code 12 = .ok (.if_icmp .ge 40, 3) := by decide +kernel
theorem d_TP_unlikeCounts_15 : decode prog_1_method_76_code 15 = .ok (.iload_n 2, 1) := by decide +kernel
theorem d_TP_unlikeCounts_16 : decode prog_1_method_76_code 16 = .ok (.iconst 1, 1) := by decide +kernel
theorem d_TP_unlikeCounts_17 : decode prog_1_method_76_code 17 = .ok (.aload_n 0, 1) := by decide +kernel
theorem d_TP_unlikeCounts_18 : decode prog_1_method_76_code 18 = .ok (.getfield 31, 3) := by decide +kernel
theorem d_TP_unlikeCounts_21 : decode prog_1_method_76_code 21 = .ok (.aload_n 0, 1) := by decide +kernel
theorem d_TP_unlikeCounts_22 : decode prog_1_method_76_code 22 = .ok (.getfield 10, 3) := by decide +kernel
theorem d_TP_unlikeCounts_25 : decode prog_1_method_76_code 25 = .ok (.getfield 128, 3) := by decide +kernel
theorem d_TP_unlikeCounts_28 : decode prog_1_method_76_code 28 = .ok (.aload_n 0, 1) := by decide +kernel
theorem d_TP_unlikeCounts_29 : decode prog_1_method_76_code 29 = .ok (.getfield 10, 3) := by decide +kernel
theorem d_TP_unlikeCounts_32 : decode prog_1_method_76_code 32 = .ok (.iload_n 3, 1) := by decide +kernel
theorem d_TP_unlikeCounts_33 : decode prog_1_method_76_code 33 = .ok (.invokevirtual 117, 3) := by decide +kernel
theorem d_TP_unlikeCounts_36 : decode prog_1_method_76_code 36 = .ok (.iload_n 1, 1) := by decide +kernel
theorem d_TP_unlikeCounts_37 : decode prog_1_method_76_code 37 = .ok (.invokevirtual 387, 3) := by decide +kernel
theorem d_TP_unlikeCounts_40 : decode prog_1_method_76_code 40 = .ok (.invokestatic 256, 3) := by decide +kernel
theorem d_TP_unlikeCounts_43 : decode prog_1_method_76_code 43 = .ok (.ishl, 1) := by decide +kernel
theorem d_TP_unlikeCounts_44 : decode prog_1_method_76_code 44 = .ok (.ior, 1) := by decide +kernel
theorem d_TP_unlikeCounts_45 : decode prog_1_method_76_code 45 = .ok (.istore_n 2, 1) := by decide +kernel
theorem d_TP_unlikeCounts_46 : decode prog_1_method_76_code 46 = .ok (.iinc 3 1, 3) := by decide +kernel
theorem d_TP_unlikeCounts_49 : decode prog_1_method_76_code 49 = .ok (.goto (-45), 3) := by decide +kernel
theorem d_TP_unlikeCounts_52 : decode prog_1_method_76_code 52 = .ok (.iload_n 2, 1) := by decide +kernel
theorem d_TP_unlikeCounts_53 : decode prog_1_method_76_code 53 = .ok (.invokestatic 256, 3) := by decide +kernel
theorem d_TP_unlikeCounts_56 : decode prog_1_method_76_code 56 = .ok (.ireturn, 1) := by decide +kernel
theorem d_TP_game_0 : decode prog_1_method_44_code 0 = .ok (.iload_n 1, 1) := by decide +kernel
theorem d_TP_game_1 : decode prog_1_method_44_code 1 = .ok (.ifCond .lt 9, 3) := by decide +kernel
theorem d_TP_game_4 : decode prog_1_method_44_code 4 = .ok (.iload_n 1, 1) := by decide +kernel
theorem d_TP_game_5 : decode prog_1_method_44_code 5 = .ok (.bipush 8, 2) := by decide +kernel
theorem d_TP_game_7 : decode prog_1_method_44_code 7 = .ok (.if_icmp .le 7, 3) := by decide +kernel
theorem d_TP_game_10 : decode prog_1_method_44_code 10 = .ok (.iconst (-1), 1) := by decide +kernel
theorem d_TP_game_11 : decode prog_1_method_44_code 11 = .ok (.goto 21, 3) := by decide +kernel
theorem d_TP_game_14 : decode prog_1_method_44_code 14 = .ok (.aload_n 0, 1) := by decide +kernel
theorem d_TP_game_15 : decode prog_1_method_44_code 15 = .ok (.invokevirtual 217, 3) := by decide +kernel
theorem d_TP_game_18 : decode prog_1_method_44_code 18 = .ok (.aload_n 0, 1) := by decide +kernel
theorem d_TP_game_19 : decode prog_1_method_44_code 19 = .ok (.getfield 10, 3) := by decide +kernel
theorem d_TP_game_22 : decode prog_1_method_44_code 22 = .ok (.getfield 128, 3) := by decide +kernel
theorem d_TP_game_25 : decode prog_1_method_44_code 25 = .ok (.getfield 131, 3) := by decide +kernel
theorem d_TP_game_28 : decode prog_1_method_44_code 28 = .ok (.iload_n 1, 1) := by decide +kernel
theorem d_TP_game_29 : decode prog_1_method_44_code 29 = .ok (.invokevirtual 327, 3) := by decide +kernel
theorem d_TP_game_32 : decode prog_1_method_44_code 32 = .ok (.ireturn, 1) := by decide +kernel
theorem d_TP_choice_0 : decode prog_1_method_45_code 0 = .ok (.iload_n 1, 1) := by decide +kernel
theorem d_TP_choice_1 : decode prog_1_method_45_code 1 = .ok (.iconst 1, 1) := by decide +kernel
theorem d_TP_choice_2 : decode prog_1_method_45_code 2 = .ok (.if_icmp .lt 9, 3) := by decide +kernel
theorem d_TP_choice_5 : decode prog_1_method_45_code 5 = .ok (.iload_n 1, 1) := by decide +kernel
theorem d_TP_choice_6 : decode prog_1_method_45_code 6 = .ok (.bipush 8, 2) := by decide +kernel
theorem d_TP_choice_8 : decode prog_1_method_45_code 8 = .ok (.if_icmp .le 7, 3) := by decide +kernel
theorem d_TP_choice_11 : decode prog_1_method_45_code 11 = .ok (.iconst (-1), 1) := by decide +kernel
theorem d_TP_choice_12 : decode prog_1_method_45_code 12 = .ok (.goto 21, 3) := by decide +kernel
theorem d_TP_choice_15 : decode prog_1_method_45_code 15 = .ok (.aload_n 0, 1) := by decide +kernel
theorem d_TP_choice_16 : decode prog_1_method_45_code 16 = .ok (.invokevirtual 217, 3) := by decide +kernel
theorem d_TP_choice_19 : decode prog_1_method_45_code 19 = .ok (.aload_n 0, 1) := by decide +kernel
theorem d_TP_choice_20 : decode prog_1_method_45_code 20 = .ok (.getfield 10, 3) := by decide +kernel
theorem d_TP_choice_23 : decode prog_1_method_45_code 23 = .ok (.getfield 128, 3) := by decide +kernel
theorem d_TP_choice_26 : decode prog_1_method_45_code 26 = .ok (.getfield 131, 3) := by decide +kernel
theorem d_TP_choice_29 : decode prog_1_method_45_code 29 = .ok (.iload_n 1, 1) := by decide +kernel
theorem d_TP_choice_30 : decode prog_1_method_45_code 30 = .ok (.invokevirtual 330, 3) := by decide +kernel
theorem d_TP_choice_33 : decode prog_1_method_45_code 33 = .ok (.ireturn, 1) := by decide +kernel
theorem d_TP_party_0 : decode prog_1_method_46_code 0 = .ok (.iload_n 1, 1) := by decide +kernel
theorem d_TP_party_1 : decode prog_1_method_46_code 1 = .ok (.iconst (-1), 1) := by decide +kernel
theorem d_TP_party_2 : decode prog_1_method_46_code 2 = .ok (.if_icmp .ne 13, 3) := by decide +kernel
theorem d_TP_party_5 : decode prog_1_method_46_code 5 = .ok (.aload_n 0, 1) := by decide +kernel
theorem d_TP_party_6 : decode prog_1_method_46_code 6 = .ok (.getfield 10, 3) := by decide +kernel
theorem d_TP_party_9 : decode prog_1_method_46_code 9 = .ok (.iconst 0, 1) := by decide +kernel
theorem d_TP_party_10 : decode prog_1_method_46_code 10 = .ok (.putfield 333, 3) := by decide +kernel
theorem d_TP_party_13 : decode prog_1_method_46_code 13 = .ok (.iconst 0, 1) := by decide +kernel
theorem d_TP_party_14 : decode prog_1_method_46_code 14 = .ok (.ireturn, 1) := by decide +kernel
theorem d_TP_party_15 : decode prog_1_method_46_code 15 = .ok (.aload_n 0, 1) := by decide +kernel
theorem d_TP_party_16 : decode prog_1_method_46_code 16 = .ok (.getfield 10, 3) := by decide +kernel
theorem d_TP_party_19 : decode prog_1_method_46_code 19 = .ok (.iload_n 1, 1) := by decide +kernel
theorem d_TP_party_20 : decode prog_1_method_46_code 20 = .ok (.iload_n 2, 1) := by decide +kernel
theorem d_TP_party_21 : decode prog_1_method_46_code 21 = .ok (.invokevirtual 336, 3) := by decide +kernel
theorem d_TP_party_24 : decode prog_1_method_46_code 24 = .ok (.ifCond .eq 13, 3) := by decide +kernel
theorem d_TP_party_27 : decode prog_1_method_46_code 27 = .ok (.aload_n 0, 1) := by decide +kernel
theorem d_TP_party_28 : decode prog_1_method_46_code 28 = .ok (.getfield 10, 3) := by decide +kernel
theorem d_TP_party_31 : decode prog_1_method_46_code 31 = .ok (.getfield 333, 3) := by decide +kernel
theorem d_TP_party_34 : decode prog_1_method_46_code 34 = .ok (.goto 5, 3) := by decide +kernel
theorem d_TP_party_37 : decode prog_1_method_46_code 37 = .ok (.bipush (-2), 2) := by decide +kernel
theorem d_TP_party_39 : decode prog_1_method_46_code 39 = .ok (.ireturn, 1) := by decide +kernel
theorem d_TP_lives_0 : decode prog_1_method_47_code 0 = .ok (.iload_n 1, 1) := by decide +kernel
theorem d_TP_lives_1 : decode prog_1_method_47_code 1 = .ok (.ifCond .lt 9, 3) := by decide +kernel
theorem d_TP_lives_4 : decode prog_1_method_47_code 4 = .ok (.iload_n 1, 1) := by decide +kernel
theorem d_TP_lives_5 : decode prog_1_method_47_code 5 = .ok (.bipush 8, 2) := by decide +kernel
theorem d_TP_lives_7 : decode prog_1_method_47_code 7 = .ok (.if_icmp .le 7, 3) := by decide +kernel
theorem d_TP_lives_10 : decode prog_1_method_47_code 10 = .ok (.iconst (-1), 1) := by decide +kernel
theorem d_TP_lives_11 : decode prog_1_method_47_code 11 = .ok (.goto 13, 3) := by decide +kernel
theorem d_TP_lives_14 : decode prog_1_method_47_code 14 = .ok (.aload_n 0, 1) := by decide +kernel
theorem d_TP_lives_15 : decode prog_1_method_47_code 15 = .ok (.getfield 10, 3) := by decide +kernel
theorem d_TP_lives_18 : decode prog_1_method_47_code 18 = .ok (.iconst 1, 1) := by decide +kernel
theorem d_TP_lives_19 : decode prog_1_method_47_code 19 = .ok (.iload_n 1, 1) := by decide +kernel
theorem d_TP_lives_20 : decode prog_1_method_47_code 20 = .ok (.ishl, 1) := by decide +kernel
theorem d_TP_lives_21 : decode prog_1_method_47_code 21 = .ok (.invokevirtual 339, 3) := by decide +kernel
theorem d_TP_lives_24 : decode prog_1_method_47_code 24 = .ok (.ireturn, 1) := by decide +kernel
theorem d_TP_most_0 : decode prog_1_method_48_code 0 = .ok (.iconst 0, 1) := by decide +kernel
theorem d_TP_most_1 : decode prog_1_method_48_code 1 = .ok (.istore_n 1, 1) := by decide +kernel
theorem d_TP_most_2 : decode prog_1_method_48_code 2 = .ok (.iconst 1, 1) := by decide +kernel
theorem d_TP_most_3 : decode prog_1_method_48_code 3 = .ok (.istore_n 2, 1) := by decide +kernel
theorem d_TP_most_4 : decode prog_1_method_48_code 4 = .ok (.iload_n 2, 1) := by decide +kernel
theorem d_TP_most_5 : decode prog_1_method_48_code 5 = .ok (.bipush 8, 2) := by decide +kernel
theorem d_TP_most_7 : decode prog_1_method_48_code 7 = .ok (.if_icmp .gt 34, 3) := by decide +kernel
theorem d_TP_most_10 : decode prog_1_method_48_code 10 = .ok (.aload_n 0, 1) := by decide +kernel
theorem d_TP_most_11 : decode prog_1_method_48_code 11 = .ok (.getfield 10, 3) := by decide +kernel
theorem d_TP_most_14 : decode prog_1_method_48_code 14 = .ok (.iconst 1, 1) := by decide +kernel
theorem d_TP_most_15 : decode prog_1_method_48_code 15 = .ok (.iload_n 2, 1) := by decide +kernel
theorem d_TP_most_16 : decode prog_1_method_48_code 16 = .ok (.ishl, 1) := by decide +kernel
theorem d_TP_most_17 : decode prog_1_method_48_code 17 = .ok (.invokevirtual 339, 3) := by decide +kernel
theorem d_TP_most_20 : decode prog_1_method_48_code 20 = .ok (.aload_n 0, 1) := by decide +kernel
theorem d_TP_most_21 : decode prog_1_method_48_code 21 = .ok (.getfield 10, 3) := by decide +kernel
theorem d_TP_most_24 : decode prog_1_method_48_code 24 = .ok (.iconst 1, 1) := by decide +kernel
theorem d_TP_most_25 : decode prog_1_method_48_code 25 = .ok (.iload_n 1, 1) := by decide +kernel
theorem d_TP_most_26 : decode prog_1_method_48_code 26 = .ok (.ishl, 1) := by decide +kernel
theorem d_TP_most_27 : decode prog_1_method_48_code 27 = .ok (.invokevirtual 339, 3) := by decide +kernel
theorem d_TP_most_30 : decode prog_1_method_48_code 30 = .ok (.if_icmp .le 5, 3) := by decide +kernel
theorem d_TP_most_33 : decode prog_1_method_48_code 33 = .ok (.iload_n 2, 1) := by decide +kernel
theorem d_TP_most_34 : decode prog_1_method_48_code 34 = .ok (.istore_n 1, 1) := by decide +kernel
theorem d_TP_most_35 : decode prog_1_method_48_code 35 = .ok (.iinc 2 1, 3) := by decide +kernel
theorem d_TP_most_38 : decode prog_1_method_48_code 38 = .ok (.goto (-34), 3) := by decide +kernel
theorem d_TP_most_41 : decode prog_1_method_48_code 41 = .ok (.iload_n 1, 1) := by decide +kernel
theorem d_TP_most_42 : decode prog_1_method_48_code 42 = .ok (.ireturn, 1) := by decide +kernel
theorem d_TP_fewest_0 : decode prog_1_method_49_code 0 = .ok (.sipush 511, 3) := by decide +kernel
theorem d_TP_fewest_3 : decode prog_1_method_49_code 3 = .ok (.istore_n 2, 1) := by decide +kernel
theorem d_TP_fewest_4 : decode prog_1_method_49_code 4 = .ok (.iload_n 2, 1) := by decide +kernel
theorem d_TP_fewest_5 : decode prog_1_method_49_code 5 = .ok (.istore_n 3, 1) := by decide +kernel
theorem d_TP_fewest_6 : decode prog_1_method_49_code 6 = .ok (.iload_n 3, 1) := by decide +kernel
theorem d_TP_fewest_7 : decode prog_1_method_49_code 7 = .ok (.ifCond .lt 40, 3) := by decide +kernel
theorem d_TP_fewest_10 : decode prog_1_method_49_code 10 = .ok (.aload_n 0, 1) := by decide +kernel
theorem d_TP_fewest_11 : decode prog_1_method_49_code 11 = .ok (.getfield 10, 3) := by decide +kernel
theorem d_TP_fewest_14 : decode prog_1_method_49_code 14 = .ok (.iload_n 3, 1) := by decide +kernel
theorem d_TP_fewest_15 : decode prog_1_method_49_code 15 = .ok (.invokevirtual 339, 3) := by decide +kernel
theorem d_TP_fewest_18 : decode prog_1_method_49_code 18 = .ok (.aload_n 0, 1) := by decide +kernel
theorem d_TP_fewest_19 : decode prog_1_method_49_code 19 = .ok (.getfield 10, 3) := by decide +kernel
theorem d_TP_fewest_22 : decode prog_1_method_49_code 22 = .ok (.getfield 333, 3) := by decide +kernel
theorem d_TP_fewest_25 : decode prog_1_method_49_code 25 = .ok (.if_icmp .ne 16, 3) := by decide +kernel
theorem d_TP_fewest_28 : decode prog_1_method_49_code 28 = .ok (.iload_n 3, 1) := by decide +kernel
theorem d_TP_fewest_29 : decode prog_1_method_49_code 29 = .ok (.invokestatic 256, 3) := by decide +kernel
theorem d_TP_fewest_32 : decode prog_1_method_49_code 32 = .ok (.iload_n 2, 1) := by decide +kernel
theorem d_TP_fewest_33 : decode prog_1_method_49_code 33 = .ok (.invokestatic 256, 3) := by decide +kernel
theorem d_TP_fewest_36 : decode prog_1_method_49_code 36 = .ok (.if_icmp .gt 5, 3) := by decide +kernel
theorem d_TP_fewest_39 : decode prog_1_method_49_code 39 = .ok (.iload_n 3, 1) := by decide +kernel
theorem d_TP_fewest_40 : decode prog_1_method_49_code 40 = .ok (.istore_n 2, 1) := by decide +kernel
theorem d_TP_fewest_41 : decode prog_1_method_49_code 41 = .ok (.iinc 3 (-1), 3) := by decide +kernel
theorem d_TP_fewest_44 : decode prog_1_method_49_code 44 = .ok (.goto (-38), 3) := by decide +kernel
theorem d_TP_fewest_47 : decode prog_1_method_49_code 47 = .ok (.iload_n 1, 1) := by decide +kernel
theorem d_TP_fewest_48 : decode prog_1_method_49_code 48 = .ok (.ifCond .eq 10, 3) := by decide +kernel
theorem d_TP_fewest_51 : decode prog_1_method_49_code 51 = .ok (.iload_n 2, 1) := by decide +kernel
theorem d_TP_fewest_52 : decode prog_1_method_49_code 52 = .ok (.invokestatic 256, 3) := by decide +kernel
theorem d_TP_fewest_55 : decode prog_1_method_49_code 55 = .ok (.goto 4, 3) := by decide +kernel
theorem d_TP_fewest_58 : decode prog_1_method_49_code 58 = .ok (.iload_n 2, 1) := by decide +kernel
theorem d_TP_fewest_59 : decode prog_1_method_49_code 59 = .ok (.ireturn, 1) := by decide +kernel
theorem d_TP_decimal_0 : decode prog_1_method_50_code 0 = .ok (.iload_n 1, 1) := by decide +kernel
theorem d_TP_decimal_1 : decode prog_1_method_50_code 1 = .ok (.iload_n 2, 1) := by decide +kernel
theorem d_TP_decimal_2 : decode prog_1_method_50_code 2 = .ok (.invokestatic 342, 3) := by decide +kernel
theorem d_TP_decimal_5 : decode prog_1_method_50_code 5 = .ok (.ifCond .eq 14, 3) := by decide +kernel
theorem d_TP_decimal_8 : decode prog_1_method_50_code 8 = .ok (.iload_n 3, 1) := by decide +kernel
theorem d_TP_decimal_9 : decode prog_1_method_50_code 9 = .ok (.ifCond .lt 10, 3) := by decide +kernel
theorem d_TP_decimal_12 : decode prog_1_method_50_code 12 = .ok (.iload_n 3, 1) := by decide +kernel
theorem d_TP_decimal_13 : decode prog_1_method_50_code 13 = .ok (.sipush 999, 3) := by decide +kernel
theorem d_TP_decimal_16 : decode prog_1_method_50_code 16 = .ok (.if_icmp .le 5, 3) := by decide +kernel
theorem d_TP_decimal_19 : decode prog_1_method_50_code 19 = .ok (.iconst (-1), 1) := by decide +kernel
theorem d_TP_decimal_20 : decode prog_1_method_50_code 20 = .ok (.ireturn, 1) := by decide +kernel
theorem d_TP_decimal_21 : decode prog_1_method_50_code 21 = .ok (.iload_n 1, 1) := by decide +kernel
theorem d_TP_decimal_22 : decode prog_1_method_50_code 22 = .ok (.istore 4, 2) := by decide +kernel
theorem d_TP_decimal_24 : decode prog_1_method_50_code 24 = .ok (.iconst 0, 1) := by decide +kernel
theorem d_TP_decimal_25 : decode prog_1_method_50_code 25 = .ok (.istore 5, 2) := by decide +kernel
theorem d_TP_decimal_27 : decode prog_1_method_50_code 27 = .ok (.iload 5, 2) := by decide +kernel
theorem d_TP_decimal_29 : decode prog_1_method_50_code 29 = .ok (.iload_n 3, 1) := by decide +kernel
theorem d_TP_decimal_30 : decode prog_1_method_50_code 30 = .ok (.if_icmp .ge 18, 3) := by decide +kernel
theorem d_TP_decimal_33 : decode prog_1_method_50_code 33 = .ok (.iload 4, 2) := by decide +kernel
theorem d_TP_decimal_35 : decode prog_1_method_50_code 35 = .ok (.bipush 10, 2) := by decide +kernel
theorem d_TP_decimal_37 : decode prog_1_method_50_code 37 = .ok (.imul, 1) := by decide +kernel
theorem d_TP_decimal_38 : decode prog_1_method_50_code 38 = .ok (.iload_n 2, 1) := by decide +kernel
theorem d_TP_decimal_39 : decode prog_1_method_50_code 39 = .ok (.irem, 1) := by decide +kernel
theorem d_TP_decimal_40 : decode prog_1_method_50_code 40 = .ok (.istore 4, 2) := by decide +kernel
theorem d_TP_decimal_42 : decode prog_1_method_50_code 42 = .ok (.iinc 5 1, 3) := by decide +kernel
theorem d_TP_decimal_45 : decode prog_1_method_50_code 45 = .ok (.goto (-18), 3) := by decide +kernel
theorem d_TP_decimal_48 : decode prog_1_method_50_code 48 = .ok (.iload 4, 2) := by decide +kernel
theorem d_TP_decimal_50 : decode prog_1_method_50_code 50 = .ok (.bipush 10, 2) := by decide +kernel
theorem d_TP_decimal_52 : decode prog_1_method_50_code 52 = .ok (.imul, 1) := by decide +kernel
theorem d_TP_decimal_53 : decode prog_1_method_50_code 53 = .ok (.iload_n 2, 1) := by decide +kernel
theorem d_TP_decimal_54 : decode prog_1_method_50_code 54 = .ok (.idiv, 1) := by decide +kernel
theorem d_TP_decimal_55 : decode prog_1_method_50_code 55 = .ok (.ireturn, 1) := by decide +kernel
theorem d_TP_isPart_0 : decode prog_1_method_67_code 0 = .ok (.iload_n 1, 1) := by decide +kernel
theorem d_TP_isPart_1 : decode prog_1_method_67_code 1 = .ok (.iconst 1, 1) := by decide +kernel
theorem d_TP_isPart_2 : decode prog_1_method_67_code 2 = .ok (.if_icmp .lt 22, 3) := by decide +kernel
theorem d_TP_isPart_5 : decode prog_1_method_67_code 5 = .ok (.iload_n 1, 1) := by decide +kernel
theorem d_TP_isPart_6 : decode prog_1_method_67_code 6 = .ok (.bipush 99, 2) := by decide +kernel
theorem d_TP_isPart_8 : decode prog_1_method_67_code 8 = .ok (.if_icmp .gt 16, 3) := by decide +kernel
theorem d_TP_isPart_11 : decode prog_1_method_67_code 11 = .ok (.iload_n 0, 1) := by decide +kernel
theorem d_TP_isPart_12 : decode prog_1_method_67_code 12 = .ok (.ifCond .lt 12, 3) := by decide +kernel
theorem d_TP_isPart_15 : decode prog_1_method_67_code 15 = .ok (.iload_n 0, 1) := by decide +kernel
theorem d_TP_isPart_16 : decode prog_1_method_67_code 16 = .ok (.iload_n 1, 1) := by decide +kernel
theorem d_TP_isPart_17 : decode prog_1_method_67_code 17 = .ok (.if_icmp .ge 7, 3) := by decide +kernel
theorem d_TP_isPart_20 : decode prog_1_method_67_code 20 = .ok (.iconst 1, 1) := by decide +kernel
theorem d_TP_isPart_21 : decode prog_1_method_67_code 21 = .ok (.goto 4, 3) := by decide +kernel
theorem d_TP_isPart_24 : decode prog_1_method_67_code 24 = .ok (.iconst 0, 1) := by decide +kernel
theorem d_TP_isPart_25 : decode prog_1_method_67_code 25 = .ok (.ireturn, 1) := by decide +kernel
theorem d_TP_decimals_0 : decode prog_1_method_51_code 0 = .ok (.iload_n 1, 1) := by decide +kernel
theorem d_TP_decimals_1 : decode prog_1_method_51_code 1 = .ok (.iload_n 2, 1) := by decide +kernel
theorem d_TP_decimals_2 : decode prog_1_method_51_code 2 = .ok (.invokestatic 342, 3) := by decide +kernel
theorem d_TP_decimals_5 : decode prog_1_method_51_code 5 = .ok (.ifCond .ne 5, 3) := by decide +kernel
theorem d_TP_decimals_8 : decode prog_1_method_51_code 8 = .ok (.iconst (-1), 1) := by decide +kernel
theorem d_TP_decimals_9 : decode prog_1_method_51_code 9 = .ok (.ireturn, 1) := by decide +kernel
theorem d_TP_decimals_10 : decode prog_1_method_51_code 10 = .ok (.aload_n 0, 1) := by decide +kernel
theorem d_TP_decimals_11 : decode prog_1_method_51_code 11 = .ok (.getfield 75, 3) := by decide +kernel
theorem d_TP_decimals_14 : decode prog_1_method_51_code 14 = .ok (.iconst (-1), 1) := by decide +kernel
theorem d_TP_decimals_15 : decode prog_1_method_51_code 15 = .ok (.invokestatic 345, 3) := by decide +kernel
theorem d_TP_decimals_18 : decode prog_1_method_51_code 18 = .ok (.iload_n 1, 1) := by decide +kernel
theorem d_TP_decimals_19 : decode prog_1_method_51_code 19 = .ok (.istore 4, 2) := by decide +kernel
theorem d_TP_decimals_21 : decode prog_1_method_51_code 21 = .ok (.iconst 0, 1) := by decide +kernel
theorem d_TP_decimals_22 : decode prog_1_method_51_code 22 = .ok (.istore 5, 2) := by decide +kernel
theorem d_TP_decimals_24 : decode prog_1_method_51_code 24 = .ok (.iload 5, 2) := by decide +kernel
theorem d_TP_decimals_26 : decode prog_1_method_51_code 26 = .ok (.iload_n 2, 1) := by decide +kernel
theorem d_TP_decimals_27 : decode prog_1_method_51_code 27 = .ok (.if_icmp .gt 61, 3) := by decide +kernel
theorem d_TP_decimals_30 : decode prog_1_method_51_code 30 = .ok (.aload_n 0, 1) := by decide +kernel
theorem d_TP_decimals_31 : decode prog_1_method_51_code 31 = .ok (.getfield 75, 3) := by decide +kernel
theorem d_TP_decimals_34 : decode prog_1_method_51_code 34 = .ok (.iload 4, 2) := by decide +kernel
theorem d_TP_decimals_36 : decode prog_1_method_51_code 36 = .ok (.invokestatic 169, 3) := by decide +kernel
theorem d_TP_decimals_39 : decode prog_1_method_51_code 39 = .ok (.istore 6, 2) := by decide +kernel
theorem d_TP_decimals_41 : decode prog_1_method_51_code 41 = .ok (.iload 6, 2) := by decide +kernel
theorem d_TP_decimals_43 : decode prog_1_method_51_code 43 = .ok (.iconst (-1), 1) := by decide +kernel
theorem d_TP_decimals_44 : decode prog_1_method_51_code 44 = .ok (.if_icmp .eq 18, 3) := by decide +kernel
theorem d_TP_decimals_47 : decode prog_1_method_51_code 47 = .ok (.iload_n 3, 1) := by decide +kernel
theorem d_TP_decimals_48 : decode prog_1_method_51_code 48 = .ok (.ifCond .eq 11, 3) := by decide +kernel
theorem d_TP_decimals_51 : decode prog_1_method_51_code 51 = .ok (.iload 5, 2) := by decide +kernel
theorem d_TP_decimals_53 : decode prog_1_method_51_code 53 = .ok (.iload 6, 2) := by decide +kernel
theorem d_TP_decimals_55 : decode prog_1_method_51_code 55 = .ok (.isub, 1) := by decide +kernel
theorem d_TP_decimals_56 : decode prog_1_method_51_code 56 = .ok (.goto 5, 3) := by decide +kernel
theorem d_TP_decimals_59 : decode prog_1_method_51_code 59 = .ok (.iload 6, 2) := by decide +kernel
theorem d_TP_decimals_61 : decode prog_1_method_51_code 61 = .ok (.ireturn, 1) := by decide +kernel
theorem d_TP_decimals_62 : decode prog_1_method_51_code 62 = .ok (.aload_n 0, 1) := by decide +kernel
theorem d_TP_decimals_63 : decode prog_1_method_51_code 63 = .ok (.getfield 75, 3) := by decide +kernel
theorem d_TP_decimals_66 : decode prog_1_method_51_code 66 = .ok (.iload 4, 2) := by decide +kernel
theorem d_TP_decimals_68 : decode prog_1_method_51_code 68 = .ok (.iload 5, 2) := by decide +kernel
theorem d_TP_decimals_70 : decode prog_1_method_51_code 70 = .ok (.invokestatic 351, 3) := by decide +kernel
theorem d_TP_decimals_73 : decode prog_1_method_51_code 73 = .ok (.iload 4, 2) := by decide +kernel
theorem d_TP_decimals_75 : decode prog_1_method_51_code 75 = .ok (.bipush 10, 2) := by decide +kernel
theorem d_TP_decimals_77 : decode prog_1_method_51_code 77 = .ok (.imul, 1) := by decide +kernel
theorem d_TP_decimals_78 : decode prog_1_method_51_code 78 = .ok (.iload_n 2, 1) := by decide +kernel
theorem d_TP_decimals_79 : decode prog_1_method_51_code 79 = .ok (.irem, 1) := by decide +kernel
theorem d_TP_decimals_80 : decode prog_1_method_51_code 80 = .ok (.istore 4, 2) := by decide +kernel
theorem d_TP_decimals_82 : decode prog_1_method_51_code 82 = .ok (.iinc 5 1, 3) := by decide +kernel
theorem d_TP_decimals_85 : decode prog_1_method_51_code 85 = .ok (.goto (-61), 3) := by decide +kernel
theorem d_TP_decimals_88 : decode prog_1_method_51_code 88 = .ok (.iconst (-1), 1) := by decide +kernel
theorem d_TP_decimals_89 : decode prog_1_method_51_code 89 = .ok (.ireturn, 1) := by decide +kernel
theorem d_TP_village_0 : decode prog_1_method_52_code 0 = .ok (.iload_n 1, 1) := by decide +kernel
theorem d_TP_village_1 : decode prog_1_method_52_code 1 = .ok (.ifCond .lt 19, 3) := by decide +kernel
theorem d_TP_village_4 : decode prog_1_method_52_code 4 = .ok (.iload_n 1, 1) := by decide +kernel
theorem d_TP_village_5 : decode prog_1_method_52_code 5 = .ok (.bipush 10, 2) := by decide +kernel
theorem d_TP_village_7 : decode prog_1_method_52_code 7 = .ok (.if_icmp .ge 13, 3) := by decide +kernel
theorem d_TP_village_10 : decode prog_1_method_52_code 10 = .ok (.iload_n 2, 1) := by decide +kernel
theorem d_TP_village_11 : decode prog_1_method_52_code 11 = .ok (.ifCond .lt 9, 3) := by decide +kernel
theorem d_TP_village_14 : decode prog_1_method_52_code 14 = .ok (.iload_n 2, 1) := by decide +kernel
theorem d_TP_village_15 : decode prog_1_method_52_code 15 = .ok (.bipush 99, 2) := by decide +kernel
theorem d_TP_village_17 : decode prog_1_method_52_code 17 = .ok (.if_icmp .le 5, 3) := by decide +kernel
theorem d_TP_village_20 : decode prog_1_method_52_code 20 = .ok (.iconst 0, 1) := by decide +kernel
theorem d_TP_village_21 : decode prog_1_method_52_code 21 = .ok (.ireturn, 1) := by decide +kernel
theorem d_TP_village_22 : decode prog_1_method_52_code 22 = .ok (.aload_n 0, 1) := by decide +kernel
theorem d_TP_village_23 : decode prog_1_method_52_code 23 = .ok (.getfield 10, 3) := by decide +kernel
theorem d_TP_village_26 : decode prog_1_method_52_code 26 = .ok (.getfield 355, 3) := by decide +kernel
theorem d_TP_village_29 : decode prog_1_method_52_code 29 = .ok (.iload_n 1, 1) := by decide +kernel
theorem d_TP_village_30 : decode prog_1_method_52_code 30 = .ok (.iload_n 2, 1) := by decide +kernel
theorem d_TP_village_31 : decode prog_1_method_52_code 31 = .ok (.invokestatic 351, 3) := by decide +kernel
theorem d_TP_village_34 : decode prog_1_method_52_code 34 = .ok (.iconst 1, 1) := by decide +kernel
theorem d_TP_village_35 : decode prog_1_method_52_code 35 = .ok (.ireturn, 1) := by decide +kernel
theorem d_TP_window_0 : decode prog_1_method_53_code 0 = .ok (.iload_n 1, 1) := by decide +kernel
theorem d_TP_window_1 : decode prog_1_method_53_code 1 = .ok (.ifCond .lt 19, 3) := by decide +kernel
theorem d_TP_window_4 : decode prog_1_method_53_code 4 = .ok (.iload_n 1, 1) := by decide +kernel
theorem d_TP_window_5 : decode prog_1_method_53_code 5 = .ok (.bipush 10, 2) := by decide +kernel
theorem d_TP_window_7 : decode prog_1_method_53_code 7 = .ok (.if_icmp .ge 13, 3) := by decide +kernel
theorem d_TP_window_10 : decode prog_1_method_53_code 10 = .ok (.iload_n 2, 1) := by decide +kernel
theorem d_TP_window_11 : decode prog_1_method_53_code 11 = .ok (.ifCond .lt 9, 3) := by decide +kernel
theorem d_TP_window_14 : decode prog_1_method_53_code 14 = .ok (.iload_n 2, 1) := by decide +kernel
theorem d_TP_window_15 : decode prog_1_method_53_code 15 = .ok (.bipush 10, 2) := by decide +kernel
theorem d_TP_window_17 : decode prog_1_method_53_code 17 = .ok (.if_icmp .le 5, 3) := by decide +kernel
theorem d_TP_window_20 : decode prog_1_method_53_code 20 = .ok (.iconst (-1), 1) := by decide +kernel
theorem d_TP_window_21 : decode prog_1_method_53_code 21 = .ok (.ireturn, 1) := by decide +kernel
theorem d_TP_window_22 : decode prog_1_method_53_code 22 = .ok (.aload_n 0, 1) := by decide +kernel
theorem d_TP_window_23 : decode prog_1_method_53_code 23 = .ok (.getfield 10, 3) := by decide +kernel
theorem d_TP_window_26 : decode prog_1_method_53_code 26 = .ok (.iload_n 1, 1) := by decide +kernel
theorem d_TP_window_27 : decode prog_1_method_53_code 27 = .ok (.iload_n 2, 1) := by decide +kernel
theorem d_TP_window_28 : decode prog_1_method_53_code 28 = .ok (.invokevirtual 358, 3) := by decide +kernel
theorem d_TP_window_31 : decode prog_1_method_53_code 31 = .ok (.ireturn, 1) := by decide +kernel
theorem d_TP_busiest_0 : decode prog_1_method_54_code 0 = .ok (.iload_n 1, 1) := by decide +kernel
theorem d_TP_busiest_1 : decode prog_1_method_54_code 1 = .ok (.ifCond .lt 9, 3) := by decide +kernel
theorem d_TP_busiest_4 : decode prog_1_method_54_code 4 = .ok (.iload_n 1, 1) := by decide +kernel
theorem d_TP_busiest_5 : decode prog_1_method_54_code 5 = .ok (.bipush 10, 2) := by decide +kernel
theorem d_TP_busiest_7 : decode prog_1_method_54_code 7 = .ok (.if_icmp .le 5, 3) := by decide +kernel
theorem d_TP_busiest_10 : decode prog_1_method_54_code 10 = .ok (.iconst (-1), 1) := by decide +kernel
theorem d_TP_busiest_11 : decode prog_1_method_54_code 11 = .ok (.ireturn, 1) := by decide +kernel
theorem d_TP_busiest_12 : decode prog_1_method_54_code 12 = .ok (.iconst 0, 1) := by decide +kernel
theorem d_TP_busiest_13 : decode prog_1_method_54_code 13 = .ok (.istore_n 2, 1) := by decide +kernel
theorem d_TP_busiest_14 : decode prog_1_method_54_code 14 = .ok (.iconst 1, 1) := by decide +kernel
theorem d_TP_busiest_15 : decode prog_1_method_54_code 15 = .ok (.istore_n 3, 1) := by decide +kernel
theorem d_TP_busiest_16 : decode prog_1_method_54_code 16 = .ok (.iload_n 3, 1) := by decide +kernel
theorem d_TP_busiest_17 : decode prog_1_method_54_code 17 = .ok (.bipush 10, 2) := by decide +kernel
theorem d_TP_busiest_19 : decode prog_1_method_54_code 19 = .ok (.if_icmp .ge 32, 3) := by decide +kernel
theorem d_TP_busiest_22 : decode prog_1_method_54_code 22 = .ok (.aload_n 0, 1) := by decide +kernel
theorem d_TP_busiest_23 : decode prog_1_method_54_code 23 = .ok (.getfield 10, 3) := by decide +kernel
theorem d_TP_busiest_26 : decode prog_1_method_54_code 26 = .ok (.iload_n 3, 1) := by decide +kernel
theorem d_TP_busiest_27 : decode prog_1_method_54_code 27 = .ok (.iload_n 1, 1) := by decide +kernel
theorem d_TP_busiest_28 : decode prog_1_method_54_code 28 = .ok (.invokevirtual 358, 3) := by decide +kernel
theorem d_TP_busiest_31 : decode prog_1_method_54_code 31 = .ok (.aload_n 0, 1) := by decide +kernel
theorem d_TP_busiest_32 : decode prog_1_method_54_code 32 = .ok (.getfield 10, 3) := by decide +kernel
theorem d_TP_busiest_35 : decode prog_1_method_54_code 35 = .ok (.iload_n 2, 1) := by decide +kernel
theorem d_TP_busiest_36 : decode prog_1_method_54_code 36 = .ok (.iload_n 1, 1) := by decide +kernel
theorem d_TP_busiest_37 : decode prog_1_method_54_code 37 = .ok (.invokevirtual 358, 3) := by decide +kernel
theorem d_TP_busiest_40 : decode prog_1_method_54_code 40 = .ok (.if_icmp .le 5, 3) := by decide +kernel
theorem d_TP_busiest_43 : decode prog_1_method_54_code 43 = .ok (.iload_n 3, 1) := by decide +kernel
theorem d_TP_busiest_44 : decode prog_1_method_54_code 44 = .ok (.istore_n 2, 1) := by decide +kernel
theorem d_TP_busiest_45 : decode prog_1_method_54_code 45 = .ok (.iinc 3 1, 3) := by decide +kernel
theorem d_TP_busiest_48 : decode prog_1_method_54_code 48 = .ok (.goto (-32), 3) := by decide +kernel
theorem d_TP_busiest_51 : decode prog_1_method_54_code 51 = .ok (.iload_n 2, 1) := by decide +kernel
theorem d_TP_busiest_52 : decode prog_1_method_54_code 52 = .ok (.ireturn, 1) := by decide +kernel
theorem d_TP_said_0 : decode prog_1_method_55_code 0 = .ok (.iload_n 1, 1) := by decide +kernel
theorem d_TP_said_1 : decode prog_1_method_55_code 1 = .ok (.iconst (-1), 1) := by decide +kernel
theorem d_TP_said_2 : decode prog_1_method_55_code 2 = .ok (.if_icmp .ne 13, 3) := by decide +kernel
theorem d_TP_said_5 : decode prog_1_method_55_code 5 = .ok (.aload_n 0, 1) := by decide +kernel
theorem d_TP_said_6 : decode prog_1_method_55_code 6 = .ok (.getfield 10, 3) := by decide +kernel
theorem d_TP_said_9 : decode prog_1_method_55_code 9 = .ok (.iconst 0, 1) := by decide +kernel
theorem d_TP_said_10 : decode prog_1_method_55_code 10 = .ok (.putfield 361, 3) := by decide +kernel
theorem d_TP_said_13 : decode prog_1_method_55_code 13 = .ok (.iconst 0, 1) := by decide +kernel
theorem d_TP_said_14 : decode prog_1_method_55_code 14 = .ok (.ireturn, 1) := by decide +kernel
theorem d_TP_said_15 : decode prog_1_method_55_code 15 = .ok (.aload_n 0, 1) := by decide +kernel
theorem d_TP_said_16 : decode prog_1_method_55_code 16 = .ok (.getfield 10, 3) := by decide +kernel
theorem d_TP_said_19 : decode prog_1_method_55_code 19 = .ok (.iload_n 1, 1) := by decide +kernel
theorem d_TP_said_20 : decode prog_1_method_55_code 20 = .ok (.iload_n 2, 1) := by decide +kernel
theorem d_TP_said_21 : decode prog_1_method_55_code 21 = .ok (.invokevirtual 364, 3) := by decide +kernel
theorem d_TP_said_24 : decode prog_1_method_55_code 24 = .ok (.ifCond .eq 13, 3) := by decide +kernel
theorem d_TP_said_27 : decode prog_1_method_55_code 27 = .ok (.aload_n 0, 1) := by decide +kernel
theorem d_TP_said_28 : decode prog_1_method_55_code 28 = .ok (.getfield 10, 3) := by decide +kernel
theorem d_TP_said_31 : decode prog_1_method_55_code 31 = .ok (.getfield 361, 3) := by decide +kernel
theorem d_TP_said_34 : decode prog_1_method_55_code 34 = .ok (.goto 5, 3) := by decide +kernel
theorem d_TP_said_37 : decode prog_1_method_55_code 37 = .ok (.bipush (-2), 2) := by decide +kernel
theorem d_TP_said_39 : decode prog_1_method_55_code 39 = .ok (.ireturn, 1) := by decide +kernel
theorem d_TP_whose_0 : decode prog_1_method_56_code 0 = .ok (.iconst 0, 1) := by decide +kernel
theorem d_TP_whose_1 : decode prog_1_method_56_code 1 = .ok (.istore_n 1, 1) := by decide +kernel
theorem d_TP_whose_2 : decode prog_1_method_56_code 2 = .ok (.iconst 0, 1) := by decide +kernel
theorem d_TP_whose_3 : decode prog_1_method_56_code 3 = .ok (.istore_n 2, 1) := by decide +kernel
theorem d_TP_whose_4 : decode prog_1_method_56_code 4 = .ok (.iload_n 2, 1) := by decide +kernel
theorem d_TP_whose_5 : decode prog_1_method_56_code 5 = .ok (.aload_n 0, 1) := by decide +kernel
theorem d_TP_whose_6 : decode prog_1_method_56_code 6 = .ok (.getfield 10, 3) := by decide +kernel
theorem d_TP_whose_9 : decode prog_1_method_56_code 9 = .ok (.getfield 100, 3) := by decide +kernel
theorem d_TP_whose_12 : decode prog_1_method_56_code 12 = .ok (.if_icmp .ge 30, 3) := by decide +kernel
theorem d_TP_whose_15 : decode prog_1_method_56_code 15 = .ok (.aload_n 0, 1) := by decide +kernel
theorem d_TP_whose_16 : decode prog_1_method_56_code 16 = .ok (.aload_n 0, 1) := by decide +kernel
theorem d_TP_whose_17 : decode prog_1_method_56_code 17 = .ok (.getfield 10, 3) := by decide +kernel
theorem d_TP_whose_20 : decode prog_1_method_56_code 20 = .ok (.iload_n 2, 1) := by decide +kernel
theorem d_TP_whose_21 : decode prog_1_method_56_code 21 = .ok (.invokevirtual 117, 3) := by decide +kernel
theorem d_TP_whose_24 : decode prog_1_method_56_code 24 = .ok (.invokevirtual 367, 3) := by decide +kernel
theorem d_TP_whose_27 : decode prog_1_method_56_code 27 = .ok (.ifCond .eq 9, 3) := by decide +kernel
theorem d_TP_whose_30 : decode prog_1_method_56_code 30 = .ok (.iload_n 1, 1) := by decide +kernel
theorem d_TP_whose_31 : decode prog_1_method_56_code 31 = .ok (.iconst 1, 1) := by decide +kernel
theorem d_TP_whose_32 : decode prog_1_method_56_code 32 = .ok (.iload_n 2, 1) := by decide +kernel
theorem d_TP_whose_33 : decode prog_1_method_56_code 33 = .ok (.ishl, 1) := by decide +kernel
theorem d_TP_whose_34 : decode prog_1_method_56_code 34 = .ok (.ior, 1) := by decide +kernel
theorem d_TP_whose_35 : decode prog_1_method_56_code 35 = .ok (.istore_n 1, 1) := by decide +kernel
theorem d_TP_whose_36 : decode prog_1_method_56_code 36 = .ok (.iinc 2 1, 3) := by decide +kernel
theorem d_TP_whose_39 : decode prog_1_method_56_code 39 = .ok (.goto (-35), 3) := by decide +kernel
theorem d_TP_whose_42 : decode prog_1_method_56_code 42 = .ok (.iload_n 1, 1) := by decide +kernel
theorem d_TP_whose_43 : decode prog_1_method_56_code 43 = .ok (.ireturn, 1) := by decide +kernel
theorem d_TP_accountsForSaid_0 : decode prog_1_method_77_code 0 = .ok (.iconst 0, 1) := by decide +kernel
theorem d_TP_accountsForSaid_1 : decode prog_1_method_77_code 1 = .ok (.istore_n 2, 1) := by decide +kernel
theorem d_TP_accountsForSaid_2 : decode prog_1_method_77_code 2 = .ok (.iload_n 2, 1) := by decide +kernel
theorem d_TP_accountsForSaid_3 : decode prog_1_method_77_code 3 = .ok (.aload_n 0, 1) := by decide +kernel
theorem d_TP_accountsForSaid_4 : decode prog_1_method_77_code 4 = .ok (.getfield 10, 3) := by decide +kernel
theorem d_TP_accountsForSaid_7 : decode prog_1_method_77_code 7 = .ok (.getfield 361, 3) := by decide +kernel
theorem d_TP_accountsForSaid_10 : decode prog_1_method_77_code 10 = .ok (.if_icmp .ge 56, 3) := by decide +kernel
theorem d_TP_accountsForSaid_13 : decode prog_1_method_77_code 13 = .ok (.aload_n 0, 1) := by decide +kernel
theorem d_TP_accountsForSaid_14 : decode prog_1_method_77_code 14 = .ok (.getfield 31, 3) := by decide +kernel
theorem d_TP_accountsForSaid_17 : decode prog_1_method_77_code 17 = .ok (.aload_n 0, 1) := by decide +kernel
theorem d_TP_accountsForSaid_18 : decode prog_1_method_77_code 18 = .ok (.getfield 10, 3) := by decide +kernel
theorem d_TP_accountsForSaid_21 : decode prog_1_method_77_code 21 = .ok (.getfield 128, 3) := by decide +kernel
theorem d_TP_accountsForSaid_24 : decode prog_1_method_77_code 24 = .ok (.aload_n 1, 1) := by decide +kernel
theorem d_TP_accountsForSaid_25 : decode prog_1_method_77_code 25 = .ok (.aload_n 0, 1) := by decide +kernel
theorem d_TP_accountsForSaid_26 : decode prog_1_method_77_code 26 = .ok (.getfield 10, 3) := by decide +kernel
theorem d_TP_accountsForSaid_29 : decode prog_1_method_77_code 29 = .ok (.getfield 400, 3) := by decide +kernel
theorem d_TP_accountsForSaid_32 : decode prog_1_method_77_code 32 = .ok (.iload_n 2, 1) := by decide +kernel
theorem d_TP_accountsForSaid_33 : decode prog_1_method_77_code 33 = .ok (.invokestatic 169, 3) := by decide +kernel
theorem d_TP_accountsForSaid_36 : decode prog_1_method_77_code 36 = .ok (.invokevirtual 387, 3) := by decide +kernel
theorem d_TP_accountsForSaid_39 : decode prog_1_method_77_code 39 = .ok (.istore_n 3, 1) := by decide +kernel
theorem d_TP_accountsForSaid_40 : decode prog_1_method_77_code 40 = .ok (.iload_n 3, 1) := by decide +kernel
theorem d_TP_accountsForSaid_41 : decode prog_1_method_77_code 41 = .ok (.invokestatic 256, 3) := by decide +kernel
theorem d_TP_accountsForSaid_44 : decode prog_1_method_77_code 44 = .ok (.aload_n 0, 1) := by decide +kernel
theorem d_TP_accountsForSaid_45 : decode prog_1_method_77_code 45 = .ok (.getfield 10, 3) := by decide +kernel
theorem d_TP_accountsForSaid_48 : decode prog_1_method_77_code 48 = .ok (.getfield 403, 3) := by decide +kernel
theorem d_TP_accountsForSaid_51 : decode prog_1_method_77_code 51 = .ok (.iload_n 2, 1) := by decide +kernel
theorem d_TP_accountsForSaid_52 : decode prog_1_method_77_code 52 = .ok (.invokestatic 169, 3) := by decide +kernel
theorem d_TP_accountsForSaid_55 : decode prog_1_method_77_code 55 = .ok (.if_icmp .eq 5, 3) := by decide +kernel
theorem d_TP_accountsForSaid_58 : decode prog_1_method_77_code 58 = .ok (.iconst 0, 1) := by decide +kernel
theorem d_TP_accountsForSaid_59 : decode prog_1_method_77_code 59 = .ok (.ireturn, 1) := by decide +kernel
theorem d_TP_accountsForSaid_60 : decode prog_1_method_77_code 60 = .ok (.iinc 2 1, 3) := by decide +kernel
theorem d_TP_accountsForSaid_63 : decode prog_1_method_77_code 63 = .ok (.goto (-61), 3) := by decide +kernel
theorem d_TP_accountsForSaid_66 : decode prog_1_method_77_code 66 = .ok (.iconst 1, 1) := by decide +kernel
theorem d_TP_accountsForSaid_67 : decode prog_1_method_77_code 67 = .ok (.ireturn, 1) := by decide +kernel
theorem d_TP_honest_0 : decode prog_1_method_57_code 0 = .ok (.aload_n 0, 1) := by decide +kernel
theorem d_TP_honest_1 : decode prog_1_method_57_code 1 = .ok (.invokevirtual 217, 3) := by decide +kernel
theorem d_TP_honest_4 : decode prog_1_method_57_code 4 = .ok (.astore_n 1, 1) := by decide +kernel
theorem d_TP_honest_5 : decode prog_1_method_57_code 5 = .ok (.iconst 1, 1) := by decide +kernel
theorem d_TP_honest_6 : decode prog_1_method_57_code 6 = .ok (.aload_n 0, 1) := by decide +kernel
theorem d_TP_honest_7 : decode prog_1_method_57_code 7 = .ok (.getfield 10, 3) := by decide +kernel
theorem d_TP_honest_10 : decode prog_1_method_57_code 10 = .ok (.getfield 128, 3) := by decide +kernel
theorem d_TP_honest_13 : decode prog_1_method_57_code 13 = .ok (.getfield 310, 3) := by decide +kernel
theorem d_TP_honest_16 : decode prog_1_method_57_code 16 = .ok (.ishl, 1) := by decide +kernel
theorem d_TP_honest_17 : decode prog_1_method_57_code 17 = .ok (.iconst 1, 1) := by decide +kernel
theorem d_TP_honest_18 : decode prog_1_method_57_code 18 = .ok (.isub, 1) := by decide +kernel
theorem d_TP_honest_19 : decode prog_1_method_57_code 19 = .ok (.istore_n 2, 1) := by decide +kernel
theorem d_TP_honest_20 : decode prog_1_method_57_code 20 = .ok (.iload_n 2, 1) := by decide +kernel
theorem d_TP_honest_21 : decode prog_1_method_57_code 21 = .ok (.aload_n 1, 1) := by decide +kernel
theorem d_TP_honest_22 : decode prog_1_method_57_code 22 = .ok (.invokevirtual 277, 3) := by decide +kernel
theorem d_TP_honest_25 : decode prog_1_method_57_code 25 = .ok (.aload_n 1, 1) := by decide +kernel
theorem d_TP_honest_26 : decode prog_1_method_57_code 26 = .ok (.invokevirtual 274, 3) := by decide +kernel
theorem d_TP_honest_29 : decode prog_1_method_57_code 29 = .ok (.iconst (-1), 1) := by decide +kernel
theorem d_TP_honest_30 : decode prog_1_method_57_code 30 = .ok (.ixor, 1) := by decide +kernel
theorem d_TP_honest_31 : decode prog_1_method_57_code 31 = .ok (.ior, 1) := by decide +kernel
theorem d_TP_honest_32 : decode prog_1_method_57_code 32 = .ok (.iand, 1) := by decide +kernel
theorem d_TP_honest_33 : decode prog_1_method_57_code 33 = .ok (.ireturn, 1) := by decide +kernel
theorem d_TP_changes_0 : decode prog_1_method_58_code 0 = .ok (.aload_n 0, 1) := by decide +kernel
theorem d_TP_changes_1 : decode prog_1_method_58_code 1 = .ok (.getfield 10, 3) := by decide +kernel
theorem d_TP_changes_4 : decode prog_1_method_58_code 4 = .ok (.getfield 128, 3) := by decide +kernel
theorem d_TP_changes_7 : decode prog_1_method_58_code 7 = .ok (.astore_n 1, 1) := by decide +kernel
theorem d_TP_changes_8 : decode prog_1_method_58_code 8 = .ok (.iconst 0, 1) := by decide +kernel
theorem d_TP_changes_9 : decode prog_1_method_58_code 9 = .ok (.istore_n 2, 1) := by decide +kernel
theorem d_TP_changes_10 : decode prog_1_method_58_code 10 = .ok (.iconst 0, 1) := by decide +kernel
theorem d_TP_changes_11 : decode prog_1_method_58_code 11 = .ok (.istore_n 3, 1) := by decide +kernel
theorem d_TP_changes_12 : decode prog_1_method_58_code 12 = .ok (.iload_n 3, 1) := by decide +kernel
theorem d_TP_changes_13 : decode prog_1_method_58_code 13 = .ok (.aload_n 1, 1) := by decide +kernel
theorem d_TP_changes_14 : decode prog_1_method_58_code 14 = .ok (.getfield 200, 3) := by decide +kernel
theorem d_TP_changes_17 : decode prog_1_method_58_code 17 = .ok (.if_icmp .ge 27, 3) := by decide +kernel
theorem d_TP_changes_20 : decode prog_1_method_58_code 20 = .ok (.aload_n 1, 1) := by decide +kernel
theorem d_TP_changes_21 : decode prog_1_method_58_code 21 = .ok (.iload_n 3, 1) := by decide +kernel
theorem d_TP_changes_22 : decode prog_1_method_58_code 22 = .ok (.iconst 1, 1) := by decide +kernel
theorem d_TP_changes_23 : decode prog_1_method_58_code 23 = .ok (.invokevirtual 203, 3) := by decide +kernel
theorem d_TP_changes_26 : decode prog_1_method_58_code 26 = .ok (.aload_n 1, 1) := by decide +kernel
theorem d_TP_changes_27 : decode prog_1_method_58_code 27 = .ok (.iload_n 3, 1) := by decide +kernel
theorem d_TP_changes_28 : decode prog_1_method_58_code 28 = .ok (.iconst 2, 1) := by decide +kernel
theorem d_TP_changes_29 : decode prog_1_method_58_code 29 = .ok (.invokevirtual 203, 3) := by decide +kernel
theorem d_TP_changes_32 : decode prog_1_method_58_code 32 = .ok (.if_icmp .eq 6, 3) := by decide +kernel
theorem d_TP_changes_35 : decode prog_1_method_58_code 35 = .ok (.iinc 2 1, 3) := by decide +kernel
theorem d_TP_changes_38 : decode prog_1_method_58_code 38 = .ok (.iinc 3 1, 3) := by decide +kernel
theorem d_TP_changes_41 : decode prog_1_method_58_code 41 = .ok (.goto (-29), 3) := by decide +kernel
theorem d_TP_changes_44 : decode prog_1_method_58_code 44 = .ok (.iload_n 2, 1) := by decide +kernel
theorem d_TP_changes_45 : decode prog_1_method_58_code 45 = .ok (.ireturn, 1) := by decide +kernel
theorem d_TP_ledger_0 : decode prog_1_method_59_code 0 = .ok (.iload_n 1, 1) := by decide +kernel
theorem d_TP_ledger_1 : decode prog_1_method_59_code 1 = .ok (.ifCond .lt 9, 3) := by decide +kernel
theorem d_TP_ledger_4 : decode prog_1_method_59_code 4 = .ok (.iload_n 1, 1) := by decide +kernel
theorem d_TP_ledger_5 : decode prog_1_method_59_code 5 = .ok (.bipush 8, 2) := by decide +kernel
theorem d_TP_ledger_7 : decode prog_1_method_59_code 7 = .ok (.if_icmp .le 6, 3) := by decide +kernel
theorem d_TP_ledger_10 : decode prog_1_method_59_code 10 = .ok (.bipush (-2), 2) := by decide +kernel
theorem d_TP_ledger_12 : decode prog_1_method_59_code 12 = .ok (.ireturn, 1) := by decide +kernel
theorem d_TP_ledger_13 : decode prog_1_method_59_code 13 = .ok (.aload_n 0, 1) := by decide +kernel
theorem d_TP_ledger_14 : decode prog_1_method_59_code 14 = .ok (.getfield 10, 3) := by decide +kernel
theorem d_TP_ledger_17 : decode prog_1_method_59_code 17 = .ok (.getfield 128, 3) := by decide +kernel
theorem d_TP_ledger_20 : decode prog_1_method_59_code 20 = .ok (.astore_n 2, 1) := by decide +kernel
theorem d_TP_ledger_21 : decode prog_1_method_59_code 21 = .ok (.iconst 0, 1) := by decide +kernel
theorem d_TP_ledger_22 : decode prog_1_method_59_code 22 = .ok (.istore_n 3, 1) := by decide +kernel
theorem d_TP_ledger_23 : decode prog_1_method_59_code 23 = .ok (.iconst 0, 1) := by decide +kernel
theorem d_TP_ledger_24 : decode prog_1_method_59_code 24 = .ok (.istore 4, 2) := by decide +kernel
theorem d_TP_ledger_26 : decode prog_1_method_59_code 26 = .ok (.iload 4, 2) := by decide +kernel
theorem d_TP_ledger_28 : decode prog_1_method_59_code 28 = .ok (.aload_n 2, 1) := by decide +kernel
theorem d_TP_ledger_29 : decode prog_1_method_59_code 29 = .ok (.getfield 200, 3) := by decide +kernel
theorem d_TP_ledger_32 : decode prog_1_method_59_code 32 = .ok (.if_icmp .ge 23, 3) := by decide +kernel
theorem d_TP_ledger_35 : decode prog_1_method_59_code 35 = .ok (.aload_n 2, 1) := by decide +kernel
theorem d_TP_ledger_36 : decode prog_1_method_59_code 36 = .ok (.iload 4, 2) := by decide +kernel
theorem d_TP_ledger_38 : decode prog_1_method_59_code 38 = .ok (.iconst 2, 1) := by decide +kernel
theorem d_TP_ledger_39 : decode prog_1_method_59_code 39 = .ok (.invokevirtual 203, 3) := by decide +kernel
theorem d_TP_ledger_42 : decode prog_1_method_59_code 42 = .ok (.iload_n 1, 1) := by decide +kernel
theorem d_TP_ledger_43 : decode prog_1_method_59_code 43 = .ok (.if_icmp .ne 6, 3) := by decide +kernel
theorem d_TP_ledger_46 : decode prog_1_method_59_code 46 = .ok (.iinc 3 1, 3) := by decide +kernel
theorem d_TP_ledger_49 : decode prog_1_method_59_code 49 = .ok (.iinc 4 1, 3) := by decide +kernel
theorem d_TP_ledger_52 : decode prog_1_method_59_code 52 = .ok (.goto (-26), 3) := by decide +kernel
theorem d_TP_ledger_55 : decode prog_1_method_59_code 55 = .ok (.iload_n 3, 1) := by decide +kernel
theorem d_TP_ledger_56 : decode prog_1_method_59_code 56 = .ok (.ireturn, 1) := by decide +kernel
theorem d_TP_image_0 : decode prog_1_method_60_code 0 = .ok (.aload_n 0, 1) := by decide +kernel
theorem d_TP_image_1 : decode prog_1_method_60_code 1 = .ok (.getfield 16, 3) := by decide +kernel
theorem d_TP_image_4 : decode prog_1_method_60_code 4 = .ok (.aload_n 0, 1) := by decide +kernel
theorem d_TP_image_5 : decode prog_1_method_60_code 5 = .ok (.getfield 10, 3) := by decide +kernel
theorem d_TP_image_8 : decode prog_1_method_60_code 8 = .ok (.invokevirtual 371, 3) := by decide +kernel
theorem d_TP_image_11 : decode prog_1_method_60_code 11 = .ok (.aload_n 0, 1) := by decide +kernel
theorem d_TP_image_12 : decode prog_1_method_60_code 12 = .ok (.getfield 10, 3) := by decide +kernel
theorem d_TP_image_15 : decode prog_1_method_60_code 15 = .ok (.getfield 128, 3) := by decide +kernel
theorem d_TP_image_18 : decode prog_1_method_60_code 18 = .ok (.getfield 137, 3) := by decide +kernel
theorem d_TP_image_21 : decode prog_1_method_60_code 21 = .ok (.ireturn, 1) := by decide +kernel
theorem d_TP_back_0 : decode prog_1_method_61_code 0 = .ok (.aload_n 0, 1) := by decide +kernel
theorem d_TP_back_1 : decode prog_1_method_61_code 1 = .ok (.getfield 10, 3) := by decide +kernel
theorem d_TP_back_4 : decode prog_1_method_61_code 4 = .ok (.aload_n 0, 1) := by decide +kernel
theorem d_TP_back_5 : decode prog_1_method_61_code 5 = .ok (.getfield 16, 3) := by decide +kernel
theorem d_TP_back_8 : decode prog_1_method_61_code 8 = .ok (.invokevirtual 371, 3) := by decide +kernel
theorem d_TP_back_11 : decode prog_1_method_61_code 11 = .ok (.aload_n 0, 1) := by decide +kernel
theorem d_TP_back_12 : decode prog_1_method_61_code 12 = .ok (.getfield 10, 3) := by decide +kernel
theorem d_TP_back_15 : decode prog_1_method_61_code 15 = .ok (.getfield 128, 3) := by decide +kernel
theorem d_TP_back_18 : decode prog_1_method_61_code 18 = .ok (.getfield 137, 3) := by decide +kernel
theorem d_TP_back_21 : decode prog_1_method_61_code 21 = .ok (.ireturn, 1) := by decide +kernel
theorem d_TP_about_0 : decode prog_1_method_62_code 0 = .ok (.iload_n 1, 1) := by decide +kernel
theorem d_TP_about_1 : decode prog_1_method_62_code 1 = .ok (.tableswitch 90 0 5 #[39, 50, 58, 66, 74, 82], 39) := by decide +kernel
theorem d_TP_about_40 : decode prog_1_method_62_code 40 = .ok (.aload_n 0, 1) := by decide +kernel
theorem d_TP_about_41 : decode prog_1_method_62_code 41 = .ok (.getfield 10, 3) := by decide +kernel
theorem d_TP_about_44 : decode prog_1_method_62_code 44 = .ok (.getfield 128, 3) := by decide +kernel
theorem d_TP_about_47 : decode prog_1_method_62_code 47 = .ok (.getfield 310, 3) := by decide +kernel
theorem d_TP_about_50 : decode prog_1_method_62_code 50 = .ok (.ireturn, 1) := by decide +kernel
theorem d_TP_about_51 : decode prog_1_method_62_code 51 = .ok (.aload_n 0, 1) := by decide +kernel
theorem d_TP_about_52 : decode prog_1_method_62_code 52 = .ok (.getfield 10, 3) := by decide +kernel
theorem d_TP_about_55 : decode prog_1_method_62_code 55 = .ok (.getfield 100, 3) := by decide +kernel
theorem d_TP_about_58 : decode prog_1_method_62_code 58 = .ok (.ireturn, 1) := by decide +kernel
theorem d_TP_about_59 : decode prog_1_method_62_code 59 = .ok (.aload_n 0, 1) := by decide +kernel
theorem d_TP_about_60 : decode prog_1_method_62_code 60 = .ok (.getfield 10, 3) := by decide +kernel
theorem d_TP_about_63 : decode prog_1_method_62_code 63 = .ok (.getfield 121, 3) := by decide +kernel
theorem d_TP_about_66 : decode prog_1_method_62_code 66 = .ok (.ireturn, 1) := by decide +kernel
theorem d_TP_about_67 : decode prog_1_method_62_code 67 = .ok (.aload_n 0, 1) := by decide +kernel
theorem d_TP_about_68 : decode prog_1_method_62_code 68 = .ok (.getfield 10, 3) := by decide +kernel
theorem d_TP_about_71 : decode prog_1_method_62_code 71 = .ok (.getfield 160, 3) := by decide +kernel
theorem d_TP_about_74 : decode prog_1_method_62_code 74 = .ok (.ireturn, 1) := by decide +kernel
theorem d_TP_about_75 : decode prog_1_method_62_code 75 = .ok (.aload_n 0, 1) := by decide +kernel
theorem d_TP_about_76 : decode prog_1_method_62_code 76 = .ok (.getfield 10, 3) := by decide +kernel
theorem d_TP_about_79 : decode prog_1_method_62_code 79 = .ok (.getfield 361, 3) := by decide +kernel
theorem d_TP_about_82 : decode prog_1_method_62_code 82 = .ok (.ireturn, 1) := by decide +kernel
theorem d_TP_about_83 : decode prog_1_method_62_code 83 = .ok (.aload_n 0, 1) := by decide +kernel
theorem d_TP_about_84 : decode prog_1_method_62_code 84 = .ok (.getfield 54, 3) := by decide +kernel
theorem d_TP_about_87 : decode prog_1_method_62_code 87 = .ok (.getfield 93, 3) := by decide +kernel
theorem d_TP_about_90 : decode prog_1_method_62_code 90 = .ok (.ireturn, 1) := by decide +kernel
theorem d_TP_about_91 : decode prog_1_method_62_code 91 = .ok (.bipush (-2), 2) := by decide +kernel
theorem d_TP_about_93 : decode prog_1_method_62_code 93 = .ok (.ireturn, 1) := by decide +kernel
