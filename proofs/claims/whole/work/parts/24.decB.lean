theorem md_B_init_0 : decode mc_B_init 0 = .ok (.aload_n 0, 1) := by decide +kernel
theorem md_B_init_1 : decode mc_B_init 1 = .ok (.invokespecial 1, 3) := by decide +kernel
theorem md_B_init_4 : decode mc_B_init 4 = .ok (.aload_n 0, 1) := by decide +kernel
theorem md_B_init_5 : decode mc_B_init 5 = .ok (.bipush 16, 2) := by decide +kernel
theorem md_B_init_7 : decode mc_B_init 7 = .ok (.newarray .int, 2) := by decide +kernel
theorem md_B_init_9 : decode mc_B_init 9 = .ok (.putfield 7, 3) := by decide +kernel
theorem md_B_init_12 : decode mc_B_init 12 = .ok (.aload_n 0, 1) := by decide +kernel
theorem md_B_init_13 : decode mc_B_init 13 = .ok (.bipush 16, 2) := by decide +kernel
theorem md_B_init_15 : decode mc_B_init 15 = .ok (.newarray .int, 2) := by decide +kernel
theorem md_B_init_17 : decode mc_B_init 17 = .ok (.putfield 13, 3) := by decide +kernel
theorem md_B_init_20 : decode mc_B_init 20 = .ok (.aload_n 0, 1) := by decide +kernel
theorem md_B_init_21 : decode mc_B_init 21 = .ok (.bipush 16, 2) := by decide +kernel
theorem md_B_init_23 : decode mc_B_init 23 = .ok (.newarray .int, 2) := by decide +kernel
theorem md_B_init_25 : decode mc_B_init 25 = .ok (.putfield 16, 3) := by decide +kernel
theorem md_B_init_28 : decode mc_B_init 28 = .ok (.aload_n 0, 1) := by decide +kernel
theorem md_B_init_29 : decode mc_B_init 29 = .ok (.bipush 96, 2) := by decide +kernel
theorem md_B_init_31 : decode mc_B_init 31 = .ok (.newarray .boolean, 2) := by decide +kernel
theorem md_B_init_33 : decode mc_B_init 33 = .ok (.putfield 19, 3) := by decide +kernel
theorem md_B_init_36 : decode mc_B_init 36 = .ok (.aload_n 0, 1) := by decide +kernel
theorem md_B_init_37 : decode mc_B_init 37 = .ok (.bipush 96, 2) := by decide +kernel
theorem md_B_init_39 : decode mc_B_init 39 = .ok (.newarray .boolean, 2) := by decide +kernel
theorem md_B_init_41 : decode mc_B_init 41 = .ok (.putfield 23, 3) := by decide +kernel
theorem md_B_init_44 : decode mc_B_init 44 = .ok (.aload_n 0, 1) := by decide +kernel
theorem md_B_init_45 : decode mc_B_init 45 = .ok (.bipush 96, 2) := by decide +kernel
theorem md_B_init_47 : decode mc_B_init 47 = .ok (.newarray .int, 2) := by decide +kernel
theorem md_B_init_49 : decode mc_B_init 49 = .ok (.putfield 26, 3) := by decide +kernel
theorem md_B_init_52 : decode mc_B_init 52 = .ok (.aload_n 0, 1) := by decide +kernel
theorem md_B_init_53 : decode mc_B_init 53 = .ok (.bipush 96, 2) := by decide +kernel
theorem md_B_init_55 : decode mc_B_init 55 = .ok (.newarray .int, 2) := by decide +kernel
theorem md_B_init_57 : decode mc_B_init 57 = .ok (.putfield 29, 3) := by decide +kernel
theorem md_B_init_60 : decode mc_B_init 60 = .ok (.aload_n 0, 1) := by decide +kernel
theorem md_B_init_61 : decode mc_B_init 61 = .ok (.bipush 96, 2) := by decide +kernel
theorem md_B_init_63 : decode mc_B_init 63 = .ok (.newarray .int, 2) := by decide +kernel
theorem md_B_init_65 : decode mc_B_init 65 = .ok (.putfield 32, 3) := by decide +kernel
theorem md_B_init_68 : decode mc_B_init 68 = .ok (.aload_n 0, 1) := by decide +kernel
theorem md_B_init_69 : decode mc_B_init 69 = .ok (.bipush 96, 2) := by decide +kernel
theorem md_B_init_71 : decode mc_B_init 71 = .ok (.newarray .int, 2) := by decide +kernel
theorem md_B_init_73 : decode mc_B_init 73 = .ok (.putfield 35, 3) := by decide +kernel
theorem md_B_init_76 : decode mc_B_init 76 = .ok (.aload_n 0, 1) := by decide +kernel
theorem md_B_init_77 : decode mc_B_init 77 = .ok (.bipush 96, 2) := by decide +kernel
theorem md_B_init_79 : decode mc_B_init 79 = .ok (.newarray .int, 2) := by decide +kernel
theorem md_B_init_81 : decode mc_B_init 81 = .ok (.putfield 38, 3) := by decide +kernel
theorem md_B_init_84 : decode mc_B_init 84 = .ok (.aload_n 0, 1) := by decide +kernel
theorem md_B_init_85 : decode mc_B_init 85 = .ok (.bipush 96, 2) := by decide +kernel
theorem md_B_init_87 : decode mc_B_init 87 = .ok (.newarray .int, 2) := by decide +kernel
theorem md_B_init_89 : decode mc_B_init 89 = .ok (.putfield 41, 3) := by decide +kernel
theorem md_B_init_92 : decode mc_B_init 92 = .ok (.aload_n 0, 1) := by decide +kernel
theorem md_B_init_93 : decode mc_B_init 93 = .ok (.bipush 96, 2) := by decide +kernel
theorem md_B_init_95 : decode mc_B_init 95 = .ok (.newarray .int, 2) := by decide +kernel
theorem md_B_init_97 : decode mc_B_init 97 = .ok (.putfield 44, 3) := by decide +kernel
theorem md_B_init_100 : decode mc_B_init 100 = .ok (.aload_n 0, 1) := by decide +kernel
theorem md_B_init_101 : decode mc_B_init 101 = .ok (.bipush 96, 2) := by decide +kernel
theorem md_B_init_103 : decode mc_B_init 103 = .ok (.newarray .boolean, 2) := by decide +kernel
theorem md_B_init_105 : decode mc_B_init 105 = .ok (.putfield 47, 3) := by decide +kernel
theorem md_B_init_108 : decode mc_B_init 108 = .ok (.aload_n 0, 1) := by decide +kernel
theorem md_B_init_109 : decode mc_B_init 109 = .ok (.bipush 96, 2) := by decide +kernel
theorem md_B_init_111 : decode mc_B_init 111 = .ok (.newarray .int, 2) := by decide +kernel
theorem md_B_init_113 : decode mc_B_init 113 = .ok (.putfield 50, 3) := by decide +kernel
theorem md_B_init_116 : decode mc_B_init 116 = .ok (.aload_n 0, 1) := by decide +kernel
theorem md_B_init_117 : decode mc_B_init 117 = .ok (.iconst 5, 1) := by decide +kernel
theorem md_B_init_118 : decode mc_B_init 118 = .ok (.newarray .boolean, 2) := by decide +kernel
theorem md_B_init_120 : decode mc_B_init 120 = .ok (.putfield 53, 3) := by decide +kernel
theorem md_B_init_123 : decode mc_B_init 123 = .ok (.aload_n 0, 1) := by decide +kernel
theorem md_B_init_124 : decode mc_B_init 124 = .ok (.bipush 96, 2) := by decide +kernel
theorem md_B_init_126 : decode mc_B_init 126 = .ok (.newarray .int, 2) := by decide +kernel
theorem md_B_init_128 : decode mc_B_init 128 = .ok (.putfield 56, 3) := by decide +kernel
theorem md_B_init_131 : decode mc_B_init 131 = .ok (.aload_n 0, 1) := by decide +kernel
theorem md_B_init_132 : decode mc_B_init 132 = .ok (.bipush 96, 2) := by decide +kernel
theorem md_B_init_134 : decode mc_B_init 134 = .ok (.newarray .int, 2) := by decide +kernel
theorem md_B_init_136 : decode mc_B_init 136 = .ok (.putfield 59, 3) := by decide +kernel
theorem md_B_init_139 : decode mc_B_init 139 = .ok (.return_, 1) := by decide +kernel
theorem md_B_thrown_0 : decode mc_B_thrown 0 = .ok (.aload_n 0, 1) := by decide +kernel
theorem md_B_thrown_1 : decode mc_B_thrown 1 = .ok (.getfield 62, 3) := by decide +kernel
theorem md_B_thrown_4 : decode mc_B_thrown 4 = .ok (.ireturn, 1) := by decide +kernel
theorem md_B_refuse_0 : decode mc_B_refuse 0 = .ok (.aload_n 0, 1) := by decide +kernel
theorem md_B_refuse_1 : decode mc_B_refuse 1 = .ok (.iload_n 1, 1) := by decide +kernel
theorem md_B_refuse_2 : decode mc_B_refuse 2 = .ok (.putfield 62, 3) := by decide +kernel
theorem md_B_refuse_5 : decode mc_B_refuse 5 = .ok (.iconst 0, 1) := by decide +kernel
theorem md_B_refuse_6 : decode mc_B_refuse 6 = .ok (.ireturn, 1) := by decide +kernel
theorem md_B_in_0 : decode mc_B_in 0 = .ok (.iload_n 0, 1) := by decide +kernel
theorem md_B_in_1 : decode mc_B_in 1 = .ok (.iload_n 1, 1) := by decide +kernel
theorem md_B_in_2 : decode mc_B_in 2 = .ok (.if_icmp .lt 12, 3) := by decide +kernel
theorem md_B_in_5 : decode mc_B_in 5 = .ok (.iload_n 0, 1) := by decide +kernel
theorem md_B_in_6 : decode mc_B_in 6 = .ok (.iload_n 2, 1) := by decide +kernel
theorem md_B_in_7 : decode mc_B_in 7 = .ok (.if_icmp .gt 7, 3) := by decide +kernel
theorem md_B_in_10 : decode mc_B_in 10 = .ok (.iconst 1, 1) := by decide +kernel
theorem md_B_in_11 : decode mc_B_in 11 = .ok (.goto 4, 3) := by decide +kernel
theorem md_B_in_14 : decode mc_B_in 14 = .ok (.iconst 0, 1) := by decide +kernel
theorem md_B_in_15 : decode mc_B_in 15 = .ok (.ireturn, 1) := by decide +kernel
theorem md_B_isSender_0 : decode mc_B_isSender 0 = .ok (.iload_n 0, 1) := by decide +kernel
theorem md_B_isSender_1 : decode mc_B_isSender 1 = .ok (.ifCond .lt 12, 3) := by decide +kernel
theorem md_B_isSender_4 : decode mc_B_isSender 4 = .ok (.iload_n 0, 1) := by decide +kernel
theorem md_B_isSender_5 : decode mc_B_isSender 5 = .ok (.iconst 4, 1) := by decide +kernel
theorem md_B_isSender_6 : decode mc_B_isSender 6 = .ok (.if_icmp .ge 7, 3) := by decide +kernel
theorem md_B_isSender_9 : decode mc_B_isSender 9 = .ok (.iconst 1, 1) := by decide +kernel
theorem md_B_isSender_10 : decode mc_B_isSender 10 = .ok (.goto 4, 3) := by decide +kernel
theorem md_B_isSender_13 : decode mc_B_isSender 13 = .ok (.iconst 0, 1) := by decide +kernel
theorem md_B_isSender_14 : decode mc_B_isSender 14 = .ok (.ireturn, 1) := by decide +kernel
theorem md_B_isNumber_0 : decode mc_B_isNumber 0 = .ok (.iload_n 0, 1) := by decide +kernel
theorem md_B_isNumber_1 : decode mc_B_isNumber 1 = .ok (.iconst 1, 1) := by decide +kernel
theorem md_B_isNumber_2 : decode mc_B_isNumber 2 = .ok (.if_icmp .lt 13, 3) := by decide +kernel
theorem md_B_isNumber_5 : decode mc_B_isNumber 5 = .ok (.iload_n 0, 1) := by decide +kernel
theorem md_B_isNumber_6 : decode mc_B_isNumber 6 = .ok (.bipush 24, 2) := by decide +kernel
theorem md_B_isNumber_8 : decode mc_B_isNumber 8 = .ok (.if_icmp .gt 7, 3) := by decide +kernel
theorem md_B_isNumber_11 : decode mc_B_isNumber 11 = .ok (.iconst 1, 1) := by decide +kernel
theorem md_B_isNumber_12 : decode mc_B_isNumber 12 = .ok (.goto 4, 3) := by decide +kernel
theorem md_B_isNumber_15 : decode mc_B_isNumber 15 = .ok (.iconst 0, 1) := by decide +kernel
theorem md_B_isNumber_16 : decode mc_B_isNumber 16 = .ok (.ireturn, 1) := by decide +kernel
theorem md_B_isHere_0 : decode mc_B_isHere 0 = .ok (.aload_n 0, 1) := by decide +kernel
theorem md_B_isHere_1 : decode mc_B_isHere 1 = .ok (.getfield 19, 3) := by decide +kernel
theorem md_B_isHere_4 : decode mc_B_isHere 4 = .ok (.iload_n 1, 1) := by decide +kernel
theorem md_B_isHere_5 : decode mc_B_isHere 5 = .ok (.baload, 1) := by decide +kernel
theorem md_B_isHere_6 : decode mc_B_isHere 6 = .ok (.ifCond .eq 18, 3) := by decide +kernel
theorem md_B_isHere_9 : decode mc_B_isHere 9 = .ok (.aload_n 0, 1) := by decide +kernel
theorem md_B_isHere_10 : decode mc_B_isHere 10 = .ok (.getfield 35, 3) := by decide +kernel
theorem md_B_isHere_13 : decode mc_B_isHere 13 = .ok (.iload_n 1, 1) := by decide +kernel
theorem md_B_isHere_14 : decode mc_B_isHere 14 = .ok (.iaload, 1) := by decide +kernel
theorem md_B_isHere_15 : decode mc_B_isHere 15 = .ok (.bipush 6, 2) := by decide +kernel
theorem md_B_isHere_17 : decode mc_B_isHere 17 = .ok (.if_icmp .eq 7, 3) := by decide +kernel
theorem md_B_isHere_20 : decode mc_B_isHere 20 = .ok (.iconst 1, 1) := by decide +kernel
theorem md_B_isHere_21 : decode mc_B_isHere 21 = .ok (.goto 4, 3) := by decide +kernel
theorem md_B_isHere_24 : decode mc_B_isHere 24 = .ok (.iconst 0, 1) := by decide +kernel
theorem md_B_isHere_25 : decode mc_B_isHere 25 = .ok (.ireturn, 1) := by decide +kernel
theorem md_B_gap_0 : decode mc_B_gap 0 = .ok (.iconst 1, 1) := by decide +kernel
theorem md_B_gap_1 : decode mc_B_gap 1 = .ok (.istore_n 2, 1) := by decide +kernel
theorem md_B_gap_2 : decode mc_B_gap 2 = .ok (.iload_n 2, 1) := by decide +kernel
theorem md_B_gap_3 : decode mc_B_gap 3 = .ok (.bipush 24, 2) := by decide +kernel
theorem md_B_gap_5 : decode mc_B_gap 5 = .ok (.if_icmp .gt 40, 3) := by decide +kernel
theorem md_B_gap_8 : decode mc_B_gap 8 = .ok (.aload_n 0, 1) := by decide +kernel
theorem md_B_gap_9 : decode mc_B_gap 9 = .ok (.bipush 24, 2) := by decide +kernel
theorem md_B_gap_11 : decode mc_B_gap 11 = .ok (.iload_n 1, 1) := by decide +kernel
theorem md_B_gap_12 : decode mc_B_gap 12 = .ok (.imul, 1) := by decide +kernel
theorem md_B_gap_13 : decode mc_B_gap 13 = .ok (.iload_n 2, 1) := by decide +kernel
theorem md_B_gap_14 : decode mc_B_gap 14 = .ok (.iadd, 1) := by decide +kernel
theorem md_B_gap_15 : decode mc_B_gap 15 = .ok (.iconst 1, 1) := by decide +kernel
theorem md_B_gap_16 : decode mc_B_gap 16 = .ok (.isub, 1) := by decide +kernel
theorem md_B_gap_17 : decode mc_B_gap 17 = .ok (.invokevirtual 66, 3) := by decide +kernel
theorem md_B_gap_20 : decode mc_B_gap 20 = .ok (.ifCond .ne 19, 3) := by decide +kernel
theorem md_B_gap_23 : decode mc_B_gap 23 = .ok (.aload_n 0, 1) := by decide +kernel
theorem md_B_gap_24 : decode mc_B_gap 24 = .ok (.getfield 23, 3) := by decide +kernel
theorem md_B_gap_27 : decode mc_B_gap 27 = .ok (.bipush 24, 2) := by decide +kernel
theorem md_B_gap_29 : decode mc_B_gap 29 = .ok (.iload_n 1, 1) := by decide +kernel
theorem md_B_gap_30 : decode mc_B_gap 30 = .ok (.imul, 1) := by decide +kernel
theorem md_B_gap_31 : decode mc_B_gap 31 = .ok (.iload_n 2, 1) := by decide +kernel
theorem md_B_gap_32 : decode mc_B_gap 32 = .ok (.iadd, 1) := by decide +kernel
theorem md_B_gap_33 : decode mc_B_gap 33 = .ok (.iconst 1, 1) := by decide +kernel
theorem md_B_gap_34 : decode mc_B_gap 34 = .ok (.isub, 1) := by decide +kernel
theorem md_B_gap_35 : decode mc_B_gap 35 = .ok (.baload, 1) := by decide +kernel
theorem md_B_gap_36 : decode mc_B_gap 36 = .ok (.ifCond .eq 9, 3) := by decide +kernel
theorem md_B_gap_39 : decode mc_B_gap 39 = .ok (.iinc 2 1, 3) := by decide +kernel
theorem md_B_gap_42 : decode mc_B_gap 42 = .ok (.goto (-40), 3) := by decide +kernel
theorem md_B_gap_45 : decode mc_B_gap 45 = .ok (.iload_n 2, 1) := by decide +kernel
theorem md_B_gap_46 : decode mc_B_gap 46 = .ok (.ireturn, 1) := by decide +kernel
theorem md_B_many_0 : decode mc_B_many 0 = .ok (.iconst 0, 1) := by decide +kernel
theorem md_B_many_1 : decode mc_B_many 1 = .ok (.istore_n 2, 1) := by decide +kernel
theorem md_B_many_2 : decode mc_B_many 2 = .ok (.iconst 0, 1) := by decide +kernel
theorem md_B_many_3 : decode mc_B_many 3 = .ok (.istore_n 3, 1) := by decide +kernel
theorem md_B_many_4 : decode mc_B_many 4 = .ok (.iload_n 3, 1) := by decide +kernel
theorem md_B_many_5 : decode mc_B_many 5 = .ok (.bipush 96, 2) := by decide +kernel
theorem md_B_many_7 : decode mc_B_many 7 = .ok (.if_icmp .ge 36, 3) := by decide +kernel
theorem md_B_many_10 : decode mc_B_many 10 = .ok (.iload_n 2, 1) := by decide +kernel
theorem md_B_many_11 : decode mc_B_many 11 = .ok (.aload_n 0, 1) := by decide +kernel
theorem md_B_many_12 : decode mc_B_many 12 = .ok (.getfield 19, 3) := by decide +kernel
theorem md_B_many_15 : decode mc_B_many 15 = .ok (.iload_n 3, 1) := by decide +kernel
theorem md_B_many_16 : decode mc_B_many 16 = .ok (.baload, 1) := by decide +kernel
theorem md_B_many_17 : decode mc_B_many 17 = .ok (.ifCond .eq 17, 3) := by decide +kernel
theorem md_B_many_20 : decode mc_B_many 20 = .ok (.aload_n 0, 1) := by decide +kernel
theorem md_B_many_21 : decode mc_B_many 21 = .ok (.getfield 35, 3) := by decide +kernel
theorem md_B_many_24 : decode mc_B_many 24 = .ok (.iload_n 3, 1) := by decide +kernel
theorem md_B_many_25 : decode mc_B_many 25 = .ok (.iaload, 1) := by decide +kernel
theorem md_B_many_26 : decode mc_B_many 26 = .ok (.iload_n 1, 1) := by decide +kernel
theorem md_B_many_27 : decode mc_B_many 27 = .ok (.if_icmp .ne 7, 3) := by decide +kernel
theorem md_B_many_30 : decode mc_B_many 30 = .ok (.iconst 1, 1) := by decide +kernel
theorem md_B_many_31 : decode mc_B_many 31 = .ok (.goto 4, 3) := by decide +kernel
theorem md_B_many_34 : decode mc_B_many 34 = .ok (.iconst 0, 1) := by decide +kernel
theorem md_B_many_35 : decode mc_B_many 35 = .ok (.iadd, 1) := by decide +kernel
theorem md_B_many_36 : decode mc_B_many 36 = .ok (.istore_n 2, 1) := by decide +kernel
theorem md_B_many_37 : decode mc_B_many 37 = .ok (.iinc 3 1, 3) := by decide +kernel
theorem md_B_many_40 : decode mc_B_many 40 = .ok (.goto (-36), 3) := by decide +kernel
theorem md_B_many_43 : decode mc_B_many 43 = .ok (.iload_n 2, 1) := by decide +kernel
theorem md_B_many_44 : decode mc_B_many 44 = .ok (.ireturn, 1) := by decide +kernel
theorem md_B_refused_0 : decode mc_B_refused 0 = .ok (.aload_n 0, 1) := by decide +kernel
theorem md_B_refused_1 : decode mc_B_refused 1 = .ok (.getfield 35, 3) := by decide +kernel
theorem md_B_refused_4 : decode mc_B_refused 4 = .ok (.iload_n 1, 1) := by decide +kernel
theorem md_B_refused_5 : decode mc_B_refused 5 = .ok (.iconst 2, 1) := by decide +kernel
theorem md_B_refused_6 : decode mc_B_refused 6 = .ok (.iastore, 1) := by decide +kernel
theorem md_B_refused_7 : decode mc_B_refused 7 = .ok (.aload_n 0, 1) := by decide +kernel
theorem md_B_refused_8 : decode mc_B_refused 8 = .ok (.getfield 38, 3) := by decide +kernel
theorem md_B_refused_11 : decode mc_B_refused 11 = .ok (.iload_n 1, 1) := by decide +kernel
theorem md_B_refused_12 : decode mc_B_refused 12 = .ok (.iload_n 2, 1) := by decide +kernel
theorem md_B_refused_13 : decode mc_B_refused 13 = .ok (.ineg, 1) := by decide +kernel
theorem md_B_refused_14 : decode mc_B_refused 14 = .ok (.iastore, 1) := by decide +kernel
theorem md_B_refused_15 : decode mc_B_refused 15 = .ok (.iload_n 2, 1) := by decide +kernel
theorem md_B_refused_16 : decode mc_B_refused 16 = .ok (.ineg, 1) := by decide +kernel
theorem md_B_refused_17 : decode mc_B_refused 17 = .ok (.ireturn, 1) := by decide +kernel
theorem md_B_rule_0 : decode mc_B_rule 0 = .ok (.aload_n 0, 1) := by decide +kernel
theorem md_B_rule_1 : decode mc_B_rule 1 = .ok (.getfield 7, 3) := by decide +kernel
theorem md_B_rule_4 : decode mc_B_rule 4 = .ok (.aload_n 0, 1) := by decide +kernel
theorem md_B_rule_5 : decode mc_B_rule 5 = .ok (.getfield 29, 3) := by decide +kernel
theorem md_B_rule_8 : decode mc_B_rule 8 = .ok (.iload_n 1, 1) := by decide +kernel
theorem md_B_rule_9 : decode mc_B_rule 9 = .ok (.iaload, 1) := by decide +kernel
theorem md_B_rule_10 : decode mc_B_rule 10 = .ok (.iaload, 1) := by decide +kernel
theorem md_B_rule_11 : decode mc_B_rule 11 = .ok (.istore_n 2, 1) := by decide +kernel
theorem md_B_rule_12 : decode mc_B_rule 12 = .ok (.aload_n 0, 1) := by decide +kernel
theorem md_B_rule_13 : decode mc_B_rule 13 = .ok (.getfield 26, 3) := by decide +kernel
theorem md_B_rule_16 : decode mc_B_rule 16 = .ok (.iload_n 1, 1) := by decide +kernel
theorem md_B_rule_17 : decode mc_B_rule 17 = .ok (.iaload, 1) := by decide +kernel
theorem md_B_rule_18 : decode mc_B_rule 18 = .ok (.istore_n 3, 1) := by decide +kernel
theorem md_B_rule_19 : decode mc_B_rule 19 = .ok (.iload_n 3, 1) := by decide +kernel
theorem md_B_rule_20 : decode mc_B_rule 20 = .ok (.ifCond .eq 8, 3) := by decide +kernel
theorem md_B_rule_23 : decode mc_B_rule 23 = .ok (.iload_n 3, 1) := by decide +kernel
theorem md_B_rule_24 : decode mc_B_rule 24 = .ok (.iconst 3, 1) := by decide +kernel
theorem md_B_rule_25 : decode mc_B_rule 25 = .ok (.if_icmp .ne 23, 3) := by decide +kernel
theorem md_B_rule_28 : decode mc_B_rule 28 = .ok (.iload_n 3, 1) := by decide +kernel
theorem md_B_rule_29 : decode mc_B_rule 29 = .ok (.ifCond .ne 17, 3) := by decide +kernel
theorem md_B_rule_32 : decode mc_B_rule 32 = .ok (.iload_n 2, 1) := by decide +kernel
theorem md_B_rule_33 : decode mc_B_rule 33 = .ok (.iconst 1, 1) := by decide +kernel
theorem md_B_rule_34 : decode mc_B_rule 34 = .ok (.if_icmp .eq 8, 3) := by decide +kernel
theorem md_B_rule_37 : decode mc_B_rule 37 = .ok (.iload_n 2, 1) := by decide +kernel
theorem md_B_rule_38 : decode mc_B_rule 38 = .ok (.iconst 2, 1) := by decide +kernel
theorem md_B_rule_39 : decode mc_B_rule 39 = .ok (.if_icmp .ne 7, 3) := by decide +kernel
theorem md_B_rule_42 : decode mc_B_rule 42 = .ok (.iconst 1, 1) := by decide +kernel
theorem md_B_rule_43 : decode mc_B_rule 43 = .ok (.goto 4, 3) := by decide +kernel
theorem md_B_rule_46 : decode mc_B_rule 46 = .ok (.iconst 0, 1) := by decide +kernel
theorem md_B_rule_47 : decode mc_B_rule 47 = .ok (.ireturn, 1) := by decide +kernel
theorem md_B_rule_48 : decode mc_B_rule 48 = .ok (.iload_n 2, 1) := by decide +kernel
theorem md_B_rule_49 : decode mc_B_rule 49 = .ok (.iconst 1, 1) := by decide +kernel
theorem md_B_rule_50 : decode mc_B_rule 50 = .ok (.if_icmp .eq 37, 3) := by decide +kernel
theorem md_B_rule_53 : decode mc_B_rule 53 = .ok (.iload_n 2, 1) := by decide +kernel
theorem md_B_rule_54 : decode mc_B_rule 54 = .ok (.iconst 2, 1) := by decide +kernel
theorem md_B_rule_55 : decode mc_B_rule 55 = .ok (.if_icmp .ne 7, 3) := by decide +kernel
theorem md_B_rule_58 : decode mc_B_rule 58 = .ok (.iconst 2, 1) := by decide +kernel
theorem md_B_rule_59 : decode mc_B_rule 59 = .ok (.goto 27, 3) := by decide +kernel
theorem md_B_rule_62 : decode mc_B_rule 62 = .ok (.iload_n 2, 1) := by decide +kernel
theorem md_B_rule_63 : decode mc_B_rule 63 = .ok (.iconst 3, 1) := by decide +kernel
theorem md_B_rule_64 : decode mc_B_rule 64 = .ok (.if_icmp .ne 7, 3) := by decide +kernel
theorem md_B_rule_67 : decode mc_B_rule 67 = .ok (.iconst 3, 1) := by decide +kernel
theorem md_B_rule_68 : decode mc_B_rule 68 = .ok (.goto 18, 3) := by decide +kernel
theorem md_B_rule_71 : decode mc_B_rule 71 = .ok (.aload_n 0, 1) := by decide +kernel
theorem md_B_rule_72 : decode mc_B_rule 72 = .ok (.iconst 3, 1) := by decide +kernel
theorem md_B_rule_73 : decode mc_B_rule 73 = .ok (.invokevirtual 70, 3) := by decide +kernel
theorem md_B_rule_76 : decode mc_B_rule 76 = .ok (.bipush 12, 2) := by decide +kernel
theorem md_B_rule_78 : decode mc_B_rule 78 = .ok (.if_icmp .ne 7, 3) := by decide +kernel
theorem md_B_rule_81 : decode mc_B_rule 81 = .ok (.iconst 5, 1) := by decide +kernel
theorem md_B_rule_82 : decode mc_B_rule 82 = .ok (.goto 4, 3) := by decide +kernel
theorem md_B_rule_85 : decode mc_B_rule 85 = .ok (.iconst 0, 1) := by decide +kernel
theorem md_B_rule_86 : decode mc_B_rule 86 = .ok (.ireturn, 1) := by decide +kernel
theorem md_B_rule_87 : decode mc_B_rule 87 = .ok (.iload_n 3, 1) := by decide +kernel
theorem md_B_rule_88 : decode mc_B_rule 88 = .ok (.iconst 2, 1) := by decide +kernel
theorem md_B_rule_89 : decode mc_B_rule 89 = .ok (.if_icmp .ne 35, 3) := by decide +kernel
theorem md_B_rule_92 : decode mc_B_rule 92 = .ok (.aload_n 0, 1) := by decide +kernel
theorem md_B_rule_93 : decode mc_B_rule 93 = .ok (.getfield 13, 3) := by decide +kernel
theorem md_B_rule_96 : decode mc_B_rule 96 = .ok (.aload_n 0, 1) := by decide +kernel
theorem md_B_rule_97 : decode mc_B_rule 97 = .ok (.getfield 29, 3) := by decide +kernel
theorem md_B_rule_100 : decode mc_B_rule 100 = .ok (.iload_n 1, 1) := by decide +kernel
theorem md_B_rule_101 : decode mc_B_rule 101 = .ok (.iaload, 1) := by decide +kernel
theorem md_B_rule_102 : decode mc_B_rule 102 = .ok (.iaload, 1) := by decide +kernel
theorem md_B_rule_103 : decode mc_B_rule 103 = .ok (.aload_n 0, 1) := by decide +kernel
theorem md_B_rule_104 : decode mc_B_rule 104 = .ok (.getfield 32, 3) := by decide +kernel
theorem md_B_rule_107 : decode mc_B_rule 107 = .ok (.iload_n 1, 1) := by decide +kernel
theorem md_B_rule_108 : decode mc_B_rule 108 = .ok (.iaload, 1) := by decide +kernel
theorem md_B_rule_109 : decode mc_B_rule 109 = .ok (.iadd, 1) := by decide +kernel
theorem md_B_rule_110 : decode mc_B_rule 110 = .ok (.ldc 74, 2) := by decide +kernel
theorem md_B_rule_112 : decode mc_B_rule 112 = .ok (.ldc 75, 2) := by decide +kernel
theorem md_B_rule_114 : decode mc_B_rule 114 = .ok (.invokestatic 76, 3) := by decide +kernel
theorem md_B_rule_117 : decode mc_B_rule 117 = .ok (.ifCond .ne 7, 3) := by decide +kernel
theorem md_B_rule_120 : decode mc_B_rule 120 = .ok (.iconst 4, 1) := by decide +kernel
theorem md_B_rule_121 : decode mc_B_rule 121 = .ok (.goto 4, 3) := by decide +kernel
theorem md_B_rule_124 : decode mc_B_rule 124 = .ok (.iconst 0, 1) := by decide +kernel
theorem md_B_rule_125 : decode mc_B_rule 125 = .ok (.ireturn, 1) := by decide +kernel
theorem md_B_acts_0 : decode mc_B_acts 0 = .ok (.aload_n 0, 1) := by decide +kernel
theorem md_B_acts_1 : decode mc_B_acts 1 = .ok (.getfield 29, 3) := by decide +kernel
theorem md_B_acts_4 : decode mc_B_acts 4 = .ok (.iload_n 1, 1) := by decide +kernel
theorem md_B_acts_5 : decode mc_B_acts 5 = .ok (.iaload, 1) := by decide +kernel
theorem md_B_acts_6 : decode mc_B_acts 6 = .ok (.istore_n 2, 1) := by decide +kernel
theorem md_B_acts_7 : decode mc_B_acts 7 = .ok (.aload_n 0, 1) := by decide +kernel
theorem md_B_acts_8 : decode mc_B_acts 8 = .ok (.getfield 26, 3) := by decide +kernel
theorem md_B_acts_11 : decode mc_B_acts 11 = .ok (.iload_n 1, 1) := by decide +kernel
theorem md_B_acts_12 : decode mc_B_acts 12 = .ok (.iaload, 1) := by decide +kernel
theorem md_B_acts_13 : decode mc_B_acts 13 = .ok (.istore_n 3, 1) := by decide +kernel
theorem md_B_acts_14 : decode mc_B_acts 14 = .ok (.aload_n 0, 1) := by decide +kernel
theorem md_B_acts_15 : decode mc_B_acts 15 = .ok (.getfield 38, 3) := by decide +kernel
theorem md_B_acts_18 : decode mc_B_acts 18 = .ok (.iload_n 1, 1) := by decide +kernel
theorem md_B_acts_19 : decode mc_B_acts 19 = .ok (.iload_n 3, 1) := by decide +kernel
theorem md_B_acts_20 : decode mc_B_acts 20 = .ok (.iconst 3, 1) := by decide +kernel
theorem md_B_acts_21 : decode mc_B_acts 21 = .ok (.if_icmp .ne 22, 3) := by decide +kernel
theorem md_B_acts_24 : decode mc_B_acts 24 = .ok (.bipush 10, 2) := by decide +kernel
theorem md_B_acts_26 : decode mc_B_acts 26 = .ok (.aload_n 0, 1) := by decide +kernel
theorem md_B_acts_27 : decode mc_B_acts 27 = .ok (.getfield 13, 3) := by decide +kernel
theorem md_B_acts_30 : decode mc_B_acts 30 = .ok (.iload_n 2, 1) := by decide +kernel
theorem md_B_acts_31 : decode mc_B_acts 31 = .ok (.iaload, 1) := by decide +kernel
theorem md_B_acts_32 : decode mc_B_acts 32 = .ok (.imul, 1) := by decide +kernel
theorem md_B_acts_33 : decode mc_B_acts 33 = .ok (.aload_n 0, 1) := by decide +kernel
theorem md_B_acts_34 : decode mc_B_acts 34 = .ok (.getfield 7, 3) := by decide +kernel
theorem md_B_acts_37 : decode mc_B_acts 37 = .ok (.iload_n 2, 1) := by decide +kernel
theorem md_B_acts_38 : decode mc_B_acts 38 = .ok (.iaload, 1) := by decide +kernel
theorem md_B_acts_39 : decode mc_B_acts 39 = .ok (.iadd, 1) := by decide +kernel
theorem md_B_acts_40 : decode mc_B_acts 40 = .ok (.goto 4, 3) := by decide +kernel
theorem md_B_acts_43 : decode mc_B_acts 43 = .ok (.iconst 0, 1) := by decide +kernel
theorem md_B_acts_44 : decode mc_B_acts 44 = .ok (.iastore, 1) := by decide +kernel
theorem md_B_acts_45 : decode mc_B_acts 45 = .ok (.aload_n 0, 1) := by decide +kernel
theorem md_B_acts_46 : decode mc_B_acts 46 = .ok (.getfield 13, 3) := by decide +kernel
theorem md_B_acts_49 : decode mc_B_acts 49 = .ok (.iload_n 2, 1) := by decide +kernel
theorem md_B_acts_50 : decode mc_B_acts 50 = .ok (.iload_n 3, 1) := by decide +kernel
theorem md_B_acts_51 : decode mc_B_acts 51 = .ok (.ifCond .eq 8, 3) := by decide +kernel
theorem md_B_acts_54 : decode mc_B_acts 54 = .ok (.iload_n 3, 1) := by decide +kernel
theorem md_B_acts_55 : decode mc_B_acts 55 = .ok (.iconst 1, 1) := by decide +kernel
theorem md_B_acts_56 : decode mc_B_acts 56 = .ok (.if_icmp .ne 12, 3) := by decide +kernel
theorem md_B_acts_59 : decode mc_B_acts 59 = .ok (.aload_n 0, 1) := by decide +kernel
theorem md_B_acts_60 : decode mc_B_acts 60 = .ok (.getfield 32, 3) := by decide +kernel
theorem md_B_acts_63 : decode mc_B_acts 63 = .ok (.iload_n 1, 1) := by decide +kernel
theorem md_B_acts_64 : decode mc_B_acts 64 = .ok (.iaload, 1) := by decide +kernel
theorem md_B_acts_65 : decode mc_B_acts 65 = .ok (.goto 30, 3) := by decide +kernel
theorem md_B_acts_68 : decode mc_B_acts 68 = .ok (.iload_n 3, 1) := by decide +kernel
theorem md_B_acts_69 : decode mc_B_acts 69 = .ok (.iconst 2, 1) := by decide +kernel
theorem md_B_acts_70 : decode mc_B_acts 70 = .ok (.if_icmp .ne 19, 3) := by decide +kernel
theorem md_B_acts_73 : decode mc_B_acts 73 = .ok (.aload_n 0, 1) := by decide +kernel
theorem md_B_acts_74 : decode mc_B_acts 74 = .ok (.getfield 13, 3) := by decide +kernel
theorem md_B_acts_77 : decode mc_B_acts 77 = .ok (.iload_n 2, 1) := by decide +kernel
theorem md_B_acts_78 : decode mc_B_acts 78 = .ok (.iaload, 1) := by decide +kernel
theorem md_B_acts_79 : decode mc_B_acts 79 = .ok (.aload_n 0, 1) := by decide +kernel
theorem md_B_acts_80 : decode mc_B_acts 80 = .ok (.getfield 32, 3) := by decide +kernel
theorem md_B_acts_83 : decode mc_B_acts 83 = .ok (.iload_n 1, 1) := by decide +kernel
theorem md_B_acts_84 : decode mc_B_acts 84 = .ok (.iaload, 1) := by decide +kernel
theorem md_B_acts_85 : decode mc_B_acts 85 = .ok (.iadd, 1) := by decide +kernel
theorem md_B_acts_86 : decode mc_B_acts 86 = .ok (.goto 9, 3) := by decide +kernel
theorem md_B_acts_89 : decode mc_B_acts 89 = .ok (.aload_n 0, 1) := by decide +kernel
theorem md_B_acts_90 : decode mc_B_acts 90 = .ok (.getfield 13, 3) := by decide +kernel
theorem md_B_acts_93 : decode mc_B_acts 93 = .ok (.iload_n 2, 1) := by decide +kernel
theorem md_B_acts_94 : decode mc_B_acts 94 = .ok (.iaload, 1) := by decide +kernel
theorem md_B_acts_95 : decode mc_B_acts 95 = .ok (.iastore, 1) := by decide +kernel
theorem md_B_acts_96 : decode mc_B_acts 96 = .ok (.aload_n 0, 1) := by decide +kernel
theorem md_B_acts_97 : decode mc_B_acts 97 = .ok (.getfield 7, 3) := by decide +kernel
theorem md_B_acts_100 : decode mc_B_acts 100 = .ok (.iload_n 2, 1) := by decide +kernel
theorem md_B_acts_101 : decode mc_B_acts 101 = .ok (.iload_n 3, 1) := by decide +kernel
theorem md_B_acts_102 : decode mc_B_acts 102 = .ok (.ifCond .ne 7, 3) := by decide +kernel
theorem md_B_acts_105 : decode mc_B_acts 105 = .ok (.iconst 1, 1) := by decide +kernel
theorem md_B_acts_106 : decode mc_B_acts 106 = .ok (.goto 18, 3) := by decide +kernel
theorem md_B_acts_109 : decode mc_B_acts 109 = .ok (.iload_n 3, 1) := by decide +kernel
theorem md_B_acts_110 : decode mc_B_acts 110 = .ok (.iconst 4, 1) := by decide +kernel
theorem md_B_acts_111 : decode mc_B_acts 111 = .ok (.if_icmp .ne 7, 3) := by decide +kernel
theorem md_B_acts_114 : decode mc_B_acts 114 = .ok (.iconst 3, 1) := by decide +kernel
theorem md_B_acts_115 : decode mc_B_acts 115 = .ok (.goto 9, 3) := by decide +kernel
theorem md_B_acts_118 : decode mc_B_acts 118 = .ok (.aload_n 0, 1) := by decide +kernel
theorem md_B_acts_119 : decode mc_B_acts 119 = .ok (.getfield 7, 3) := by decide +kernel
theorem md_B_acts_122 : decode mc_B_acts 122 = .ok (.iload_n 2, 1) := by decide +kernel
theorem md_B_acts_123 : decode mc_B_acts 123 = .ok (.iaload, 1) := by decide +kernel
theorem md_B_acts_124 : decode mc_B_acts 124 = .ok (.iastore, 1) := by decide +kernel
theorem md_B_acts_125 : decode mc_B_acts 125 = .ok (.aload_n 0, 1) := by decide +kernel
theorem md_B_acts_126 : decode mc_B_acts 126 = .ok (.getfield 16, 3) := by decide +kernel
theorem md_B_acts_129 : decode mc_B_acts 129 = .ok (.iload_n 2, 1) := by decide +kernel
theorem md_B_acts_130 : decode mc_B_acts 130 = .ok (.dup2, 1) := by decide +kernel
theorem md_B_acts_131 : decode mc_B_acts 131 = .ok (.iaload, 1) := by decide +kernel
theorem md_B_acts_132 : decode mc_B_acts 132 = .ok (.iconst 1, 1) := by decide +kernel
theorem md_B_acts_133 : decode mc_B_acts 133 = .ok (.iadd, 1) := by decide +kernel
theorem md_B_acts_134 : decode mc_B_acts 134 = .ok (.iastore, 1) := by decide +kernel
theorem md_B_acts_135 : decode mc_B_acts 135 = .ok (.aload_n 0, 1) := by decide +kernel
theorem md_B_acts_136 : decode mc_B_acts 136 = .ok (.getfield 35, 3) := by decide +kernel
theorem md_B_acts_139 : decode mc_B_acts 139 = .ok (.iload_n 1, 1) := by decide +kernel
theorem md_B_acts_140 : decode mc_B_acts 140 = .ok (.iconst 1, 1) := by decide +kernel
theorem md_B_acts_141 : decode mc_B_acts 141 = .ok (.iastore, 1) := by decide +kernel
theorem md_B_acts_142 : decode mc_B_acts 142 = .ok (.aload_n 0, 1) := by decide +kernel
theorem md_B_acts_143 : decode mc_B_acts 143 = .ok (.getfield 56, 3) := by decide +kernel
theorem md_B_acts_146 : decode mc_B_acts 146 = .ok (.aload_n 0, 1) := by decide +kernel
theorem md_B_acts_147 : decode mc_B_acts 147 = .ok (.getfield 80, 3) := by decide +kernel
theorem md_B_acts_150 : decode mc_B_acts 150 = .ok (.iload_n 1, 1) := by decide +kernel
theorem md_B_acts_151 : decode mc_B_acts 151 = .ok (.iastore, 1) := by decide +kernel
theorem md_B_acts_152 : decode mc_B_acts 152 = .ok (.aload_n 0, 1) := by decide +kernel
theorem md_B_acts_153 : decode mc_B_acts 153 = .ok (.dup, 1) := by decide +kernel
theorem md_B_acts_154 : decode mc_B_acts 154 = .ok (.getfield 80, 3) := by decide +kernel
theorem md_B_acts_157 : decode mc_B_acts 157 = .ok (.iconst 1, 1) := by decide +kernel
theorem md_B_acts_158 : decode mc_B_acts 158 = .ok (.iadd, 1) := by decide +kernel
theorem md_B_acts_159 : decode mc_B_acts 159 = .ok (.putfield 80, 3) := by decide +kernel
theorem md_B_acts_162 : decode mc_B_acts 162 = .ok (.return_, 1) := by decide +kernel
theorem md_B_decides_0 : decode mc_B_decides 0 = .ok (.aload_n 0, 1) := by decide +kernel
theorem md_B_decides_1 : decode mc_B_decides 1 = .ok (.iload_n 1, 1) := by decide +kernel
theorem md_B_decides_2 : decode mc_B_decides 2 = .ok (.invokevirtual 83, 3) := by decide +kernel
theorem md_B_decides_5 : decode mc_B_decides 5 = .ok (.istore_n 2, 1) := by decide +kernel
theorem md_B_decides_6 : decode mc_B_decides 6 = .ok (.iload_n 2, 1) := by decide +kernel
theorem md_B_decides_7 : decode mc_B_decides 7 = .ok (.ifCond .le 10, 3) := by decide +kernel
theorem md_B_decides_10 : decode mc_B_decides 10 = .ok (.aload_n 0, 1) := by decide +kernel
theorem md_B_decides_11 : decode mc_B_decides 11 = .ok (.iload_n 1, 1) := by decide +kernel
theorem md_B_decides_12 : decode mc_B_decides 12 = .ok (.iload_n 2, 1) := by decide +kernel
theorem md_B_decides_13 : decode mc_B_decides 13 = .ok (.invokevirtual 86, 3) := by decide +kernel
theorem md_B_decides_16 : decode mc_B_decides 16 = .ok (.ireturn, 1) := by decide +kernel
theorem md_B_decides_17 : decode mc_B_decides 17 = .ok (.aload_n 0, 1) := by decide +kernel
theorem md_B_decides_18 : decode mc_B_decides 18 = .ok (.getfield 26, 3) := by decide +kernel
theorem md_B_decides_21 : decode mc_B_decides 21 = .ok (.iload_n 1, 1) := by decide +kernel
theorem md_B_decides_22 : decode mc_B_decides 22 = .ok (.iaload, 1) := by decide +kernel
theorem md_B_decides_23 : decode mc_B_decides 23 = .ok (.istore_n 3, 1) := by decide +kernel
theorem md_B_decides_24 : decode mc_B_decides 24 = .ok (.iload_n 3, 1) := by decide +kernel
theorem md_B_decides_25 : decode mc_B_decides 25 = .ok (.ifCond .eq 61, 3) := by decide +kernel
theorem md_B_decides_28 : decode mc_B_decides 28 = .ok (.iload_n 3, 1) := by decide +kernel
theorem md_B_decides_29 : decode mc_B_decides 29 = .ok (.iconst 3, 1) := by decide +kernel
theorem md_B_decides_30 : decode mc_B_decides 30 = .ok (.if_icmp .eq 56, 3) := by decide +kernel
theorem md_B_decides_33 : decode mc_B_decides 33 = .ok (.aload_n 0, 1) := by decide +kernel
theorem md_B_decides_34 : decode mc_B_decides 34 = .ok (.getfield 7, 3) := by decide +kernel
theorem md_B_decides_37 : decode mc_B_decides 37 = .ok (.aload_n 0, 1) := by decide +kernel
theorem md_B_decides_38 : decode mc_B_decides 38 = .ok (.getfield 29, 3) := by decide +kernel
theorem md_B_decides_41 : decode mc_B_decides 41 = .ok (.iload_n 1, 1) := by decide +kernel
theorem md_B_decides_42 : decode mc_B_decides 42 = .ok (.iaload, 1) := by decide +kernel
theorem md_B_decides_43 : decode mc_B_decides 43 = .ok (.iaload, 1) := by decide +kernel
theorem md_B_decides_44 : decode mc_B_decides 44 = .ok (.ifCond .ne 42, 3) := by decide +kernel
theorem md_B_decides_47 : decode mc_B_decides 47 = .ok (.aload_n 0, 1) := by decide +kernel
theorem md_B_decides_48 : decode mc_B_decides 48 = .ok (.getfield 35, 3) := by decide +kernel
theorem md_B_decides_51 : decode mc_B_decides 51 = .ok (.iload_n 1, 1) := by decide +kernel
theorem md_B_decides_52 : decode mc_B_decides 52 = .ok (.iconst 3, 1) := by decide +kernel
theorem md_B_decides_53 : decode mc_B_decides 53 = .ok (.iastore, 1) := by decide +kernel
theorem md_B_decides_54 : decode mc_B_decides 54 = .ok (.aload_n 0, 1) := by decide +kernel
theorem md_B_decides_55 : decode mc_B_decides 55 = .ok (.getfield 44, 3) := by decide +kernel
theorem md_B_decides_58 : decode mc_B_decides 58 = .ok (.iload_n 1, 1) := by decide +kernel
theorem md_B_decides_59 : decode mc_B_decides 59 = .ok (.aload_n 0, 1) := by decide +kernel
theorem md_B_decides_60 : decode mc_B_decides 60 = .ok (.getfield 90, 3) := by decide +kernel
theorem md_B_decides_63 : decode mc_B_decides 63 = .ok (.iastore, 1) := by decide +kernel
theorem md_B_decides_64 : decode mc_B_decides 64 = .ok (.aload_n 0, 1) := by decide +kernel
theorem md_B_decides_65 : decode mc_B_decides 65 = .ok (.getfield 50, 3) := by decide +kernel
theorem md_B_decides_68 : decode mc_B_decides 68 = .ok (.iload_n 1, 1) := by decide +kernel
theorem md_B_decides_69 : decode mc_B_decides 69 = .ok (.aload_n 0, 1) := by decide +kernel
theorem md_B_decides_70 : decode mc_B_decides 70 = .ok (.getfield 93, 3) := by decide +kernel
theorem md_B_decides_73 : decode mc_B_decides 73 = .ok (.iastore, 1) := by decide +kernel
theorem md_B_decides_74 : decode mc_B_decides 74 = .ok (.aload_n 0, 1) := by decide +kernel
theorem md_B_decides_75 : decode mc_B_decides 75 = .ok (.dup, 1) := by decide +kernel
theorem md_B_decides_76 : decode mc_B_decides 76 = .ok (.getfield 93, 3) := by decide +kernel
theorem md_B_decides_79 : decode mc_B_decides 79 = .ok (.iconst 1, 1) := by decide +kernel
theorem md_B_decides_80 : decode mc_B_decides 80 = .ok (.iadd, 1) := by decide +kernel
theorem md_B_decides_81 : decode mc_B_decides 81 = .ok (.putfield 93, 3) := by decide +kernel
theorem md_B_decides_84 : decode mc_B_decides 84 = .ok (.iconst 4, 1) := by decide +kernel
theorem md_B_decides_85 : decode mc_B_decides 85 = .ok (.ireturn, 1) := by decide +kernel
theorem md_B_decides_86 : decode mc_B_decides 86 = .ok (.aload_n 0, 1) := by decide +kernel
theorem md_B_decides_87 : decode mc_B_decides 87 = .ok (.getfield 53, 3) := by decide +kernel
theorem md_B_decides_90 : decode mc_B_decides 90 = .ok (.iload_n 3, 1) := by decide +kernel
theorem md_B_decides_91 : decode mc_B_decides 91 = .ok (.baload, 1) := by decide +kernel
theorem md_B_decides_92 : decode mc_B_decides 92 = .ok (.ifCond .eq 88, 3) := by decide +kernel
theorem md_B_decides_95 : decode mc_B_decides 95 = .ok (.aload_n 0, 1) := by decide +kernel
theorem md_B_decides_96 : decode mc_B_decides 96 = .ok (.getfield 53, 3) := by decide +kernel
theorem md_B_decides_99 : decode mc_B_decides 99 = .ok (.iload_n 3, 1) := by decide +kernel
theorem md_B_decides_100 : decode mc_B_decides 100 = .ok (.iconst 0, 1) := by decide +kernel
theorem md_B_decides_101 : decode mc_B_decides 101 = .ok (.bastore, 1) := by decide +kernel
theorem md_B_decides_102 : decode mc_B_decides 102 = .ok (.aload_n 0, 1) := by decide +kernel
theorem md_B_decides_103 : decode mc_B_decides 103 = .ok (.getfield 35, 3) := by decide +kernel
theorem md_B_decides_106 : decode mc_B_decides 106 = .ok (.iload_n 1, 1) := by decide +kernel
theorem md_B_decides_107 : decode mc_B_decides 107 = .ok (.aload_n 0, 1) := by decide +kernel
theorem md_B_decides_108 : decode mc_B_decides 108 = .ok (.getfield 47, 3) := by decide +kernel
theorem md_B_decides_111 : decode mc_B_decides 111 = .ok (.iload_n 1, 1) := by decide +kernel
theorem md_B_decides_112 : decode mc_B_decides 112 = .ok (.baload, 1) := by decide +kernel
theorem md_B_decides_113 : decode mc_B_decides 113 = .ok (.ifCond .eq 7, 3) := by decide +kernel
theorem md_B_decides_116 : decode mc_B_decides 116 = .ok (.iconst 5, 1) := by decide +kernel
theorem md_B_decides_117 : decode mc_B_decides 117 = .ok (.goto 4, 3) := by decide +kernel
theorem md_B_decides_120 : decode mc_B_decides 120 = .ok (.iconst 4, 1) := by decide +kernel
theorem md_B_decides_121 : decode mc_B_decides 121 = .ok (.iastore, 1) := by decide +kernel
theorem md_B_decides_122 : decode mc_B_decides 122 = .ok (.aload_n 0, 1) := by decide +kernel
theorem md_B_decides_123 : decode mc_B_decides 123 = .ok (.getfield 47, 3) := by decide +kernel
theorem md_B_decides_126 : decode mc_B_decides 126 = .ok (.iload_n 1, 1) := by decide +kernel
theorem md_B_decides_127 : decode mc_B_decides 127 = .ok (.baload, 1) := by decide +kernel
theorem md_B_decides_128 : decode mc_B_decides 128 = .ok (.ifCond .eq 23, 3) := by decide +kernel
theorem md_B_decides_131 : decode mc_B_decides 131 = .ok (.aload_n 0, 1) := by decide +kernel
theorem md_B_decides_132 : decode mc_B_decides 132 = .ok (.getfield 59, 3) := by decide +kernel
theorem md_B_decides_135 : decode mc_B_decides 135 = .ok (.aload_n 0, 1) := by decide +kernel
theorem md_B_decides_136 : decode mc_B_decides 136 = .ok (.getfield 96, 3) := by decide +kernel
theorem md_B_decides_139 : decode mc_B_decides 139 = .ok (.iload_n 1, 1) := by decide +kernel
theorem md_B_decides_140 : decode mc_B_decides 140 = .ok (.iastore, 1) := by decide +kernel
theorem md_B_decides_141 : decode mc_B_decides 141 = .ok (.aload_n 0, 1) := by decide +kernel
theorem md_B_decides_142 : decode mc_B_decides 142 = .ok (.dup, 1) := by decide +kernel
theorem md_B_decides_143 : decode mc_B_decides 143 = .ok (.getfield 96, 3) := by decide +kernel
theorem md_B_decides_146 : decode mc_B_decides 146 = .ok (.iconst 1, 1) := by decide +kernel
theorem md_B_decides_147 : decode mc_B_decides 147 = .ok (.iadd, 1) := by decide +kernel
theorem md_B_decides_148 : decode mc_B_decides 148 = .ok (.putfield 96, 3) := by decide +kernel
theorem md_B_decides_151 : decode mc_B_decides 151 = .ok (.aload_n 0, 1) := by decide +kernel
theorem md_B_decides_152 : decode mc_B_decides 152 = .ok (.getfield 47, 3) := by decide +kernel
theorem md_B_decides_155 : decode mc_B_decides 155 = .ok (.iload_n 1, 1) := by decide +kernel
theorem md_B_decides_156 : decode mc_B_decides 156 = .ok (.iconst 1, 1) := by decide +kernel
theorem md_B_decides_157 : decode mc_B_decides 157 = .ok (.bastore, 1) := by decide +kernel
theorem md_B_decides_158 : decode mc_B_decides 158 = .ok (.aload_n 0, 1) := by decide +kernel
theorem md_B_decides_159 : decode mc_B_decides 159 = .ok (.getfield 50, 3) := by decide +kernel
theorem md_B_decides_162 : decode mc_B_decides 162 = .ok (.iload_n 1, 1) := by decide +kernel
theorem md_B_decides_163 : decode mc_B_decides 163 = .ok (.aload_n 0, 1) := by decide +kernel
theorem md_B_decides_164 : decode mc_B_decides 164 = .ok (.getfield 93, 3) := by decide +kernel
theorem md_B_decides_167 : decode mc_B_decides 167 = .ok (.iastore, 1) := by decide +kernel
theorem md_B_decides_168 : decode mc_B_decides 168 = .ok (.aload_n 0, 1) := by decide +kernel
theorem md_B_decides_169 : decode mc_B_decides 169 = .ok (.dup, 1) := by decide +kernel
theorem md_B_decides_170 : decode mc_B_decides 170 = .ok (.getfield 93, 3) := by decide +kernel
theorem md_B_decides_173 : decode mc_B_decides 173 = .ok (.iconst 1, 1) := by decide +kernel
theorem md_B_decides_174 : decode mc_B_decides 174 = .ok (.iadd, 1) := by decide +kernel
theorem md_B_decides_175 : decode mc_B_decides 175 = .ok (.putfield 93, 3) := by decide +kernel
theorem md_B_decides_178 : decode mc_B_decides 178 = .ok (.iconst 5, 1) := by decide +kernel
theorem md_B_decides_179 : decode mc_B_decides 179 = .ok (.ireturn, 1) := by decide +kernel
theorem md_B_decides_180 : decode mc_B_decides 180 = .ok (.aload_n 0, 1) := by decide +kernel
theorem md_B_decides_181 : decode mc_B_decides 181 = .ok (.iload_n 1, 1) := by decide +kernel
theorem md_B_decides_182 : decode mc_B_decides 182 = .ok (.invokevirtual 99, 3) := by decide +kernel
theorem md_B_decides_185 : decode mc_B_decides 185 = .ok (.iconst 1, 1) := by decide +kernel
theorem md_B_decides_186 : decode mc_B_decides 186 = .ok (.ireturn, 1) := by decide +kernel
theorem md_B_first_0 : decode mc_B_first 0 = .ok (.iconst (-1), 1) := by decide +kernel
theorem md_B_first_1 : decode mc_B_first 1 = .ok (.istore 4, 2) := by decide +kernel
theorem md_B_first_3 : decode mc_B_first 3 = .ok (.iconst 0, 1) := by decide +kernel
theorem md_B_first_4 : decode mc_B_first 4 = .ok (.istore 5, 2) := by decide +kernel
theorem md_B_first_6 : decode mc_B_first 6 = .ok (.iload 5, 2) := by decide +kernel
theorem md_B_first_8 : decode mc_B_first 8 = .ok (.bipush 96, 2) := by decide +kernel
theorem md_B_first_10 : decode mc_B_first 10 = .ok (.if_icmp .ge 110, 3) := by decide +kernel
theorem md_B_first_13 : decode mc_B_first 13 = .ok (.aload_n 0, 1) := by decide +kernel
theorem md_B_first_14 : decode mc_B_first 14 = .ok (.getfield 19, 3) := by decide +kernel
theorem md_B_first_17 : decode mc_B_first 17 = .ok (.iload 5, 2) := by decide +kernel
theorem md_B_first_19 : decode mc_B_first 19 = .ok (.baload, 1) := by decide +kernel
theorem md_B_first_20 : decode mc_B_first 20 = .ok (.ifCond .eq 45, 3) := by decide +kernel
theorem md_B_first_23 : decode mc_B_first 23 = .ok (.aload_n 0, 1) := by decide +kernel
theorem md_B_first_24 : decode mc_B_first 24 = .ok (.getfield 35, 3) := by decide +kernel
theorem md_B_first_27 : decode mc_B_first 27 = .ok (.iload 5, 2) := by decide +kernel
theorem md_B_first_29 : decode mc_B_first 29 = .ok (.iaload, 1) := by decide +kernel
theorem md_B_first_30 : decode mc_B_first 30 = .ok (.iload_n 1, 1) := by decide +kernel
theorem md_B_first_31 : decode mc_B_first 31 = .ok (.if_icmp .ne 34, 3) := by decide +kernel
theorem md_B_first_34 : decode mc_B_first 34 = .ok (.iload_n 2, 1) := by decide +kernel
theorem md_B_first_35 : decode mc_B_first 35 = .ok (.iconst (-1), 1) := by decide +kernel
theorem md_B_first_36 : decode mc_B_first 36 = .ok (.if_icmp .eq 14, 3) := by decide +kernel
theorem md_B_first_39 : decode mc_B_first 39 = .ok (.aload_n 0, 1) := by decide +kernel
theorem md_B_first_40 : decode mc_B_first 40 = .ok (.getfield 29, 3) := by decide +kernel
theorem md_B_first_43 : decode mc_B_first 43 = .ok (.iload 5, 2) := by decide +kernel
theorem md_B_first_45 : decode mc_B_first 45 = .ok (.iaload, 1) := by decide +kernel
theorem md_B_first_46 : decode mc_B_first 46 = .ok (.iload_n 2, 1) := by decide +kernel
theorem md_B_first_47 : decode mc_B_first 47 = .ok (.if_icmp .ne 18, 3) := by decide +kernel
theorem md_B_first_50 : decode mc_B_first 50 = .ok (.aload_n 0, 1) := by decide +kernel
theorem md_B_first_51 : decode mc_B_first 51 = .ok (.getfield 50, 3) := by decide +kernel
theorem md_B_first_54 : decode mc_B_first 54 = .ok (.iload 5, 2) := by decide +kernel
theorem md_B_first_56 : decode mc_B_first 56 = .ok (.iaload, 1) := by decide +kernel
theorem md_B_first_57 : decode mc_B_first 57 = .ok (.iload_n 3, 1) := by decide +kernel
theorem md_B_first_58 : decode mc_B_first 58 = .ok (.if_icmp .ge 7, 3) := by decide +kernel
theorem md_B_first_61 : decode mc_B_first 61 = .ok (.iconst 1, 1) := by decide +kernel
theorem md_B_first_62 : decode mc_B_first 62 = .ok (.goto 4, 3) := by decide +kernel
theorem md_B_first_65 : decode mc_B_first 65 = .ok (.iconst 0, 1) := by decide +kernel
theorem md_B_first_66 : decode mc_B_first 66 = .ok (.istore 6, 2) := by decide +kernel
theorem md_B_first_68 : decode mc_B_first 68 = .ok (.iload 6, 2) := by decide +kernel
theorem md_B_first_70 : decode mc_B_first 70 = .ok (.ifCond .eq 40, 3) := by decide +kernel
theorem md_B_first_73 : decode mc_B_first 73 = .ok (.iload 4, 2) := by decide +kernel
theorem md_B_first_75 : decode mc_B_first 75 = .ok (.ifCond .lt 30, 3) := by decide +kernel
theorem md_B_first_78 : decode mc_B_first 78 = .ok (.aload_n 0, 1) := by decide +kernel
theorem md_B_first_79 : decode mc_B_first 79 = .ok (.getfield 50, 3) := by decide +kernel
theorem md_B_first_82 : decode mc_B_first 82 = .ok (.iload 5, 2) := by decide +kernel
theorem md_B_first_84 : decode mc_B_first 84 = .ok (.iaload, 1) := by decide +kernel
theorem md_B_first_85 : decode mc_B_first 85 = .ok (.aload_n 0, 1) := by decide +kernel
theorem md_B_first_86 : decode mc_B_first 86 = .ok (.getfield 50, 3) := by decide +kernel
theorem md_B_first_89 : decode mc_B_first 89 = .ok (.iload 4, 2) := by decide +kernel
theorem md_B_first_91 : decode mc_B_first 91 = .ok (.ifCond .ge 8, 3) := by decide +kernel
theorem md_B_first_94 : decode mc_B_first 94 = .ok (.iload 5, 2) := by decide +kernel
theorem md_B_first_96 : decode mc_B_first 96 = .ok (.goto 5, 3) := by decide +kernel
theorem md_B_first_99 : decode mc_B_first 99 = .ok (.iload 4, 2) := by decide +kernel
theorem md_B_first_101 : decode mc_B_first 101 = .ok (.iaload, 1) := by decide +kernel
theorem md_B_first_102 : decode mc_B_first 102 = .ok (.if_icmp .ge 8, 3) := by decide +kernel
theorem md_B_first_105 : decode mc_B_first 105 = .ok (.iload 5, 2) := by decide +kernel
theorem md_B_first_107 : decode mc_B_first 107 = .ok (.goto 5, 3) := by decide +kernel
theorem md_B_first_110 : decode mc_B_first 110 = .ok (.iload 4, 2) := by decide +kernel
theorem md_B_first_112 : decode mc_B_first 112 = .ok (.istore 4, 2) := by decide +kernel
theorem md_B_first_114 : decode mc_B_first 114 = .ok (.iinc 5 1, 3) := by decide +kernel
theorem md_B_first_117 : decode mc_B_first 117 = .ok (.goto (-111), 3) := by decide +kernel
theorem md_B_first_120 : decode mc_B_first 120 = .ok (.iload 4, 2) := by decide +kernel
theorem md_B_first_122 : decode mc_B_first 122 = .ok (.ireturn, 1) := by decide +kernel
theorem md_B_takes_0 : decode mc_B_takes 0 = .ok (.aload_n 0, 1) := by decide +kernel
theorem md_B_takes_1 : decode mc_B_takes 1 = .ok (.getfield 29, 3) := by decide +kernel
theorem md_B_takes_4 : decode mc_B_takes 4 = .ok (.iload_n 1, 1) := by decide +kernel
theorem md_B_takes_5 : decode mc_B_takes 5 = .ok (.iaload, 1) := by decide +kernel
theorem md_B_takes_6 : decode mc_B_takes 6 = .ok (.istore_n 2, 1) := by decide +kernel
theorem md_B_takes_7 : decode mc_B_takes 7 = .ok (.aload_n 0, 1) := by decide +kernel
theorem md_B_takes_8 : decode mc_B_takes 8 = .ok (.getfield 7, 3) := by decide +kernel
theorem md_B_takes_11 : decode mc_B_takes 11 = .ok (.iload_n 2, 1) := by decide +kernel
theorem md_B_takes_12 : decode mc_B_takes 12 = .ok (.iaload, 1) := by decide +kernel
theorem md_B_takes_13 : decode mc_B_takes 13 = .ok (.ifCond .ne 7, 3) := by decide +kernel
theorem md_B_takes_16 : decode mc_B_takes 16 = .ok (.iconst 1, 1) := by decide +kernel
theorem md_B_takes_17 : decode mc_B_takes 17 = .ok (.goto 4, 3) := by decide +kernel
theorem md_B_takes_20 : decode mc_B_takes 20 = .ok (.iconst 0, 1) := by decide +kernel
theorem md_B_takes_21 : decode mc_B_takes 21 = .ok (.istore_n 3, 1) := by decide +kernel
theorem md_B_takes_22 : decode mc_B_takes 22 = .ok (.aload_n 0, 1) := by decide +kernel
theorem md_B_takes_23 : decode mc_B_takes 23 = .ok (.iload_n 1, 1) := by decide +kernel
theorem md_B_takes_24 : decode mc_B_takes 24 = .ok (.invokevirtual 102, 3) := by decide +kernel
theorem md_B_takes_27 : decode mc_B_takes 27 = .ok (.istore 4, 2) := by decide +kernel
theorem md_B_takes_29 : decode mc_B_takes 29 = .ok (.iload_n 3, 1) := by decide +kernel
theorem md_B_takes_30 : decode mc_B_takes 30 = .ok (.ifCond .eq 63, 3) := by decide +kernel
theorem md_B_takes_33 : decode mc_B_takes 33 = .ok (.aload_n 0, 1) := by decide +kernel
theorem md_B_takes_34 : decode mc_B_takes 34 = .ok (.getfield 7, 3) := by decide +kernel
theorem md_B_takes_37 : decode mc_B_takes 37 = .ok (.iload_n 2, 1) := by decide +kernel
theorem md_B_takes_38 : decode mc_B_takes 38 = .ok (.iaload, 1) := by decide +kernel
theorem md_B_takes_39 : decode mc_B_takes 39 = .ok (.ifCond .eq 54, 3) := by decide +kernel
theorem md_B_takes_42 : decode mc_B_takes 42 = .ok (.aload_n 0, 1) := by decide +kernel
theorem md_B_takes_43 : decode mc_B_takes 43 = .ok (.iconst 3, 1) := by decide +kernel
theorem md_B_takes_44 : decode mc_B_takes 44 = .ok (.iload_n 2, 1) := by decide +kernel
theorem md_B_takes_45 : decode mc_B_takes 45 = .ok (.aload_n 0, 1) := by decide +kernel
theorem md_B_takes_46 : decode mc_B_takes 46 = .ok (.getfield 93, 3) := by decide +kernel
theorem md_B_takes_49 : decode mc_B_takes 49 = .ok (.invokevirtual 105, 3) := by decide +kernel
theorem md_B_takes_52 : decode mc_B_takes 52 = .ok (.istore 5, 2) := by decide +kernel
theorem md_B_takes_54 : decode mc_B_takes 54 = .ok (.iload 5, 2) := by decide +kernel
theorem md_B_takes_56 : decode mc_B_takes 56 = .ok (.ifCond .lt 37, 3) := by decide +kernel
theorem md_B_takes_59 : decode mc_B_takes 59 = .ok (.aload_n 0, 1) := by decide +kernel
theorem md_B_takes_60 : decode mc_B_takes 60 = .ok (.iload 5, 2) := by decide +kernel
theorem md_B_takes_62 : decode mc_B_takes 62 = .ok (.invokevirtual 102, 3) := by decide +kernel
theorem md_B_takes_65 : decode mc_B_takes 65 = .ok (.istore 6, 2) := by decide +kernel
theorem md_B_takes_67 : decode mc_B_takes 67 = .ok (.iload 6, 2) := by decide +kernel
theorem md_B_takes_69 : decode mc_B_takes 69 = .ok (.bipush 6, 2) := by decide +kernel
theorem md_B_takes_71 : decode mc_B_takes 71 = .ok (.if_icmp .ge 16, 3) := by decide +kernel
theorem md_B_takes_74 : decode mc_B_takes 74 = .ok (.aload_n 0, 1) := by decide +kernel
theorem md_B_takes_75 : decode mc_B_takes 75 = .ok (.iconst 3, 1) := by decide +kernel
theorem md_B_takes_76 : decode mc_B_takes 76 = .ok (.iload_n 2, 1) := by decide +kernel
theorem md_B_takes_77 : decode mc_B_takes 77 = .ok (.aload_n 0, 1) := by decide +kernel
theorem md_B_takes_78 : decode mc_B_takes 78 = .ok (.getfield 93, 3) := by decide +kernel
theorem md_B_takes_81 : decode mc_B_takes 81 = .ok (.invokevirtual 105, 3) := by decide +kernel
theorem md_B_takes_84 : decode mc_B_takes 84 = .ok (.goto 4, 3) := by decide +kernel
theorem md_B_takes_87 : decode mc_B_takes 87 = .ok (.iconst (-1), 1) := by decide +kernel
theorem md_B_takes_88 : decode mc_B_takes 88 = .ok (.istore 5, 2) := by decide +kernel
theorem md_B_takes_90 : decode mc_B_takes 90 = .ok (.goto (-36), 3) := by decide +kernel
theorem md_B_takes_93 : decode mc_B_takes 93 = .ok (.iload 4, 2) := by decide +kernel
theorem md_B_takes_95 : decode mc_B_takes 95 = .ok (.ireturn, 1) := by decide +kernel
theorem md_B_releases_0 : decode mc_B_releases 0 = .ok (.iconst 1, 1) := by decide +kernel
theorem md_B_releases_1 : decode mc_B_releases 1 = .ok (.istore_n 2, 1) := by decide +kernel
theorem md_B_releases_2 : decode mc_B_releases 2 = .ok (.iload_n 2, 1) := by decide +kernel
theorem md_B_releases_3 : decode mc_B_releases 3 = .ok (.bipush 24, 2) := by decide +kernel
theorem md_B_releases_5 : decode mc_B_releases 5 = .ok (.if_icmp .gt 66, 3) := by decide +kernel
theorem md_B_releases_8 : decode mc_B_releases 8 = .ok (.bipush 24, 2) := by decide +kernel
theorem md_B_releases_10 : decode mc_B_releases 10 = .ok (.iload_n 1, 1) := by decide +kernel
theorem md_B_releases_11 : decode mc_B_releases 11 = .ok (.imul, 1) := by decide +kernel
theorem md_B_releases_12 : decode mc_B_releases 12 = .ok (.iload_n 2, 1) := by decide +kernel
theorem md_B_releases_13 : decode mc_B_releases 13 = .ok (.iadd, 1) := by decide +kernel
theorem md_B_releases_14 : decode mc_B_releases 14 = .ok (.iconst 1, 1) := by decide +kernel
theorem md_B_releases_15 : decode mc_B_releases 15 = .ok (.isub, 1) := by decide +kernel
theorem md_B_releases_16 : decode mc_B_releases 16 = .ok (.istore_n 3, 1) := by decide +kernel
theorem md_B_releases_17 : decode mc_B_releases 17 = .ok (.aload_n 0, 1) := by decide +kernel
theorem md_B_releases_18 : decode mc_B_releases 18 = .ok (.getfield 19, 3) := by decide +kernel
theorem md_B_releases_21 : decode mc_B_releases 21 = .ok (.iload_n 3, 1) := by decide +kernel
theorem md_B_releases_22 : decode mc_B_releases 22 = .ok (.baload, 1) := by decide +kernel
theorem md_B_releases_23 : decode mc_B_releases 23 = .ok (.ifCond .eq 42, 3) := by decide +kernel
theorem md_B_releases_26 : decode mc_B_releases 26 = .ok (.aload_n 0, 1) := by decide +kernel
theorem md_B_releases_27 : decode mc_B_releases 27 = .ok (.getfield 35, 3) := by decide +kernel
theorem md_B_releases_30 : decode mc_B_releases 30 = .ok (.iload_n 3, 1) := by decide +kernel
theorem md_B_releases_31 : decode mc_B_releases 31 = .ok (.iaload, 1) := by decide +kernel
theorem md_B_releases_32 : decode mc_B_releases 32 = .ok (.ifCond .ne 33, 3) := by decide +kernel
theorem md_B_releases_35 : decode mc_B_releases 35 = .ok (.aload_n 0, 1) := by decide +kernel
theorem md_B_releases_36 : decode mc_B_releases 36 = .ok (.iload_n 1, 1) := by decide +kernel
theorem md_B_releases_37 : decode mc_B_releases 37 = .ok (.invokevirtual 109, 3) := by decide +kernel
theorem md_B_releases_40 : decode mc_B_releases 40 = .ok (.iload_n 2, 1) := by decide +kernel
theorem md_B_releases_41 : decode mc_B_releases 41 = .ok (.if_icmp .le 24, 3) := by decide +kernel
theorem md_B_releases_44 : decode mc_B_releases 44 = .ok (.aload_n 0, 1) := by decide +kernel
theorem md_B_releases_45 : decode mc_B_releases 45 = .ok (.iload_n 3, 1) := by decide +kernel
theorem md_B_releases_46 : decode mc_B_releases 46 = .ok (.invokevirtual 112, 3) := by decide +kernel
theorem md_B_releases_49 : decode mc_B_releases 49 = .ok (.istore 4, 2) := by decide +kernel
theorem md_B_releases_51 : decode mc_B_releases 51 = .ok (.iload 4, 2) := by decide +kernel
theorem md_B_releases_53 : decode mc_B_releases 53 = .ok (.bipush 6, 2) := by decide +kernel
theorem md_B_releases_55 : decode mc_B_releases 55 = .ok (.if_icmp .ge 7, 3) := by decide +kernel
theorem md_B_releases_58 : decode mc_B_releases 58 = .ok (.iload_n 2, 1) := by decide +kernel
theorem md_B_releases_59 : decode mc_B_releases 59 = .ok (.goto 5, 3) := by decide +kernel
theorem md_B_releases_62 : decode mc_B_releases 62 = .ok (.bipush 24, 2) := by decide +kernel
theorem md_B_releases_64 : decode mc_B_releases 64 = .ok (.istore_n 2, 1) := by decide +kernel
theorem md_B_releases_65 : decode mc_B_releases 65 = .ok (.iinc 2 1, 3) := by decide +kernel
theorem md_B_releases_68 : decode mc_B_releases 68 = .ok (.goto (-66), 3) := by decide +kernel
theorem md_B_releases_71 : decode mc_B_releases 71 = .ok (.return_, 1) := by decide +kernel
theorem md_B_comes_0 : decode mc_B_comes 0 = .ok (.iload_n 1, 1) := by decide +kernel
theorem md_B_comes_1 : decode mc_B_comes 1 = .ok (.bipush 24, 2) := by decide +kernel
theorem md_B_comes_3 : decode mc_B_comes 3 = .ok (.idiv, 1) := by decide +kernel
theorem md_B_comes_4 : decode mc_B_comes 4 = .ok (.istore_n 2, 1) := by decide +kernel
theorem md_B_comes_5 : decode mc_B_comes 5 = .ok (.aload_n 0, 1) := by decide +kernel
theorem md_B_comes_6 : decode mc_B_comes 6 = .ok (.getfield 19, 3) := by decide +kernel
theorem md_B_comes_9 : decode mc_B_comes 9 = .ok (.iload_n 1, 1) := by decide +kernel
theorem md_B_comes_10 : decode mc_B_comes 10 = .ok (.iconst 1, 1) := by decide +kernel
theorem md_B_comes_11 : decode mc_B_comes 11 = .ok (.bastore, 1) := by decide +kernel
theorem md_B_comes_12 : decode mc_B_comes 12 = .ok (.aload_n 0, 1) := by decide +kernel
theorem md_B_comes_13 : decode mc_B_comes 13 = .ok (.getfield 35, 3) := by decide +kernel
theorem md_B_comes_16 : decode mc_B_comes 16 = .ok (.iload_n 1, 1) := by decide +kernel
theorem md_B_comes_17 : decode mc_B_comes 17 = .ok (.iconst 0, 1) := by decide +kernel
theorem md_B_comes_18 : decode mc_B_comes 18 = .ok (.iastore, 1) := by decide +kernel
theorem md_B_comes_19 : decode mc_B_comes 19 = .ok (.aload_n 0, 1) := by decide +kernel
theorem md_B_comes_20 : decode mc_B_comes 20 = .ok (.getfield 38, 3) := by decide +kernel
theorem md_B_comes_23 : decode mc_B_comes 23 = .ok (.iload_n 1, 1) := by decide +kernel
theorem md_B_comes_24 : decode mc_B_comes 24 = .ok (.iconst 0, 1) := by decide +kernel
theorem md_B_comes_25 : decode mc_B_comes 25 = .ok (.iastore, 1) := by decide +kernel
theorem md_B_comes_26 : decode mc_B_comes 26 = .ok (.aload_n 0, 1) := by decide +kernel
theorem md_B_comes_27 : decode mc_B_comes 27 = .ok (.getfield 41, 3) := by decide +kernel
theorem md_B_comes_30 : decode mc_B_comes 30 = .ok (.iload_n 1, 1) := by decide +kernel
theorem md_B_comes_31 : decode mc_B_comes 31 = .ok (.aload_n 0, 1) := by decide +kernel
theorem md_B_comes_32 : decode mc_B_comes 32 = .ok (.getfield 90, 3) := by decide +kernel
theorem md_B_comes_35 : decode mc_B_comes 35 = .ok (.iastore, 1) := by decide +kernel
theorem md_B_comes_36 : decode mc_B_comes 36 = .ok (.aload_n 0, 1) := by decide +kernel
theorem md_B_comes_37 : decode mc_B_comes 37 = .ok (.getfield 47, 3) := by decide +kernel
theorem md_B_comes_40 : decode mc_B_comes 40 = .ok (.iload_n 1, 1) := by decide +kernel
theorem md_B_comes_41 : decode mc_B_comes 41 = .ok (.iconst 0, 1) := by decide +kernel
theorem md_B_comes_42 : decode mc_B_comes 42 = .ok (.bastore, 1) := by decide +kernel
theorem md_B_comes_43 : decode mc_B_comes 43 = .ok (.aload_n 0, 1) := by decide +kernel
theorem md_B_comes_44 : decode mc_B_comes 44 = .ok (.getfield 26, 3) := by decide +kernel
theorem md_B_comes_47 : decode mc_B_comes 47 = .ok (.iload_n 1, 1) := by decide +kernel
theorem md_B_comes_48 : decode mc_B_comes 48 = .ok (.iaload, 1) := by decide +kernel
theorem md_B_comes_49 : decode mc_B_comes 49 = .ok (.iconst 3, 1) := by decide +kernel
theorem md_B_comes_50 : decode mc_B_comes 50 = .ok (.if_icmp .eq 19, 3) := by decide +kernel
theorem md_B_comes_53 : decode mc_B_comes 53 = .ok (.aload_n 0, 1) := by decide +kernel
theorem md_B_comes_54 : decode mc_B_comes 54 = .ok (.iload_n 2, 1) := by decide +kernel
theorem md_B_comes_55 : decode mc_B_comes 55 = .ok (.invokevirtual 109, 3) := by decide +kernel
theorem md_B_comes_58 : decode mc_B_comes 58 = .ok (.iload_n 1, 1) := by decide +kernel
theorem md_B_comes_59 : decode mc_B_comes 59 = .ok (.bipush 24, 2) := by decide +kernel
theorem md_B_comes_61 : decode mc_B_comes 61 = .ok (.irem, 1) := by decide +kernel
theorem md_B_comes_62 : decode mc_B_comes 62 = .ok (.iconst 1, 1) := by decide +kernel
theorem md_B_comes_63 : decode mc_B_comes 63 = .ok (.iadd, 1) := by decide +kernel
theorem md_B_comes_64 : decode mc_B_comes 64 = .ok (.if_icmp .ge 5, 3) := by decide +kernel
theorem md_B_comes_67 : decode mc_B_comes 67 = .ok (.iconst 2, 1) := by decide +kernel
theorem md_B_comes_68 : decode mc_B_comes 68 = .ok (.ireturn, 1) := by decide +kernel
theorem md_B_comes_69 : decode mc_B_comes 69 = .ok (.aload_n 0, 1) := by decide +kernel
theorem md_B_comes_70 : decode mc_B_comes 70 = .ok (.iload_n 1, 1) := by decide +kernel
theorem md_B_comes_71 : decode mc_B_comes 71 = .ok (.invokevirtual 112, 3) := by decide +kernel
theorem md_B_comes_74 : decode mc_B_comes 74 = .ok (.istore_n 3, 1) := by decide +kernel
theorem md_B_comes_75 : decode mc_B_comes 75 = .ok (.aload_n 0, 1) := by decide +kernel
theorem md_B_comes_76 : decode mc_B_comes 76 = .ok (.iload_n 2, 1) := by decide +kernel
theorem md_B_comes_77 : decode mc_B_comes 77 = .ok (.invokevirtual 115, 3) := by decide +kernel
theorem md_B_comes_80 : decode mc_B_comes 80 = .ok (.iload_n 3, 1) := by decide +kernel
theorem md_B_comes_81 : decode mc_B_comes 81 = .ok (.ireturn, 1) := by decide +kernel
theorem md_B_receive_0 : decode mc_B_receive 0 = .ok (.iload_n 1, 1) := by decide +kernel
theorem md_B_receive_1 : decode mc_B_receive 1 = .ok (.invokestatic 118, 3) := by decide +kernel
theorem md_B_receive_4 : decode mc_B_receive 4 = .ok (.ifCond .eq 44, 3) := by decide +kernel
theorem md_B_receive_7 : decode mc_B_receive 7 = .ok (.iload_n 2, 1) := by decide +kernel
theorem md_B_receive_8 : decode mc_B_receive 8 = .ok (.invokestatic 121, 3) := by decide +kernel
theorem md_B_receive_11 : decode mc_B_receive 11 = .ok (.ifCond .eq 37, 3) := by decide +kernel
theorem md_B_receive_14 : decode mc_B_receive 14 = .ok (.iload_n 3, 1) := by decide +kernel
theorem md_B_receive_15 : decode mc_B_receive 15 = .ok (.iconst 0, 1) := by decide +kernel
theorem md_B_receive_16 : decode mc_B_receive 16 = .ok (.iconst 4, 1) := by decide +kernel
theorem md_B_receive_17 : decode mc_B_receive 17 = .ok (.invokestatic 76, 3) := by decide +kernel
theorem md_B_receive_20 : decode mc_B_receive 20 = .ok (.ifCond .eq 28, 3) := by decide +kernel
theorem md_B_receive_23 : decode mc_B_receive 23 = .ok (.iload 4, 2) := by decide +kernel
theorem md_B_receive_25 : decode mc_B_receive 25 = .ok (.iconst 0, 1) := by decide +kernel
theorem md_B_receive_26 : decode mc_B_receive 26 = .ok (.bipush 15, 2) := by decide +kernel
theorem md_B_receive_28 : decode mc_B_receive 28 = .ok (.invokestatic 76, 3) := by decide +kernel
theorem md_B_receive_31 : decode mc_B_receive 31 = .ok (.ifCond .eq 17, 3) := by decide +kernel
theorem md_B_receive_34 : decode mc_B_receive 34 = .ok (.iload 5, 2) := by decide +kernel
theorem md_B_receive_36 : decode mc_B_receive 36 = .ok (.sipush (-1000), 3) := by decide +kernel
theorem md_B_receive_39 : decode mc_B_receive 39 = .ok (.sipush 1000, 3) := by decide +kernel
theorem md_B_receive_42 : decode mc_B_receive 42 = .ok (.invokestatic 76, 3) := by decide +kernel
theorem md_B_receive_45 : decode mc_B_receive 45 = .ok (.ifCond .ne 9, 3) := by decide +kernel
theorem md_B_receive_48 : decode mc_B_receive 48 = .ok (.aload_n 0, 1) := by decide +kernel
theorem md_B_receive_49 : decode mc_B_receive 49 = .ok (.iconst 1, 1) := by decide +kernel
theorem md_B_receive_50 : decode mc_B_receive 50 = .ok (.invokevirtual 124, 3) := by decide +kernel
theorem md_B_receive_53 : decode mc_B_receive 53 = .ok (.ireturn, 1) := by decide +kernel
theorem md_B_receive_54 : decode mc_B_receive 54 = .ok (.aload_n 0, 1) := by decide +kernel
theorem md_B_receive_55 : decode mc_B_receive 55 = .ok (.iconst 0, 1) := by decide +kernel
theorem md_B_receive_56 : decode mc_B_receive 56 = .ok (.putfield 62, 3) := by decide +kernel
theorem md_B_receive_59 : decode mc_B_receive 59 = .ok (.bipush 24, 2) := by decide +kernel
theorem md_B_receive_61 : decode mc_B_receive 61 = .ok (.iload_n 1, 1) := by decide +kernel
theorem md_B_receive_62 : decode mc_B_receive 62 = .ok (.imul, 1) := by decide +kernel
theorem md_B_receive_63 : decode mc_B_receive 63 = .ok (.iload_n 2, 1) := by decide +kernel
theorem md_B_receive_64 : decode mc_B_receive 64 = .ok (.iadd, 1) := by decide +kernel
theorem md_B_receive_65 : decode mc_B_receive 65 = .ok (.iconst 1, 1) := by decide +kernel
theorem md_B_receive_66 : decode mc_B_receive 66 = .ok (.isub, 1) := by decide +kernel
theorem md_B_receive_67 : decode mc_B_receive 67 = .ok (.istore 6, 2) := by decide +kernel
theorem md_B_receive_69 : decode mc_B_receive 69 = .ok (.aload_n 0, 1) := by decide +kernel
theorem md_B_receive_70 : decode mc_B_receive 70 = .ok (.iload 6, 2) := by decide +kernel
theorem md_B_receive_72 : decode mc_B_receive 72 = .ok (.invokevirtual 66, 3) := by decide +kernel
theorem md_B_receive_75 : decode mc_B_receive 75 = .ok (.ifCond .ne 13, 3) := by decide +kernel
theorem md_B_receive_78 : decode mc_B_receive 78 = .ok (.aload_n 0, 1) := by decide +kernel
theorem md_B_receive_79 : decode mc_B_receive 79 = .ok (.getfield 23, 3) := by decide +kernel
theorem md_B_receive_82 : decode mc_B_receive 82 = .ok (.iload 6, 2) := by decide +kernel
theorem md_B_receive_84 : decode mc_B_receive 84 = .ok (.baload, 1) := by decide +kernel
theorem md_B_receive_85 : decode mc_B_receive 85 = .ok (.ifCond .eq 15, 3) := by decide +kernel
theorem md_B_receive_88 : decode mc_B_receive 88 = .ok (.aload_n 0, 1) := by decide +kernel
theorem md_B_receive_89 : decode mc_B_receive 89 = .ok (.dup, 1) := by decide +kernel
theorem md_B_receive_90 : decode mc_B_receive 90 = .ok (.getfield 127, 3) := by decide +kernel
theorem md_B_receive_93 : decode mc_B_receive 93 = .ok (.iconst 1, 1) := by decide +kernel
theorem md_B_receive_94 : decode mc_B_receive 94 = .ok (.iadd, 1) := by decide +kernel
theorem md_B_receive_95 : decode mc_B_receive 95 = .ok (.putfield 127, 3) := by decide +kernel
theorem md_B_receive_98 : decode mc_B_receive 98 = .ok (.iconst 3, 1) := by decide +kernel
theorem md_B_receive_99 : decode mc_B_receive 99 = .ok (.ireturn, 1) := by decide +kernel
theorem md_B_receive_100 : decode mc_B_receive 100 = .ok (.aload_n 0, 1) := by decide +kernel
theorem md_B_receive_101 : decode mc_B_receive 101 = .ok (.getfield 26, 3) := by decide +kernel
theorem md_B_receive_104 : decode mc_B_receive 104 = .ok (.iload 6, 2) := by decide +kernel
theorem md_B_receive_106 : decode mc_B_receive 106 = .ok (.iload_n 3, 1) := by decide +kernel
theorem md_B_receive_107 : decode mc_B_receive 107 = .ok (.iastore, 1) := by decide +kernel
theorem md_B_receive_108 : decode mc_B_receive 108 = .ok (.aload_n 0, 1) := by decide +kernel
theorem md_B_receive_109 : decode mc_B_receive 109 = .ok (.getfield 29, 3) := by decide +kernel
theorem md_B_receive_112 : decode mc_B_receive 112 = .ok (.iload 6, 2) := by decide +kernel
theorem md_B_receive_114 : decode mc_B_receive 114 = .ok (.iload 4, 2) := by decide +kernel
theorem md_B_receive_116 : decode mc_B_receive 116 = .ok (.iastore, 1) := by decide +kernel
theorem md_B_receive_117 : decode mc_B_receive 117 = .ok (.aload_n 0, 1) := by decide +kernel
theorem md_B_receive_118 : decode mc_B_receive 118 = .ok (.getfield 32, 3) := by decide +kernel
theorem md_B_receive_121 : decode mc_B_receive 121 = .ok (.iload 6, 2) := by decide +kernel
theorem md_B_receive_123 : decode mc_B_receive 123 = .ok (.iload 5, 2) := by decide +kernel
theorem md_B_receive_125 : decode mc_B_receive 125 = .ok (.iastore, 1) := by decide +kernel
theorem md_B_receive_126 : decode mc_B_receive 126 = .ok (.aload_n 0, 1) := by decide +kernel
theorem md_B_receive_127 : decode mc_B_receive 127 = .ok (.iload 6, 2) := by decide +kernel
theorem md_B_receive_129 : decode mc_B_receive 129 = .ok (.invokevirtual 130, 3) := by decide +kernel
theorem md_B_receive_132 : decode mc_B_receive 132 = .ok (.istore 7, 2) := by decide +kernel
theorem md_B_receive_134 : decode mc_B_receive 134 = .ok (.aload_n 0, 1) := by decide +kernel
theorem md_B_receive_135 : decode mc_B_receive 135 = .ok (.getfield 35, 3) := by decide +kernel
theorem md_B_receive_138 : decode mc_B_receive 138 = .ok (.iload 6, 2) := by decide +kernel
theorem md_B_receive_140 : decode mc_B_receive 140 = .ok (.iaload, 1) := by decide +kernel
theorem md_B_receive_141 : decode mc_B_receive 141 = .ok (.istore 8, 2) := by decide +kernel
theorem md_B_receive_143 : decode mc_B_receive 143 = .ok (.iload 7, 2) := by decide +kernel
theorem md_B_receive_145 : decode mc_B_receive 145 = .ok (.iconst 2, 1) := by decide +kernel
theorem md_B_receive_146 : decode mc_B_receive 146 = .ok (.if_icmp .eq 8, 3) := by decide +kernel
theorem md_B_receive_149 : decode mc_B_receive 149 = .ok (.iload 8, 2) := by decide +kernel
theorem md_B_receive_151 : decode mc_B_receive 151 = .ok (.ifCond .ne 7, 3) := by decide +kernel
theorem md_B_receive_154 : decode mc_B_receive 154 = .ok (.iconst 2, 1) := by decide +kernel
theorem md_B_receive_155 : decode mc_B_receive 155 = .ok (.goto 40, 3) := by decide +kernel
theorem md_B_receive_158 : decode mc_B_receive 158 = .ok (.iload 8, 2) := by decide +kernel
theorem md_B_receive_160 : decode mc_B_receive 160 = .ok (.iconst 1, 1) := by decide +kernel
theorem md_B_receive_161 : decode mc_B_receive 161 = .ok (.if_icmp .ne 7, 3) := by decide +kernel
theorem md_B_receive_164 : decode mc_B_receive 164 = .ok (.iconst 1, 1) := by decide +kernel
theorem md_B_receive_165 : decode mc_B_receive 165 = .ok (.goto 30, 3) := by decide +kernel
theorem md_B_receive_168 : decode mc_B_receive 168 = .ok (.iload 8, 2) := by decide +kernel
theorem md_B_receive_170 : decode mc_B_receive 170 = .ok (.iconst 2, 1) := by decide +kernel
theorem md_B_receive_171 : decode mc_B_receive 171 = .ok (.if_icmp .ne 13, 3) := by decide +kernel
theorem md_B_receive_174 : decode mc_B_receive 174 = .ok (.aload_n 0, 1) := by decide +kernel
theorem md_B_receive_175 : decode mc_B_receive 175 = .ok (.getfield 38, 3) := by decide +kernel
theorem md_B_receive_178 : decode mc_B_receive 178 = .ok (.iload 6, 2) := by decide +kernel
theorem md_B_receive_180 : decode mc_B_receive 180 = .ok (.iaload, 1) := by decide +kernel
theorem md_B_receive_181 : decode mc_B_receive 181 = .ok (.goto 14, 3) := by decide +kernel
theorem md_B_receive_184 : decode mc_B_receive 184 = .ok (.iload 8, 2) := by decide +kernel
theorem md_B_receive_186 : decode mc_B_receive 186 = .ok (.iconst 3, 1) := by decide +kernel
theorem md_B_receive_187 : decode mc_B_receive 187 = .ok (.if_icmp .ne 7, 3) := by decide +kernel
theorem md_B_receive_190 : decode mc_B_receive 190 = .ok (.iconst 4, 1) := by decide +kernel
theorem md_B_receive_191 : decode mc_B_receive 191 = .ok (.goto 4, 3) := by decide +kernel
theorem md_B_receive_194 : decode mc_B_receive 194 = .ok (.iconst 5, 1) := by decide +kernel
theorem md_B_receive_195 : decode mc_B_receive 195 = .ok (.ireturn, 1) := by decide +kernel
theorem md_B_isMessage_0 : decode mc_B_isMessage 0 = .ok (.aload_n 0, 1) := by decide +kernel
theorem md_B_isMessage_1 : decode mc_B_isMessage 1 = .ok (.iload_n 1, 1) := by decide +kernel
theorem md_B_isMessage_2 : decode mc_B_isMessage 2 = .ok (.invokestatic 118, 3) := by decide +kernel
theorem md_B_isMessage_5 : decode mc_B_isMessage 5 = .ok (.ifCond .eq 14, 3) := by decide +kernel
theorem md_B_isMessage_8 : decode mc_B_isMessage 8 = .ok (.iload_n 2, 1) := by decide +kernel
theorem md_B_isMessage_9 : decode mc_B_isMessage 9 = .ok (.invokestatic 121, 3) := by decide +kernel
theorem md_B_isMessage_12 : decode mc_B_isMessage 12 = .ok (.ifCond .eq 7, 3) := by decide +kernel
theorem md_B_isMessage_15 : decode mc_B_isMessage 15 = .ok (.iconst 0, 1) := by decide +kernel
theorem md_B_isMessage_16 : decode mc_B_isMessage 16 = .ok (.goto 4, 3) := by decide +kernel
theorem md_B_isMessage_19 : decode mc_B_isMessage 19 = .ok (.iconst 1, 1) := by decide +kernel
theorem md_B_isMessage_20 : decode mc_B_isMessage 20 = .ok (.putfield 62, 3) := by decide +kernel
theorem md_B_isMessage_23 : decode mc_B_isMessage 23 = .ok (.aload_n 0, 1) := by decide +kernel
theorem md_B_isMessage_24 : decode mc_B_isMessage 24 = .ok (.getfield 62, 3) := by decide +kernel
theorem md_B_isMessage_27 : decode mc_B_isMessage 27 = .ok (.ifCond .ne 7, 3) := by decide +kernel
theorem md_B_isMessage_30 : decode mc_B_isMessage 30 = .ok (.iconst 1, 1) := by decide +kernel
theorem md_B_isMessage_31 : decode mc_B_isMessage 31 = .ok (.goto 4, 3) := by decide +kernel
theorem md_B_isMessage_34 : decode mc_B_isMessage 34 = .ok (.iconst 0, 1) := by decide +kernel
theorem md_B_isMessage_35 : decode mc_B_isMessage 35 = .ok (.ireturn, 1) := by decide +kernel
theorem md_B_status_0 : decode mc_B_status 0 = .ok (.aload_n 0, 1) := by decide +kernel
theorem md_B_status_1 : decode mc_B_status 1 = .ok (.iload_n 1, 1) := by decide +kernel
theorem md_B_status_2 : decode mc_B_status 2 = .ok (.iload_n 2, 1) := by decide +kernel
theorem md_B_status_3 : decode mc_B_status 3 = .ok (.invokevirtual 133, 3) := by decide +kernel
theorem md_B_status_6 : decode mc_B_status 6 = .ok (.ifCond .ne 5, 3) := by decide +kernel
theorem md_B_status_9 : decode mc_B_status 9 = .ok (.iconst 0, 1) := by decide +kernel
theorem md_B_status_10 : decode mc_B_status 10 = .ok (.ireturn, 1) := by decide +kernel
theorem md_B_status_11 : decode mc_B_status 11 = .ok (.bipush 24, 2) := by decide +kernel
theorem md_B_status_13 : decode mc_B_status 13 = .ok (.iload_n 1, 1) := by decide +kernel
theorem md_B_status_14 : decode mc_B_status 14 = .ok (.imul, 1) := by decide +kernel
theorem md_B_status_15 : decode mc_B_status 15 = .ok (.iload_n 2, 1) := by decide +kernel
theorem md_B_status_16 : decode mc_B_status 16 = .ok (.iadd, 1) := by decide +kernel
theorem md_B_status_17 : decode mc_B_status 17 = .ok (.iconst 1, 1) := by decide +kernel
theorem md_B_status_18 : decode mc_B_status 18 = .ok (.isub, 1) := by decide +kernel
theorem md_B_status_19 : decode mc_B_status 19 = .ok (.istore_n 3, 1) := by decide +kernel
theorem md_B_status_20 : decode mc_B_status 20 = .ok (.aload_n 0, 1) := by decide +kernel
theorem md_B_status_21 : decode mc_B_status 21 = .ok (.getfield 19, 3) := by decide +kernel
theorem md_B_status_24 : decode mc_B_status 24 = .ok (.iload_n 3, 1) := by decide +kernel
theorem md_B_status_25 : decode mc_B_status 25 = .ok (.baload, 1) := by decide +kernel
theorem md_B_status_26 : decode mc_B_status 26 = .ok (.ifCond .eq 12, 3) := by decide +kernel
theorem md_B_status_29 : decode mc_B_status 29 = .ok (.aload_n 0, 1) := by decide +kernel
theorem md_B_status_30 : decode mc_B_status 30 = .ok (.getfield 35, 3) := by decide +kernel
theorem md_B_status_33 : decode mc_B_status 33 = .ok (.iload_n 3, 1) := by decide +kernel
theorem md_B_status_34 : decode mc_B_status 34 = .ok (.iaload, 1) := by decide +kernel
theorem md_B_status_35 : decode mc_B_status 35 = .ok (.goto 4, 3) := by decide +kernel
theorem md_B_status_38 : decode mc_B_status 38 = .ok (.iconst (-1), 1) := by decide +kernel
theorem md_B_status_39 : decode mc_B_status 39 = .ok (.ireturn, 1) := by decide +kernel
theorem md_B_answer_0 : decode mc_B_answer 0 = .ok (.aload_n 0, 1) := by decide +kernel
theorem md_B_answer_1 : decode mc_B_answer 1 = .ok (.iload_n 1, 1) := by decide +kernel
theorem md_B_answer_2 : decode mc_B_answer 2 = .ok (.iload_n 2, 1) := by decide +kernel
theorem md_B_answer_3 : decode mc_B_answer 3 = .ok (.invokevirtual 133, 3) := by decide +kernel
theorem md_B_answer_6 : decode mc_B_answer 6 = .ok (.ifCond .ne 5, 3) := by decide +kernel
theorem md_B_answer_9 : decode mc_B_answer 9 = .ok (.iconst 0, 1) := by decide +kernel
theorem md_B_answer_10 : decode mc_B_answer 10 = .ok (.ireturn, 1) := by decide +kernel
theorem md_B_answer_11 : decode mc_B_answer 11 = .ok (.bipush 24, 2) := by decide +kernel
theorem md_B_answer_13 : decode mc_B_answer 13 = .ok (.iload_n 1, 1) := by decide +kernel
theorem md_B_answer_14 : decode mc_B_answer 14 = .ok (.imul, 1) := by decide +kernel
theorem md_B_answer_15 : decode mc_B_answer 15 = .ok (.iload_n 2, 1) := by decide +kernel
theorem md_B_answer_16 : decode mc_B_answer 16 = .ok (.iadd, 1) := by decide +kernel
theorem md_B_answer_17 : decode mc_B_answer 17 = .ok (.iconst 1, 1) := by decide +kernel
theorem md_B_answer_18 : decode mc_B_answer 18 = .ok (.isub, 1) := by decide +kernel
theorem md_B_answer_19 : decode mc_B_answer 19 = .ok (.istore_n 3, 1) := by decide +kernel
theorem md_B_answer_20 : decode mc_B_answer 20 = .ok (.aload_n 0, 1) := by decide +kernel
theorem md_B_answer_21 : decode mc_B_answer 21 = .ok (.getfield 19, 3) := by decide +kernel
theorem md_B_answer_24 : decode mc_B_answer 24 = .ok (.iload_n 3, 1) := by decide +kernel
theorem md_B_answer_25 : decode mc_B_answer 25 = .ok (.baload, 1) := by decide +kernel
theorem md_B_answer_26 : decode mc_B_answer 26 = .ok (.ifCond .eq 12, 3) := by decide +kernel
theorem md_B_answer_29 : decode mc_B_answer 29 = .ok (.aload_n 0, 1) := by decide +kernel
theorem md_B_answer_30 : decode mc_B_answer 30 = .ok (.getfield 38, 3) := by decide +kernel
theorem md_B_answer_33 : decode mc_B_answer 33 = .ok (.iload_n 3, 1) := by decide +kernel
theorem md_B_answer_34 : decode mc_B_answer 34 = .ok (.iaload, 1) := by decide +kernel
theorem md_B_answer_35 : decode mc_B_answer 35 = .ok (.goto 4, 3) := by decide +kernel
theorem md_B_answer_38 : decode mc_B_answer 38 = .ok (.iconst 0, 1) := by decide +kernel
theorem md_B_answer_39 : decode mc_B_answer 39 = .ok (.ireturn, 1) := by decide +kernel
theorem md_B_point_0 : decode mc_B_point 0 = .ok (.aload_n 0, 1) := by decide +kernel
theorem md_B_point_1 : decode mc_B_point 1 = .ok (.iconst 0, 1) := by decide +kernel
theorem md_B_point_2 : decode mc_B_point 2 = .ok (.putfield 62, 3) := by decide +kernel
theorem md_B_point_5 : decode mc_B_point 5 = .ok (.iload_n 1, 1) := by decide +kernel
theorem md_B_point_6 : decode mc_B_point 6 = .ok (.iconst 0, 1) := by decide +kernel
theorem md_B_point_7 : decode mc_B_point 7 = .ok (.bipush 15, 2) := by decide +kernel
theorem md_B_point_9 : decode mc_B_point 9 = .ok (.invokestatic 76, 3) := by decide +kernel
theorem md_B_point_12 : decode mc_B_point 12 = .ok (.ifCond .eq 13, 3) := by decide +kernel
theorem md_B_point_15 : decode mc_B_point 15 = .ok (.aload_n 0, 1) := by decide +kernel
theorem md_B_point_16 : decode mc_B_point 16 = .ok (.getfield 7, 3) := by decide +kernel
theorem md_B_point_19 : decode mc_B_point 19 = .ok (.iload_n 1, 1) := by decide +kernel
theorem md_B_point_20 : decode mc_B_point 20 = .ok (.iaload, 1) := by decide +kernel
theorem md_B_point_21 : decode mc_B_point 21 = .ok (.iconst 1, 1) := by decide +kernel
theorem md_B_point_22 : decode mc_B_point 22 = .ok (.if_icmp .eq 5, 3) := by decide +kernel
theorem md_B_point_25 : decode mc_B_point 25 = .ok (.iconst 0, 1) := by decide +kernel
theorem md_B_point_26 : decode mc_B_point 26 = .ok (.ireturn, 1) := by decide +kernel
theorem md_B_point_27 : decode mc_B_point 27 = .ok (.aload_n 0, 1) := by decide +kernel
theorem md_B_point_28 : decode mc_B_point 28 = .ok (.getfield 7, 3) := by decide +kernel
theorem md_B_point_31 : decode mc_B_point 31 = .ok (.iload_n 1, 1) := by decide +kernel
theorem md_B_point_32 : decode mc_B_point 32 = .ok (.iconst 2, 1) := by decide +kernel
theorem md_B_point_33 : decode mc_B_point 33 = .ok (.iastore, 1) := by decide +kernel
theorem md_B_point_34 : decode mc_B_point 34 = .ok (.iconst 1, 1) := by decide +kernel
theorem md_B_point_35 : decode mc_B_point 35 = .ok (.ireturn, 1) := by decide +kernel
theorem md_B_fails_0 : decode mc_B_fails 0 = .ok (.aload_n 0, 1) := by decide +kernel
theorem md_B_fails_1 : decode mc_B_fails 1 = .ok (.iconst 0, 1) := by decide +kernel
theorem md_B_fails_2 : decode mc_B_fails 2 = .ok (.putfield 62, 3) := by decide +kernel
theorem md_B_fails_5 : decode mc_B_fails 5 = .ok (.iload_n 1, 1) := by decide +kernel
theorem md_B_fails_6 : decode mc_B_fails 6 = .ok (.iconst 0, 1) := by decide +kernel
theorem md_B_fails_7 : decode mc_B_fails 7 = .ok (.iconst 4, 1) := by decide +kernel
theorem md_B_fails_8 : decode mc_B_fails 8 = .ok (.invokestatic 76, 3) := by decide +kernel
theorem md_B_fails_11 : decode mc_B_fails 11 = .ok (.ifCond .eq 13, 3) := by decide +kernel
theorem md_B_fails_14 : decode mc_B_fails 14 = .ok (.aload_n 0, 1) := by decide +kernel
theorem md_B_fails_15 : decode mc_B_fails 15 = .ok (.getfield 53, 3) := by decide +kernel
theorem md_B_fails_18 : decode mc_B_fails 18 = .ok (.iload_n 1, 1) := by decide +kernel
theorem md_B_fails_19 : decode mc_B_fails 19 = .ok (.baload, 1) := by decide +kernel
theorem md_B_fails_20 : decode mc_B_fails 20 = .ok (.iload_n 2, 1) := by decide +kernel
theorem md_B_fails_21 : decode mc_B_fails 21 = .ok (.if_icmp .ne 5, 3) := by decide +kernel
theorem md_B_fails_24 : decode mc_B_fails 24 = .ok (.iconst 0, 1) := by decide +kernel
theorem md_B_fails_25 : decode mc_B_fails 25 = .ok (.ireturn, 1) := by decide +kernel
theorem md_B_fails_26 : decode mc_B_fails 26 = .ok (.aload_n 0, 1) := by decide +kernel
theorem md_B_fails_27 : decode mc_B_fails 27 = .ok (.getfield 53, 3) := by decide +kernel
theorem md_B_fails_30 : decode mc_B_fails 30 = .ok (.iload_n 1, 1) := by decide +kernel
theorem md_B_fails_31 : decode mc_B_fails 31 = .ok (.iload_n 2, 1) := by decide +kernel
theorem md_B_fails_32 : decode mc_B_fails 32 = .ok (.bastore, 1) := by decide +kernel
theorem md_B_fails_33 : decode mc_B_fails 33 = .ok (.iconst 1, 1) := by decide +kernel
theorem md_B_fails_34 : decode mc_B_fails 34 = .ok (.ireturn, 1) := by decide +kernel
theorem md_B_tick_0 : decode mc_B_tick 0 = .ok (.iload_n 1, 1) := by decide +kernel
theorem md_B_tick_1 : decode mc_B_tick 1 = .ok (.aload_n 0, 1) := by decide +kernel
theorem md_B_tick_2 : decode mc_B_tick 2 = .ok (.getfield 90, 3) := by decide +kernel
theorem md_B_tick_5 : decode mc_B_tick 5 = .ok (.ldc 137, 2) := by decide +kernel
theorem md_B_tick_7 : decode mc_B_tick 7 = .ok (.invokestatic 76, 3) := by decide +kernel
theorem md_B_tick_10 : decode mc_B_tick 10 = .ok (.ifCond .ne 9, 3) := by decide +kernel
theorem md_B_tick_13 : decode mc_B_tick 13 = .ok (.aload_n 0, 1) := by decide +kernel
theorem md_B_tick_14 : decode mc_B_tick 14 = .ok (.iconst 1, 1) := by decide +kernel
theorem md_B_tick_15 : decode mc_B_tick 15 = .ok (.invokevirtual 124, 3) := by decide +kernel
theorem md_B_tick_18 : decode mc_B_tick 18 = .ok (.ireturn, 1) := by decide +kernel
theorem md_B_tick_19 : decode mc_B_tick 19 = .ok (.aload_n 0, 1) := by decide +kernel
theorem md_B_tick_20 : decode mc_B_tick 20 = .ok (.iconst 0, 1) := by decide +kernel
theorem md_B_tick_21 : decode mc_B_tick 21 = .ok (.putfield 62, 3) := by decide +kernel
theorem md_B_tick_24 : decode mc_B_tick 24 = .ok (.aload_n 0, 1) := by decide +kernel
theorem md_B_tick_25 : decode mc_B_tick 25 = .ok (.iload_n 1, 1) := by decide +kernel
theorem md_B_tick_26 : decode mc_B_tick 26 = .ok (.putfield 90, 3) := by decide +kernel
theorem md_B_tick_29 : decode mc_B_tick 29 = .ok (.aload_n 0, 1) := by decide +kernel
theorem md_B_tick_30 : decode mc_B_tick 30 = .ok (.getfield 96, 3) := by decide +kernel
theorem md_B_tick_33 : decode mc_B_tick 33 = .ok (.istore_n 2, 1) := by decide +kernel
theorem md_B_tick_34 : decode mc_B_tick 34 = .ok (.aload_n 0, 1) := by decide +kernel
theorem md_B_tick_35 : decode mc_B_tick 35 = .ok (.getfield 93, 3) := by decide +kernel
theorem md_B_tick_38 : decode mc_B_tick 38 = .ok (.istore_n 3, 1) := by decide +kernel
theorem md_B_tick_39 : decode mc_B_tick 39 = .ok (.aload_n 0, 1) := by decide +kernel
theorem md_B_tick_40 : decode mc_B_tick 40 = .ok (.iconst 4, 1) := by decide +kernel
theorem md_B_tick_41 : decode mc_B_tick 41 = .ok (.iconst (-1), 1) := by decide +kernel
theorem md_B_tick_42 : decode mc_B_tick 42 = .ok (.iload_n 3, 1) := by decide +kernel
theorem md_B_tick_43 : decode mc_B_tick 43 = .ok (.invokevirtual 105, 3) := by decide +kernel
theorem md_B_tick_46 : decode mc_B_tick 46 = .ok (.istore 4, 2) := by decide +kernel
theorem md_B_tick_48 : decode mc_B_tick 48 = .ok (.iload 4, 2) := by decide +kernel
theorem md_B_tick_50 : decode mc_B_tick 50 = .ok (.ifCond .lt 34, 3) := by decide +kernel
theorem md_B_tick_53 : decode mc_B_tick 53 = .ok (.aload_n 0, 1) := by decide +kernel
theorem md_B_tick_54 : decode mc_B_tick 54 = .ok (.iload 4, 2) := by decide +kernel
theorem md_B_tick_56 : decode mc_B_tick 56 = .ok (.invokevirtual 112, 3) := by decide +kernel
theorem md_B_tick_59 : decode mc_B_tick 59 = .ok (.istore 5, 2) := by decide +kernel
theorem md_B_tick_61 : decode mc_B_tick 61 = .ok (.iload 5, 2) := by decide +kernel
theorem md_B_tick_63 : decode mc_B_tick 63 = .ok (.bipush 6, 2) := by decide +kernel
theorem md_B_tick_65 : decode mc_B_tick 65 = .ok (.if_icmp .ge 13, 3) := by decide +kernel
theorem md_B_tick_68 : decode mc_B_tick 68 = .ok (.aload_n 0, 1) := by decide +kernel
theorem md_B_tick_69 : decode mc_B_tick 69 = .ok (.iconst 4, 1) := by decide +kernel
theorem md_B_tick_70 : decode mc_B_tick 70 = .ok (.iconst (-1), 1) := by decide +kernel
theorem md_B_tick_71 : decode mc_B_tick 71 = .ok (.iload_n 3, 1) := by decide +kernel
theorem md_B_tick_72 : decode mc_B_tick 72 = .ok (.invokevirtual 105, 3) := by decide +kernel
theorem md_B_tick_75 : decode mc_B_tick 75 = .ok (.goto 4, 3) := by decide +kernel
theorem md_B_tick_78 : decode mc_B_tick 78 = .ok (.iconst (-1), 1) := by decide +kernel
theorem md_B_tick_79 : decode mc_B_tick 79 = .ok (.istore 4, 2) := by decide +kernel
theorem md_B_tick_81 : decode mc_B_tick 81 = .ok (.goto (-33), 3) := by decide +kernel
theorem md_B_tick_84 : decode mc_B_tick 84 = .ok (.aload_n 0, 1) := by decide +kernel
theorem md_B_tick_85 : decode mc_B_tick 85 = .ok (.iconst 3, 1) := by decide +kernel
theorem md_B_tick_86 : decode mc_B_tick 86 = .ok (.iconst (-1), 1) := by decide +kernel
theorem md_B_tick_87 : decode mc_B_tick 87 = .ok (.aload_n 0, 1) := by decide +kernel
theorem md_B_tick_88 : decode mc_B_tick 88 = .ok (.getfield 93, 3) := by decide +kernel
theorem md_B_tick_91 : decode mc_B_tick 91 = .ok (.invokevirtual 105, 3) := by decide +kernel
theorem md_B_tick_94 : decode mc_B_tick 94 = .ok (.istore 4, 2) := by decide +kernel
theorem md_B_tick_96 : decode mc_B_tick 96 = .ok (.iload 4, 2) := by decide +kernel
theorem md_B_tick_98 : decode mc_B_tick 98 = .ok (.ifCond .lt 64, 3) := by decide +kernel
theorem md_B_tick_101 : decode mc_B_tick 101 = .ok (.aload_n 0, 1) := by decide +kernel
theorem md_B_tick_102 : decode mc_B_tick 102 = .ok (.getfield 90, 3) := by decide +kernel
theorem md_B_tick_105 : decode mc_B_tick 105 = .ok (.aload_n 0, 1) := by decide +kernel
theorem md_B_tick_106 : decode mc_B_tick 106 = .ok (.getfield 44, 3) := by decide +kernel
theorem md_B_tick_109 : decode mc_B_tick 109 = .ok (.iload 4, 2) := by decide +kernel
theorem md_B_tick_111 : decode mc_B_tick 111 = .ok (.iaload, 1) := by decide +kernel
theorem md_B_tick_112 : decode mc_B_tick 112 = .ok (.isub, 1) := by decide +kernel
theorem md_B_tick_113 : decode mc_B_tick 113 = .ok (.bipush 50, 2) := by decide +kernel
theorem md_B_tick_115 : decode mc_B_tick 115 = .ok (.if_icmp .le 47, 3) := by decide +kernel
theorem md_B_tick_118 : decode mc_B_tick 118 = .ok (.aload_n 0, 1) := by decide +kernel
theorem md_B_tick_119 : decode mc_B_tick 119 = .ok (.getfield 35, 3) := by decide +kernel
theorem md_B_tick_122 : decode mc_B_tick 122 = .ok (.iload 4, 2) := by decide +kernel
theorem md_B_tick_124 : decode mc_B_tick 124 = .ok (.iconst 5, 1) := by decide +kernel
theorem md_B_tick_125 : decode mc_B_tick 125 = .ok (.iastore, 1) := by decide +kernel
theorem md_B_tick_126 : decode mc_B_tick 126 = .ok (.aload_n 0, 1) := by decide +kernel
theorem md_B_tick_127 : decode mc_B_tick 127 = .ok (.getfield 59, 3) := by decide +kernel
theorem md_B_tick_130 : decode mc_B_tick 130 = .ok (.aload_n 0, 1) := by decide +kernel
theorem md_B_tick_131 : decode mc_B_tick 131 = .ok (.getfield 96, 3) := by decide +kernel
theorem md_B_tick_134 : decode mc_B_tick 134 = .ok (.iload 4, 2) := by decide +kernel
theorem md_B_tick_136 : decode mc_B_tick 136 = .ok (.iastore, 1) := by decide +kernel
theorem md_B_tick_137 : decode mc_B_tick 137 = .ok (.aload_n 0, 1) := by decide +kernel
theorem md_B_tick_138 : decode mc_B_tick 138 = .ok (.dup, 1) := by decide +kernel
theorem md_B_tick_139 : decode mc_B_tick 139 = .ok (.getfield 96, 3) := by decide +kernel
theorem md_B_tick_142 : decode mc_B_tick 142 = .ok (.iconst 1, 1) := by decide +kernel
theorem md_B_tick_143 : decode mc_B_tick 143 = .ok (.iadd, 1) := by decide +kernel
theorem md_B_tick_144 : decode mc_B_tick 144 = .ok (.putfield 96, 3) := by decide +kernel
theorem md_B_tick_147 : decode mc_B_tick 147 = .ok (.aload_n 0, 1) := by decide +kernel
theorem md_B_tick_148 : decode mc_B_tick 148 = .ok (.iconst 3, 1) := by decide +kernel
theorem md_B_tick_149 : decode mc_B_tick 149 = .ok (.iconst (-1), 1) := by decide +kernel
theorem md_B_tick_150 : decode mc_B_tick 150 = .ok (.aload_n 0, 1) := by decide +kernel
theorem md_B_tick_151 : decode mc_B_tick 151 = .ok (.getfield 93, 3) := by decide +kernel
theorem md_B_tick_154 : decode mc_B_tick 154 = .ok (.invokevirtual 105, 3) := by decide +kernel
theorem md_B_tick_157 : decode mc_B_tick 157 = .ok (.istore 4, 2) := by decide +kernel
theorem md_B_tick_159 : decode mc_B_tick 159 = .ok (.goto (-63), 3) := by decide +kernel
theorem md_B_tick_162 : decode mc_B_tick 162 = .ok (.aload_n 0, 1) := by decide +kernel
theorem md_B_tick_163 : decode mc_B_tick 163 = .ok (.getfield 96, 3) := by decide +kernel
theorem md_B_tick_166 : decode mc_B_tick 166 = .ok (.iload_n 2, 1) := by decide +kernel
theorem md_B_tick_167 : decode mc_B_tick 167 = .ok (.isub, 1) := by decide +kernel
theorem md_B_tick_168 : decode mc_B_tick 168 = .ok (.ireturn, 1) := by decide +kernel
theorem md_B_skip_0 : decode mc_B_skip 0 = .ok (.iload_n 1, 1) := by decide +kernel
theorem md_B_skip_1 : decode mc_B_skip 1 = .ok (.invokestatic 118, 3) := by decide +kernel
theorem md_B_skip_4 : decode mc_B_skip 4 = .ok (.ifCond .ne 9, 3) := by decide +kernel
theorem md_B_skip_7 : decode mc_B_skip 7 = .ok (.aload_n 0, 1) := by decide +kernel
theorem md_B_skip_8 : decode mc_B_skip 8 = .ok (.iconst 1, 1) := by decide +kernel
theorem md_B_skip_9 : decode mc_B_skip 9 = .ok (.invokevirtual 124, 3) := by decide +kernel
theorem md_B_skip_12 : decode mc_B_skip 12 = .ok (.ireturn, 1) := by decide +kernel
theorem md_B_skip_13 : decode mc_B_skip 13 = .ok (.aload_n 0, 1) := by decide +kernel
theorem md_B_skip_14 : decode mc_B_skip 14 = .ok (.iconst 0, 1) := by decide +kernel
theorem md_B_skip_15 : decode mc_B_skip 15 = .ok (.putfield 62, 3) := by decide +kernel
theorem md_B_skip_18 : decode mc_B_skip 18 = .ok (.aload_n 0, 1) := by decide +kernel
theorem md_B_skip_19 : decode mc_B_skip 19 = .ok (.iload_n 1, 1) := by decide +kernel
theorem md_B_skip_20 : decode mc_B_skip 20 = .ok (.invokevirtual 109, 3) := by decide +kernel
theorem md_B_skip_23 : decode mc_B_skip 23 = .ok (.istore_n 2, 1) := by decide +kernel
theorem md_B_skip_24 : decode mc_B_skip 24 = .ok (.iconst 0, 1) := by decide +kernel
theorem md_B_skip_25 : decode mc_B_skip 25 = .ok (.istore_n 3, 1) := by decide +kernel
theorem md_B_skip_26 : decode mc_B_skip 26 = .ok (.iload_n 2, 1) := by decide +kernel
theorem md_B_skip_27 : decode mc_B_skip 27 = .ok (.iconst 1, 1) := by decide +kernel
theorem md_B_skip_28 : decode mc_B_skip 28 = .ok (.iadd, 1) := by decide +kernel
theorem md_B_skip_29 : decode mc_B_skip 29 = .ok (.istore 4, 2) := by decide +kernel
theorem md_B_skip_31 : decode mc_B_skip 31 = .ok (.iload 4, 2) := by decide +kernel
theorem md_B_skip_33 : decode mc_B_skip 33 = .ok (.bipush 24, 2) := by decide +kernel
theorem md_B_skip_35 : decode mc_B_skip 35 = .ok (.if_icmp .gt 56, 3) := by decide +kernel
theorem md_B_skip_38 : decode mc_B_skip 38 = .ok (.bipush 24, 2) := by decide +kernel
theorem md_B_skip_40 : decode mc_B_skip 40 = .ok (.iload_n 1, 1) := by decide +kernel
theorem md_B_skip_41 : decode mc_B_skip 41 = .ok (.imul, 1) := by decide +kernel
theorem md_B_skip_42 : decode mc_B_skip 42 = .ok (.iload 4, 2) := by decide +kernel
theorem md_B_skip_44 : decode mc_B_skip 44 = .ok (.iadd, 1) := by decide +kernel
theorem md_B_skip_45 : decode mc_B_skip 45 = .ok (.iconst 1, 1) := by decide +kernel
theorem md_B_skip_46 : decode mc_B_skip 46 = .ok (.isub, 1) := by decide +kernel
theorem md_B_skip_47 : decode mc_B_skip 47 = .ok (.istore 5, 2) := by decide +kernel
theorem md_B_skip_49 : decode mc_B_skip 49 = .ok (.iload_n 3, 1) := by decide +kernel
theorem md_B_skip_50 : decode mc_B_skip 50 = .ok (.ifCond .ne 29, 3) := by decide +kernel
theorem md_B_skip_53 : decode mc_B_skip 53 = .ok (.aload_n 0, 1) := by decide +kernel
theorem md_B_skip_54 : decode mc_B_skip 54 = .ok (.iload 5, 2) := by decide +kernel
theorem md_B_skip_56 : decode mc_B_skip 56 = .ok (.invokevirtual 66, 3) := by decide +kernel
theorem md_B_skip_59 : decode mc_B_skip 59 = .ok (.ifCond .eq 24, 3) := by decide +kernel
theorem md_B_skip_62 : decode mc_B_skip 62 = .ok (.aload_n 0, 1) := by decide +kernel
theorem md_B_skip_63 : decode mc_B_skip 63 = .ok (.getfield 90, 3) := by decide +kernel
theorem md_B_skip_66 : decode mc_B_skip 66 = .ok (.aload_n 0, 1) := by decide +kernel
theorem md_B_skip_67 : decode mc_B_skip 67 = .ok (.getfield 41, 3) := by decide +kernel
theorem md_B_skip_70 : decode mc_B_skip 70 = .ok (.iload 5, 2) := by decide +kernel
theorem md_B_skip_72 : decode mc_B_skip 72 = .ok (.iaload, 1) := by decide +kernel
theorem md_B_skip_73 : decode mc_B_skip 73 = .ok (.isub, 1) := by decide +kernel
theorem md_B_skip_74 : decode mc_B_skip 74 = .ok (.bipush 100, 2) := by decide +kernel
theorem md_B_skip_76 : decode mc_B_skip 76 = .ok (.if_icmp .le 7, 3) := by decide +kernel
theorem md_B_skip_79 : decode mc_B_skip 79 = .ok (.iconst 1, 1) := by decide +kernel
theorem md_B_skip_80 : decode mc_B_skip 80 = .ok (.goto 4, 3) := by decide +kernel
theorem md_B_skip_83 : decode mc_B_skip 83 = .ok (.iconst 0, 1) := by decide +kernel
theorem md_B_skip_84 : decode mc_B_skip 84 = .ok (.istore_n 3, 1) := by decide +kernel
theorem md_B_skip_85 : decode mc_B_skip 85 = .ok (.iinc 4 1, 3) := by decide +kernel
theorem md_B_skip_88 : decode mc_B_skip 88 = .ok (.goto (-57), 3) := by decide +kernel
theorem md_B_skip_91 : decode mc_B_skip 91 = .ok (.iload_n 3, 1) := by decide +kernel
theorem md_B_skip_92 : decode mc_B_skip 92 = .ok (.ifCond .ne 5, 3) := by decide +kernel
theorem md_B_skip_95 : decode mc_B_skip 95 = .ok (.iconst (-1), 1) := by decide +kernel
theorem md_B_skip_96 : decode mc_B_skip 96 = .ok (.ireturn, 1) := by decide +kernel
theorem md_B_skip_97 : decode mc_B_skip 97 = .ok (.aload_n 0, 1) := by decide +kernel
theorem md_B_skip_98 : decode mc_B_skip 98 = .ok (.getfield 23, 3) := by decide +kernel
theorem md_B_skip_101 : decode mc_B_skip 101 = .ok (.bipush 24, 2) := by decide +kernel
theorem md_B_skip_103 : decode mc_B_skip 103 = .ok (.iload_n 1, 1) := by decide +kernel
theorem md_B_skip_104 : decode mc_B_skip 104 = .ok (.imul, 1) := by decide +kernel
theorem md_B_skip_105 : decode mc_B_skip 105 = .ok (.iload_n 2, 1) := by decide +kernel
theorem md_B_skip_106 : decode mc_B_skip 106 = .ok (.iadd, 1) := by decide +kernel
theorem md_B_skip_107 : decode mc_B_skip 107 = .ok (.iconst 1, 1) := by decide +kernel
theorem md_B_skip_108 : decode mc_B_skip 108 = .ok (.isub, 1) := by decide +kernel
theorem md_B_skip_109 : decode mc_B_skip 109 = .ok (.iconst 1, 1) := by decide +kernel
theorem md_B_skip_110 : decode mc_B_skip 110 = .ok (.bastore, 1) := by decide +kernel
theorem md_B_skip_111 : decode mc_B_skip 111 = .ok (.aload_n 0, 1) := by decide +kernel
theorem md_B_skip_112 : decode mc_B_skip 112 = .ok (.iload_n 1, 1) := by decide +kernel
theorem md_B_skip_113 : decode mc_B_skip 113 = .ok (.invokevirtual 115, 3) := by decide +kernel
theorem md_B_skip_116 : decode mc_B_skip 116 = .ok (.iload_n 2, 1) := by decide +kernel
theorem md_B_skip_117 : decode mc_B_skip 117 = .ok (.ireturn, 1) := by decide +kernel
theorem md_B_cut_0 : decode mc_B_cut 0 = .ok (.iload_n 1, 1) := by decide +kernel
theorem md_B_cut_1 : decode mc_B_cut 1 = .ok (.invokestatic 118, 3) := by decide +kernel
theorem md_B_cut_4 : decode mc_B_cut 4 = .ok (.ifCond .ne 9, 3) := by decide +kernel
theorem md_B_cut_7 : decode mc_B_cut 7 = .ok (.aload_n 0, 1) := by decide +kernel
theorem md_B_cut_8 : decode mc_B_cut 8 = .ok (.iconst 1, 1) := by decide +kernel
theorem md_B_cut_9 : decode mc_B_cut 9 = .ok (.invokevirtual 124, 3) := by decide +kernel
theorem md_B_cut_12 : decode mc_B_cut 12 = .ok (.ireturn, 1) := by decide +kernel
theorem md_B_cut_13 : decode mc_B_cut 13 = .ok (.aload_n 0, 1) := by decide +kernel
theorem md_B_cut_14 : decode mc_B_cut 14 = .ok (.iconst 0, 1) := by decide +kernel
theorem md_B_cut_15 : decode mc_B_cut 15 = .ok (.putfield 62, 3) := by decide +kernel
theorem md_B_cut_18 : decode mc_B_cut 18 = .ok (.iconst 0, 1) := by decide +kernel
theorem md_B_cut_19 : decode mc_B_cut 19 = .ok (.istore_n 2, 1) := by decide +kernel
theorem md_B_cut_20 : decode mc_B_cut 20 = .ok (.bipush 24, 2) := by decide +kernel
theorem md_B_cut_22 : decode mc_B_cut 22 = .ok (.iload_n 1, 1) := by decide +kernel
theorem md_B_cut_23 : decode mc_B_cut 23 = .ok (.imul, 1) := by decide +kernel
theorem md_B_cut_24 : decode mc_B_cut 24 = .ok (.istore_n 3, 1) := by decide +kernel
theorem md_B_cut_25 : decode mc_B_cut 25 = .ok (.iload_n 3, 1) := by decide +kernel
theorem md_B_cut_26 : decode mc_B_cut 26 = .ok (.bipush 24, 2) := by decide +kernel
theorem md_B_cut_28 : decode mc_B_cut 28 = .ok (.iload_n 1, 1) := by decide +kernel
theorem md_B_cut_29 : decode mc_B_cut 29 = .ok (.imul, 1) := by decide +kernel
theorem md_B_cut_30 : decode mc_B_cut 30 = .ok (.bipush 24, 2) := by decide +kernel
theorem md_B_cut_32 : decode mc_B_cut 32 = .ok (.iadd, 1) := by decide +kernel
theorem md_B_cut_33 : decode mc_B_cut 33 = .ok (.if_icmp .ge 38, 3) := by decide +kernel
theorem md_B_cut_36 : decode mc_B_cut 36 = .ok (.aload_n 0, 1) := by decide +kernel
theorem md_B_cut_37 : decode mc_B_cut 37 = .ok (.getfield 19, 3) := by decide +kernel
theorem md_B_cut_40 : decode mc_B_cut 40 = .ok (.iload_n 3, 1) := by decide +kernel
theorem md_B_cut_41 : decode mc_B_cut 41 = .ok (.baload, 1) := by decide +kernel
theorem md_B_cut_42 : decode mc_B_cut 42 = .ok (.ifCond .eq 23, 3) := by decide +kernel
theorem md_B_cut_45 : decode mc_B_cut 45 = .ok (.aload_n 0, 1) := by decide +kernel
theorem md_B_cut_46 : decode mc_B_cut 46 = .ok (.getfield 35, 3) := by decide +kernel
theorem md_B_cut_49 : decode mc_B_cut 49 = .ok (.iload_n 3, 1) := by decide +kernel
theorem md_B_cut_50 : decode mc_B_cut 50 = .ok (.iaload, 1) := by decide +kernel
theorem md_B_cut_51 : decode mc_B_cut 51 = .ok (.ifCond .ne 14, 3) := by decide +kernel
theorem md_B_cut_54 : decode mc_B_cut 54 = .ok (.aload_n 0, 1) := by decide +kernel
theorem md_B_cut_55 : decode mc_B_cut 55 = .ok (.getfield 35, 3) := by decide +kernel
theorem md_B_cut_58 : decode mc_B_cut 58 = .ok (.iload_n 3, 1) := by decide +kernel
theorem md_B_cut_59 : decode mc_B_cut 59 = .ok (.bipush 6, 2) := by decide +kernel
theorem md_B_cut_61 : decode mc_B_cut 61 = .ok (.iastore, 1) := by decide +kernel
theorem md_B_cut_62 : decode mc_B_cut 62 = .ok (.iinc 2 1, 3) := by decide +kernel
theorem md_B_cut_65 : decode mc_B_cut 65 = .ok (.iinc 3 1, 3) := by decide +kernel
theorem md_B_cut_68 : decode mc_B_cut 68 = .ok (.goto (-43), 3) := by decide +kernel
theorem md_B_cut_71 : decode mc_B_cut 71 = .ok (.iload_n 2, 1) := by decide +kernel
theorem md_B_cut_72 : decode mc_B_cut 72 = .ok (.ireturn, 1) := by decide +kernel
theorem md_B_replay_0 : decode mc_B_replay 0 = .ok (.iload_n 1, 1) := by decide +kernel
theorem md_B_replay_1 : decode mc_B_replay 1 = .ok (.invokestatic 118, 3) := by decide +kernel
theorem md_B_replay_4 : decode mc_B_replay 4 = .ok (.ifCond .eq 10, 3) := by decide +kernel
theorem md_B_replay_7 : decode mc_B_replay 7 = .ok (.iload_n 2, 1) := by decide +kernel
theorem md_B_replay_8 : decode mc_B_replay 8 = .ok (.invokestatic 121, 3) := by decide +kernel
theorem md_B_replay_11 : decode mc_B_replay 11 = .ok (.ifCond .ne 9, 3) := by decide +kernel
theorem md_B_replay_14 : decode mc_B_replay 14 = .ok (.aload_n 0, 1) := by decide +kernel
theorem md_B_replay_15 : decode mc_B_replay 15 = .ok (.iconst 1, 1) := by decide +kernel
theorem md_B_replay_16 : decode mc_B_replay 16 = .ok (.invokevirtual 124, 3) := by decide +kernel
theorem md_B_replay_19 : decode mc_B_replay 19 = .ok (.ireturn, 1) := by decide +kernel
theorem md_B_replay_20 : decode mc_B_replay 20 = .ok (.aload_n 0, 1) := by decide +kernel
theorem md_B_replay_21 : decode mc_B_replay 21 = .ok (.iconst 0, 1) := by decide +kernel
theorem md_B_replay_22 : decode mc_B_replay 22 = .ok (.putfield 62, 3) := by decide +kernel
theorem md_B_replay_25 : decode mc_B_replay 25 = .ok (.iconst 0, 1) := by decide +kernel
theorem md_B_replay_26 : decode mc_B_replay 26 = .ok (.istore_n 3, 1) := by decide +kernel
theorem md_B_replay_27 : decode mc_B_replay 27 = .ok (.iload_n 2, 1) := by decide +kernel
theorem md_B_replay_28 : decode mc_B_replay 28 = .ok (.istore 4, 2) := by decide +kernel
theorem md_B_replay_30 : decode mc_B_replay 30 = .ok (.iload 4, 2) := by decide +kernel
theorem md_B_replay_32 : decode mc_B_replay 32 = .ok (.bipush 24, 2) := by decide +kernel
theorem md_B_replay_34 : decode mc_B_replay 34 = .ok (.if_icmp .gt 75, 3) := by decide +kernel
theorem md_B_replay_37 : decode mc_B_replay 37 = .ok (.bipush 24, 2) := by decide +kernel
theorem md_B_replay_39 : decode mc_B_replay 39 = .ok (.iload_n 1, 1) := by decide +kernel
theorem md_B_replay_40 : decode mc_B_replay 40 = .ok (.imul, 1) := by decide +kernel
theorem md_B_replay_41 : decode mc_B_replay 41 = .ok (.iload 4, 2) := by decide +kernel
theorem md_B_replay_43 : decode mc_B_replay 43 = .ok (.iadd, 1) := by decide +kernel
theorem md_B_replay_44 : decode mc_B_replay 44 = .ok (.iconst 1, 1) := by decide +kernel
theorem md_B_replay_45 : decode mc_B_replay 45 = .ok (.isub, 1) := by decide +kernel
theorem md_B_replay_46 : decode mc_B_replay 46 = .ok (.istore 5, 2) := by decide +kernel
theorem md_B_replay_48 : decode mc_B_replay 48 = .ok (.aload_n 0, 1) := by decide +kernel
theorem md_B_replay_49 : decode mc_B_replay 49 = .ok (.getfield 19, 3) := by decide +kernel
theorem md_B_replay_52 : decode mc_B_replay 52 = .ok (.iload 5, 2) := by decide +kernel
theorem md_B_replay_54 : decode mc_B_replay 54 = .ok (.baload, 1) := by decide +kernel
theorem md_B_replay_55 : decode mc_B_replay 55 = .ok (.ifCond .eq 48, 3) := by decide +kernel
theorem md_B_replay_58 : decode mc_B_replay 58 = .ok (.aload_n 0, 1) := by decide +kernel
theorem md_B_replay_59 : decode mc_B_replay 59 = .ok (.getfield 35, 3) := by decide +kernel
theorem md_B_replay_62 : decode mc_B_replay 62 = .ok (.iload 5, 2) := by decide +kernel
theorem md_B_replay_64 : decode mc_B_replay 64 = .ok (.iaload, 1) := by decide +kernel
theorem md_B_replay_65 : decode mc_B_replay 65 = .ok (.bipush 6, 2) := by decide +kernel
theorem md_B_replay_67 : decode mc_B_replay 67 = .ok (.if_icmp .ne 36, 3) := by decide +kernel
theorem md_B_replay_70 : decode mc_B_replay 70 = .ok (.aload_n 0, 1) := by decide +kernel
theorem md_B_replay_71 : decode mc_B_replay 71 = .ok (.getfield 23, 3) := by decide +kernel
theorem md_B_replay_74 : decode mc_B_replay 74 = .ok (.iload 5, 2) := by decide +kernel
theorem md_B_replay_76 : decode mc_B_replay 76 = .ok (.baload, 1) := by decide +kernel
theorem md_B_replay_77 : decode mc_B_replay 77 = .ok (.ifCond .ne 26, 3) := by decide +kernel
theorem md_B_replay_80 : decode mc_B_replay 80 = .ok (.aload_n 0, 1) := by decide +kernel
theorem md_B_replay_81 : decode mc_B_replay 81 = .ok (.iload 5, 2) := by decide +kernel
theorem md_B_replay_83 : decode mc_B_replay 83 = .ok (.invokevirtual 130, 3) := by decide +kernel
theorem md_B_replay_86 : decode mc_B_replay 86 = .ok (.istore 6, 2) := by decide +kernel
theorem md_B_replay_88 : decode mc_B_replay 88 = .ok (.iload_n 3, 1) := by decide +kernel
theorem md_B_replay_89 : decode mc_B_replay 89 = .ok (.iload 6, 2) := by decide +kernel
theorem md_B_replay_91 : decode mc_B_replay 91 = .ok (.bipush 6, 2) := by decide +kernel
theorem md_B_replay_93 : decode mc_B_replay 93 = .ok (.if_icmp .ge 7, 3) := by decide +kernel
theorem md_B_replay_96 : decode mc_B_replay 96 = .ok (.iconst 1, 1) := by decide +kernel
theorem md_B_replay_97 : decode mc_B_replay 97 = .ok (.goto 4, 3) := by decide +kernel
theorem md_B_replay_100 : decode mc_B_replay 100 = .ok (.iconst 0, 1) := by decide +kernel
theorem md_B_replay_101 : decode mc_B_replay 101 = .ok (.iadd, 1) := by decide +kernel
theorem md_B_replay_102 : decode mc_B_replay 102 = .ok (.istore_n 3, 1) := by decide +kernel
theorem md_B_replay_103 : decode mc_B_replay 103 = .ok (.iinc 4 1, 3) := by decide +kernel
theorem md_B_replay_106 : decode mc_B_replay 106 = .ok (.goto (-76), 3) := by decide +kernel
theorem md_B_replay_109 : decode mc_B_replay 109 = .ok (.iload_n 3, 1) := by decide +kernel
theorem md_B_replay_110 : decode mc_B_replay 110 = .ok (.ireturn, 1) := by decide +kernel
theorem md_B_look_0 : decode mc_B_look 0 = .ok (.iload_n 1, 1) := by decide +kernel
theorem md_B_look_1 : decode mc_B_look 1 = .ok (.iconst 0, 1) := by decide +kernel
theorem md_B_look_2 : decode mc_B_look 2 = .ok (.bipush 15, 2) := by decide +kernel
theorem md_B_look_4 : decode mc_B_look 4 = .ok (.invokestatic 76, 3) := by decide +kernel
theorem md_B_look_7 : decode mc_B_look 7 = .ok (.ifCond .eq 12, 3) := by decide +kernel
theorem md_B_look_10 : decode mc_B_look 10 = .ok (.iload_n 2, 1) := by decide +kernel
theorem md_B_look_11 : decode mc_B_look 11 = .ok (.iconst 0, 1) := by decide +kernel
theorem md_B_look_12 : decode mc_B_look 12 = .ok (.iconst 3, 1) := by decide +kernel
theorem md_B_look_13 : decode mc_B_look 13 = .ok (.invokestatic 76, 3) := by decide +kernel
theorem md_B_look_16 : decode mc_B_look 16 = .ok (.ifCond .ne 9, 3) := by decide +kernel
theorem md_B_look_19 : decode mc_B_look 19 = .ok (.aload_n 0, 1) := by decide +kernel
theorem md_B_look_20 : decode mc_B_look 20 = .ok (.iconst 1, 1) := by decide +kernel
theorem md_B_look_21 : decode mc_B_look 21 = .ok (.invokevirtual 124, 3) := by decide +kernel
theorem md_B_look_24 : decode mc_B_look 24 = .ok (.ireturn, 1) := by decide +kernel
theorem md_B_look_25 : decode mc_B_look 25 = .ok (.aload_n 0, 1) := by decide +kernel
theorem md_B_look_26 : decode mc_B_look 26 = .ok (.iconst 0, 1) := by decide +kernel
theorem md_B_look_27 : decode mc_B_look 27 = .ok (.putfield 62, 3) := by decide +kernel
theorem md_B_look_30 : decode mc_B_look 30 = .ok (.iconst 0, 1) := by decide +kernel
theorem md_B_look_31 : decode mc_B_look 31 = .ok (.istore_n 3, 1) := by decide +kernel
theorem md_B_look_32 : decode mc_B_look 32 = .ok (.iconst 0, 1) := by decide +kernel
theorem md_B_look_33 : decode mc_B_look 33 = .ok (.istore 4, 2) := by decide +kernel
theorem md_B_look_35 : decode mc_B_look 35 = .ok (.iload 4, 2) := by decide +kernel
theorem md_B_look_37 : decode mc_B_look 37 = .ok (.bipush 96, 2) := by decide +kernel
theorem md_B_look_39 : decode mc_B_look 39 = .ok (.if_icmp .ge 49, 3) := by decide +kernel
theorem md_B_look_42 : decode mc_B_look 42 = .ok (.iload_n 3, 1) := by decide +kernel
theorem md_B_look_43 : decode mc_B_look 43 = .ok (.aload_n 0, 1) := by decide +kernel
theorem md_B_look_44 : decode mc_B_look 44 = .ok (.getfield 19, 3) := by decide +kernel
theorem md_B_look_47 : decode mc_B_look 47 = .ok (.iload 4, 2) := by decide +kernel
theorem md_B_look_49 : decode mc_B_look 49 = .ok (.baload, 1) := by decide +kernel
theorem md_B_look_50 : decode mc_B_look 50 = .ok (.ifCond .eq 29, 3) := by decide +kernel
theorem md_B_look_53 : decode mc_B_look 53 = .ok (.aload_n 0, 1) := by decide +kernel
theorem md_B_look_54 : decode mc_B_look 54 = .ok (.getfield 35, 3) := by decide +kernel
theorem md_B_look_57 : decode mc_B_look 57 = .ok (.iload 4, 2) := by decide +kernel
theorem md_B_look_59 : decode mc_B_look 59 = .ok (.iaload, 1) := by decide +kernel
theorem md_B_look_60 : decode mc_B_look 60 = .ok (.iconst 3, 1) := by decide +kernel
theorem md_B_look_61 : decode mc_B_look 61 = .ok (.if_icmp .ne 18, 3) := by decide +kernel
theorem md_B_look_64 : decode mc_B_look 64 = .ok (.aload_n 0, 1) := by decide +kernel
theorem md_B_look_65 : decode mc_B_look 65 = .ok (.getfield 29, 3) := by decide +kernel
theorem md_B_look_68 : decode mc_B_look 68 = .ok (.iload 4, 2) := by decide +kernel
theorem md_B_look_70 : decode mc_B_look 70 = .ok (.iaload, 1) := by decide +kernel
theorem md_B_look_71 : decode mc_B_look 71 = .ok (.iload_n 1, 1) := by decide +kernel
theorem md_B_look_72 : decode mc_B_look 72 = .ok (.if_icmp .ne 7, 3) := by decide +kernel
theorem md_B_look_75 : decode mc_B_look 75 = .ok (.iconst 1, 1) := by decide +kernel
theorem md_B_look_76 : decode mc_B_look 76 = .ok (.goto 4, 3) := by decide +kernel
theorem md_B_look_79 : decode mc_B_look 79 = .ok (.iconst 0, 1) := by decide +kernel
theorem md_B_look_80 : decode mc_B_look 80 = .ok (.iadd, 1) := by decide +kernel
theorem md_B_look_81 : decode mc_B_look 81 = .ok (.istore_n 3, 1) := by decide +kernel
theorem md_B_look_82 : decode mc_B_look 82 = .ok (.iinc 4 1, 3) := by decide +kernel
theorem md_B_look_85 : decode mc_B_look 85 = .ok (.goto (-50), 3) := by decide +kernel
theorem md_B_look_88 : decode mc_B_look 88 = .ok (.iload_n 2, 1) := by decide +kernel
theorem md_B_look_89 : decode mc_B_look 89 = .ok (.ifCond .ne 12, 3) := by decide +kernel
theorem md_B_look_92 : decode mc_B_look 92 = .ok (.aload_n 0, 1) := by decide +kernel
theorem md_B_look_93 : decode mc_B_look 93 = .ok (.getfield 7, 3) := by decide +kernel
theorem md_B_look_96 : decode mc_B_look 96 = .ok (.iload_n 1, 1) := by decide +kernel
theorem md_B_look_97 : decode mc_B_look 97 = .ok (.iaload, 1) := by decide +kernel
theorem md_B_look_98 : decode mc_B_look 98 = .ok (.goto 32, 3) := by decide +kernel
theorem md_B_look_101 : decode mc_B_look 101 = .ok (.iload_n 2, 1) := by decide +kernel
theorem md_B_look_102 : decode mc_B_look 102 = .ok (.iconst 1, 1) := by decide +kernel
theorem md_B_look_103 : decode mc_B_look 103 = .ok (.if_icmp .ne 12, 3) := by decide +kernel
theorem md_B_look_106 : decode mc_B_look 106 = .ok (.aload_n 0, 1) := by decide +kernel
theorem md_B_look_107 : decode mc_B_look 107 = .ok (.getfield 13, 3) := by decide +kernel
theorem md_B_look_110 : decode mc_B_look 110 = .ok (.iload_n 1, 1) := by decide +kernel
theorem md_B_look_111 : decode mc_B_look 111 = .ok (.iaload, 1) := by decide +kernel
theorem md_B_look_112 : decode mc_B_look 112 = .ok (.goto 18, 3) := by decide +kernel
theorem md_B_look_115 : decode mc_B_look 115 = .ok (.iload_n 2, 1) := by decide +kernel
theorem md_B_look_116 : decode mc_B_look 116 = .ok (.iconst 2, 1) := by decide +kernel
theorem md_B_look_117 : decode mc_B_look 117 = .ok (.if_icmp .ne 12, 3) := by decide +kernel
theorem md_B_look_120 : decode mc_B_look 120 = .ok (.aload_n 0, 1) := by decide +kernel
theorem md_B_look_121 : decode mc_B_look 121 = .ok (.getfield 16, 3) := by decide +kernel
theorem md_B_look_124 : decode mc_B_look 124 = .ok (.iload_n 1, 1) := by decide +kernel
theorem md_B_look_125 : decode mc_B_look 125 = .ok (.iaload, 1) := by decide +kernel
theorem md_B_look_126 : decode mc_B_look 126 = .ok (.goto 4, 3) := by decide +kernel
theorem md_B_look_129 : decode mc_B_look 129 = .ok (.iload_n 3, 1) := by decide +kernel
theorem md_B_look_130 : decode mc_B_look 130 = .ok (.ireturn, 1) := by decide +kernel
theorem md_B_name_0 : decode mc_B_name 0 = .ok (.sipush 1000, 3) := by decide +kernel
theorem md_B_name_3 : decode mc_B_name 3 = .ok (.iload_n 0, 1) := by decide +kernel
theorem md_B_name_4 : decode mc_B_name 4 = .ok (.bipush 24, 2) := by decide +kernel
theorem md_B_name_6 : decode mc_B_name 6 = .ok (.idiv, 1) := by decide +kernel
theorem md_B_name_7 : decode mc_B_name 7 = .ok (.imul, 1) := by decide +kernel
theorem md_B_name_8 : decode mc_B_name 8 = .ok (.iload_n 0, 1) := by decide +kernel
theorem md_B_name_9 : decode mc_B_name 9 = .ok (.bipush 24, 2) := by decide +kernel
theorem md_B_name_11 : decode mc_B_name 11 = .ok (.irem, 1) := by decide +kernel
theorem md_B_name_12 : decode mc_B_name 12 = .ok (.iadd, 1) := by decide +kernel
theorem md_B_name_13 : decode mc_B_name 13 = .ok (.iconst 1, 1) := by decide +kernel
theorem md_B_name_14 : decode mc_B_name 14 = .ok (.iadd, 1) := by decide +kernel
theorem md_B_name_15 : decode mc_B_name 15 = .ok (.ireturn, 1) := by decide +kernel
theorem md_B_act_0 : decode mc_B_act 0 = .ok (.aload_n 0, 1) := by decide +kernel
theorem md_B_act_1 : decode mc_B_act 1 = .ok (.iconst 0, 1) := by decide +kernel
theorem md_B_act_2 : decode mc_B_act 2 = .ok (.putfield 62, 3) := by decide +kernel
theorem md_B_act_5 : decode mc_B_act 5 = .ok (.iload_n 1, 1) := by decide +kernel
theorem md_B_act_6 : decode mc_B_act 6 = .ok (.ifCond .lt 23, 3) := by decide +kernel
theorem md_B_act_9 : decode mc_B_act 9 = .ok (.iload_n 1, 1) := by decide +kernel
theorem md_B_act_10 : decode mc_B_act 10 = .ok (.aload_n 0, 1) := by decide +kernel
theorem md_B_act_11 : decode mc_B_act 11 = .ok (.getfield 80, 3) := by decide +kernel
theorem md_B_act_14 : decode mc_B_act 14 = .ok (.if_icmp .ge 15, 3) := by decide +kernel
theorem md_B_act_17 : decode mc_B_act 17 = .ok (.aload_n 0, 1) := by decide +kernel
theorem md_B_act_18 : decode mc_B_act 18 = .ok (.getfield 56, 3) := by decide +kernel
theorem md_B_act_21 : decode mc_B_act 21 = .ok (.iload_n 1, 1) := by decide +kernel
theorem md_B_act_22 : decode mc_B_act 22 = .ok (.iaload, 1) := by decide +kernel
theorem md_B_act_23 : decode mc_B_act 23 = .ok (.invokestatic 138, 3) := by decide +kernel
theorem md_B_act_26 : decode mc_B_act 26 = .ok (.goto 4, 3) := by decide +kernel
theorem md_B_act_29 : decode mc_B_act 29 = .ok (.iconst (-1), 1) := by decide +kernel
theorem md_B_act_30 : decode mc_B_act 30 = .ok (.ireturn, 1) := by decide +kernel
theorem md_B_dead_0 : decode mc_B_dead 0 = .ok (.aload_n 0, 1) := by decide +kernel
theorem md_B_dead_1 : decode mc_B_dead 1 = .ok (.iconst 0, 1) := by decide +kernel
theorem md_B_dead_2 : decode mc_B_dead 2 = .ok (.putfield 62, 3) := by decide +kernel
theorem md_B_dead_5 : decode mc_B_dead 5 = .ok (.iload_n 1, 1) := by decide +kernel
theorem md_B_dead_6 : decode mc_B_dead 6 = .ok (.ifCond .lt 23, 3) := by decide +kernel
theorem md_B_dead_9 : decode mc_B_dead 9 = .ok (.iload_n 1, 1) := by decide +kernel
theorem md_B_dead_10 : decode mc_B_dead 10 = .ok (.aload_n 0, 1) := by decide +kernel
theorem md_B_dead_11 : decode mc_B_dead 11 = .ok (.getfield 96, 3) := by decide +kernel
theorem md_B_dead_14 : decode mc_B_dead 14 = .ok (.if_icmp .ge 15, 3) := by decide +kernel
theorem md_B_dead_17 : decode mc_B_dead 17 = .ok (.aload_n 0, 1) := by decide +kernel
theorem md_B_dead_18 : decode mc_B_dead 18 = .ok (.getfield 59, 3) := by decide +kernel
theorem md_B_dead_21 : decode mc_B_dead 21 = .ok (.iload_n 1, 1) := by decide +kernel
theorem md_B_dead_22 : decode mc_B_dead 22 = .ok (.iaload, 1) := by decide +kernel
theorem md_B_dead_23 : decode mc_B_dead 23 = .ok (.invokestatic 138, 3) := by decide +kernel
theorem md_B_dead_26 : decode mc_B_dead 26 = .ok (.goto 4, 3) := by decide +kernel
theorem md_B_dead_29 : decode mc_B_dead 29 = .ok (.iconst (-1), 1) := by decide +kernel
theorem md_B_dead_30 : decode mc_B_dead 30 = .ok (.ireturn, 1) := by decide +kernel
theorem md_B_of_0 : decode mc_B_of 0 = .ok (.aload_n 0, 1) := by decide +kernel
theorem md_B_of_1 : decode mc_B_of 1 = .ok (.iconst 0, 1) := by decide +kernel
theorem md_B_of_2 : decode mc_B_of 2 = .ok (.putfield 62, 3) := by decide +kernel
theorem md_B_of_5 : decode mc_B_of 5 = .ok (.iload_n 1, 1) := by decide +kernel
theorem md_B_of_6 : decode mc_B_of 6 = .ok (.invokestatic 118, 3) := by decide +kernel
theorem md_B_of_9 : decode mc_B_of 9 = .ok (.ifCond .eq 12, 3) := by decide +kernel
theorem md_B_of_12 : decode mc_B_of 12 = .ok (.iload_n 2, 1) := by decide +kernel
theorem md_B_of_13 : decode mc_B_of 13 = .ok (.iconst 0, 1) := by decide +kernel
theorem md_B_of_14 : decode mc_B_of 14 = .ok (.iconst 3, 1) := by decide +kernel
theorem md_B_of_15 : decode mc_B_of 15 = .ok (.invokestatic 76, 3) := by decide +kernel
theorem md_B_of_18 : decode mc_B_of 18 = .ok (.ifCond .ne 5, 3) := by decide +kernel
theorem md_B_of_21 : decode mc_B_of 21 = .ok (.iconst (-1), 1) := by decide +kernel
theorem md_B_of_22 : decode mc_B_of 22 = .ok (.ireturn, 1) := by decide +kernel
theorem md_B_of_23 : decode mc_B_of 23 = .ok (.iconst 0, 1) := by decide +kernel
theorem md_B_of_24 : decode mc_B_of 24 = .ok (.istore_n 3, 1) := by decide +kernel
theorem md_B_of_25 : decode mc_B_of 25 = .ok (.iconst 0, 1) := by decide +kernel
theorem md_B_of_26 : decode mc_B_of 26 = .ok (.istore 4, 2) := by decide +kernel
theorem md_B_of_28 : decode mc_B_of 28 = .ok (.iconst 0, 1) := by decide +kernel
theorem md_B_of_29 : decode mc_B_of 29 = .ok (.istore 5, 2) := by decide +kernel
theorem md_B_of_31 : decode mc_B_of 31 = .ok (.iconst 1, 1) := by decide +kernel
theorem md_B_of_32 : decode mc_B_of 32 = .ok (.istore 6, 2) := by decide +kernel
theorem md_B_of_34 : decode mc_B_of 34 = .ok (.iload 6, 2) := by decide +kernel
theorem md_B_of_36 : decode mc_B_of 36 = .ok (.bipush 24, 2) := by decide +kernel
theorem md_B_of_38 : decode mc_B_of 38 = .ok (.if_icmp .gt 98, 3) := by decide +kernel
theorem md_B_of_41 : decode mc_B_of 41 = .ok (.bipush 24, 2) := by decide +kernel
theorem md_B_of_43 : decode mc_B_of 43 = .ok (.iload_n 1, 1) := by decide +kernel
theorem md_B_of_44 : decode mc_B_of 44 = .ok (.imul, 1) := by decide +kernel
theorem md_B_of_45 : decode mc_B_of 45 = .ok (.iload 6, 2) := by decide +kernel
theorem md_B_of_47 : decode mc_B_of 47 = .ok (.iadd, 1) := by decide +kernel
theorem md_B_of_48 : decode mc_B_of 48 = .ok (.iconst 1, 1) := by decide +kernel
theorem md_B_of_49 : decode mc_B_of 49 = .ok (.isub, 1) := by decide +kernel
theorem md_B_of_50 : decode mc_B_of 50 = .ok (.istore 7, 2) := by decide +kernel
theorem md_B_of_52 : decode mc_B_of 52 = .ok (.iload_n 3, 1) := by decide +kernel
theorem md_B_of_53 : decode mc_B_of 53 = .ok (.aload_n 0, 1) := by decide +kernel
theorem md_B_of_54 : decode mc_B_of 54 = .ok (.getfield 19, 3) := by decide +kernel
theorem md_B_of_57 : decode mc_B_of 57 = .ok (.iload 7, 2) := by decide +kernel
theorem md_B_of_59 : decode mc_B_of 59 = .ok (.baload, 1) := by decide +kernel
theorem md_B_of_60 : decode mc_B_of 60 = .ok (.ifCond .eq 17, 3) := by decide +kernel
theorem md_B_of_63 : decode mc_B_of 63 = .ok (.aload_n 0, 1) := by decide +kernel
theorem md_B_of_64 : decode mc_B_of 64 = .ok (.getfield 35, 3) := by decide +kernel
theorem md_B_of_67 : decode mc_B_of 67 = .ok (.iload 7, 2) := by decide +kernel
theorem md_B_of_69 : decode mc_B_of 69 = .ok (.iaload, 1) := by decide +kernel
theorem md_B_of_70 : decode mc_B_of 70 = .ok (.ifCond .ne 7, 3) := by decide +kernel
theorem md_B_of_73 : decode mc_B_of 73 = .ok (.iconst 1, 1) := by decide +kernel
theorem md_B_of_74 : decode mc_B_of 74 = .ok (.goto 4, 3) := by decide +kernel
theorem md_B_of_77 : decode mc_B_of 77 = .ok (.iconst 0, 1) := by decide +kernel
theorem md_B_of_78 : decode mc_B_of 78 = .ok (.iadd, 1) := by decide +kernel
theorem md_B_of_79 : decode mc_B_of 79 = .ok (.istore_n 3, 1) := by decide +kernel
theorem md_B_of_80 : decode mc_B_of 80 = .ok (.iload 4, 2) := by decide +kernel
theorem md_B_of_82 : decode mc_B_of 82 = .ok (.aload_n 0, 1) := by decide +kernel
theorem md_B_of_83 : decode mc_B_of 83 = .ok (.getfield 19, 3) := by decide +kernel
theorem md_B_of_86 : decode mc_B_of 86 = .ok (.iload 7, 2) := by decide +kernel
theorem md_B_of_88 : decode mc_B_of 88 = .ok (.baload, 1) := by decide +kernel
theorem md_B_of_89 : decode mc_B_of 89 = .ok (.ifCond .eq 19, 3) := by decide +kernel
theorem md_B_of_92 : decode mc_B_of 92 = .ok (.aload_n 0, 1) := by decide +kernel
theorem md_B_of_93 : decode mc_B_of 93 = .ok (.getfield 35, 3) := by decide +kernel
theorem md_B_of_96 : decode mc_B_of 96 = .ok (.iload 7, 2) := by decide +kernel
theorem md_B_of_98 : decode mc_B_of 98 = .ok (.iaload, 1) := by decide +kernel
theorem md_B_of_99 : decode mc_B_of 99 = .ok (.bipush 6, 2) := by decide +kernel
theorem md_B_of_101 : decode mc_B_of 101 = .ok (.if_icmp .ne 7, 3) := by decide +kernel
theorem md_B_of_104 : decode mc_B_of 104 = .ok (.iconst 1, 1) := by decide +kernel
theorem md_B_of_105 : decode mc_B_of 105 = .ok (.goto 4, 3) := by decide +kernel
theorem md_B_of_108 : decode mc_B_of 108 = .ok (.iconst 0, 1) := by decide +kernel
theorem md_B_of_109 : decode mc_B_of 109 = .ok (.iadd, 1) := by decide +kernel
theorem md_B_of_110 : decode mc_B_of 110 = .ok (.istore 4, 2) := by decide +kernel
theorem md_B_of_112 : decode mc_B_of 112 = .ok (.aload_n 0, 1) := by decide +kernel
theorem md_B_of_113 : decode mc_B_of 113 = .ok (.iload 7, 2) := by decide +kernel
theorem md_B_of_115 : decode mc_B_of 115 = .ok (.invokevirtual 66, 3) := by decide +kernel
theorem md_B_of_118 : decode mc_B_of 118 = .ok (.ifCond .eq 8, 3) := by decide +kernel
theorem md_B_of_121 : decode mc_B_of 121 = .ok (.iload 6, 2) := by decide +kernel
theorem md_B_of_123 : decode mc_B_of 123 = .ok (.goto 5, 3) := by decide +kernel
theorem md_B_of_126 : decode mc_B_of 126 = .ok (.iload 5, 2) := by decide +kernel
theorem md_B_of_128 : decode mc_B_of 128 = .ok (.istore 5, 2) := by decide +kernel
theorem md_B_of_130 : decode mc_B_of 130 = .ok (.iinc 6 1, 3) := by decide +kernel
theorem md_B_of_133 : decode mc_B_of 133 = .ok (.goto (-99), 3) := by decide +kernel
theorem md_B_of_136 : decode mc_B_of 136 = .ok (.iload_n 2, 1) := by decide +kernel
theorem md_B_of_137 : decode mc_B_of 137 = .ok (.ifCond .ne 11, 3) := by decide +kernel
theorem md_B_of_140 : decode mc_B_of 140 = .ok (.aload_n 0, 1) := by decide +kernel
theorem md_B_of_141 : decode mc_B_of 141 = .ok (.iload_n 1, 1) := by decide +kernel
theorem md_B_of_142 : decode mc_B_of 142 = .ok (.invokevirtual 109, 3) := by decide +kernel
theorem md_B_of_145 : decode mc_B_of 145 = .ok (.goto 24, 3) := by decide +kernel
theorem md_B_of_148 : decode mc_B_of 148 = .ok (.iload_n 2, 1) := by decide +kernel
theorem md_B_of_149 : decode mc_B_of 149 = .ok (.iconst 1, 1) := by decide +kernel
theorem md_B_of_150 : decode mc_B_of 150 = .ok (.if_icmp .ne 7, 3) := by decide +kernel
theorem md_B_of_153 : decode mc_B_of 153 = .ok (.iload_n 3, 1) := by decide +kernel
theorem md_B_of_154 : decode mc_B_of 154 = .ok (.goto 15, 3) := by decide +kernel
theorem md_B_of_157 : decode mc_B_of 157 = .ok (.iload_n 2, 1) := by decide +kernel
theorem md_B_of_158 : decode mc_B_of 158 = .ok (.iconst 2, 1) := by decide +kernel
theorem md_B_of_159 : decode mc_B_of 159 = .ok (.if_icmp .ne 8, 3) := by decide +kernel
theorem md_B_of_162 : decode mc_B_of 162 = .ok (.iload 4, 2) := by decide +kernel
theorem md_B_of_164 : decode mc_B_of 164 = .ok (.goto 5, 3) := by decide +kernel
theorem md_B_of_167 : decode mc_B_of 167 = .ok (.iload 5, 2) := by decide +kernel
theorem md_B_of_169 : decode mc_B_of 169 = .ok (.ireturn, 1) := by decide +kernel
theorem md_B_count_0 : decode mc_B_count 0 = .ok (.aload_n 0, 1) := by decide +kernel
theorem md_B_count_1 : decode mc_B_count 1 = .ok (.iconst 0, 1) := by decide +kernel
theorem md_B_count_2 : decode mc_B_count 2 = .ok (.putfield 62, 3) := by decide +kernel
theorem md_B_count_5 : decode mc_B_count 5 = .ok (.iload_n 1, 1) := by decide +kernel
theorem md_B_count_6 : decode mc_B_count 6 = .ok (.tableswitch 70 0 5 #[38, 43, 48, 53, 58, 64], 38) := by decide +kernel
theorem md_B_count_44 : decode mc_B_count 44 = .ok (.aload_n 0, 1) := by decide +kernel
theorem md_B_count_45 : decode mc_B_count 45 = .ok (.getfield 80, 3) := by decide +kernel
theorem md_B_count_48 : decode mc_B_count 48 = .ok (.ireturn, 1) := by decide +kernel
theorem md_B_count_49 : decode mc_B_count 49 = .ok (.aload_n 0, 1) := by decide +kernel
theorem md_B_count_50 : decode mc_B_count 50 = .ok (.getfield 96, 3) := by decide +kernel
theorem md_B_count_53 : decode mc_B_count 53 = .ok (.ireturn, 1) := by decide +kernel
theorem md_B_count_54 : decode mc_B_count 54 = .ok (.aload_n 0, 1) := by decide +kernel
theorem md_B_count_55 : decode mc_B_count 55 = .ok (.getfield 90, 3) := by decide +kernel
theorem md_B_count_58 : decode mc_B_count 58 = .ok (.ireturn, 1) := by decide +kernel
theorem md_B_count_59 : decode mc_B_count 59 = .ok (.aload_n 0, 1) := by decide +kernel
theorem md_B_count_60 : decode mc_B_count 60 = .ok (.getfield 127, 3) := by decide +kernel
theorem md_B_count_63 : decode mc_B_count 63 = .ok (.ireturn, 1) := by decide +kernel
theorem md_B_count_64 : decode mc_B_count 64 = .ok (.aload_n 0, 1) := by decide +kernel
theorem md_B_count_65 : decode mc_B_count 65 = .ok (.iconst 3, 1) := by decide +kernel
theorem md_B_count_66 : decode mc_B_count 66 = .ok (.invokevirtual 70, 3) := by decide +kernel
theorem md_B_count_69 : decode mc_B_count 69 = .ok (.ireturn, 1) := by decide +kernel
theorem md_B_count_70 : decode mc_B_count 70 = .ok (.aload_n 0, 1) := by decide +kernel
theorem md_B_count_71 : decode mc_B_count 71 = .ok (.iconst 4, 1) := by decide +kernel
theorem md_B_count_72 : decode mc_B_count 72 = .ok (.invokevirtual 70, 3) := by decide +kernel
theorem md_B_count_75 : decode mc_B_count 75 = .ok (.ireturn, 1) := by decide +kernel
theorem md_B_count_76 : decode mc_B_count 76 = .ok (.iconst (-1), 1) := by decide +kernel
theorem md_B_count_77 : decode mc_B_count 77 = .ok (.ireturn, 1) := by decide +kernel
