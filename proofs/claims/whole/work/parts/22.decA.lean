theorem md_A_init_0 : decode mc_A_init 0 = .ok (.aload_n 0, 1) := by decide +kernel
theorem md_A_init_1 : decode mc_A_init 1 = .ok (.invokespecial 3, 3) := by decide +kernel
theorem md_A_init_4 : decode mc_A_init 4 = .ok (.aload_n 0, 1) := by decide +kernel
theorem md_A_init_5 : decode mc_A_init 5 = .ok (.iconst 4, 1) := by decide +kernel
theorem md_A_init_6 : decode mc_A_init 6 = .ok (.anewarray 9, 3) := by decide +kernel
theorem md_A_init_9 : decode mc_A_init 9 = .ok (.putfield 11, 3) := by decide +kernel
theorem md_A_init_12 : decode mc_A_init 12 = .ok (.aload_n 0, 1) := by decide +kernel
theorem md_A_init_13 : decode mc_A_init 13 = .ok (.bipush 16, 2) := by decide +kernel
theorem md_A_init_15 : decode mc_A_init 15 = .ok (.anewarray 15, 3) := by decide +kernel
theorem md_A_init_18 : decode mc_A_init 18 = .ok (.putfield 17, 3) := by decide +kernel
theorem md_A_init_21 : decode mc_A_init 21 = .ok (.aload_n 0, 1) := by decide +kernel
theorem md_A_init_22 : decode mc_A_init 22 = .ok (.iconst 5, 1) := by decide +kernel
theorem md_A_init_23 : decode mc_A_init 23 = .ok (.newarray .boolean, 2) := by decide +kernel
theorem md_A_init_25 : decode mc_A_init 25 = .ok (.putfield 21, 3) := by decide +kernel
theorem md_A_init_28 : decode mc_A_init 28 = .ok (.aload_n 0, 1) := by decide +kernel
theorem md_A_init_29 : decode mc_A_init 29 = .ok (.new 25, 3) := by decide +kernel
theorem md_A_init_32 : decode mc_A_init 32 = .ok (.dup, 1) := by decide +kernel
theorem md_A_init_33 : decode mc_A_init 33 = .ok (.invokespecial 27, 3) := by decide +kernel
theorem md_A_init_36 : decode mc_A_init 36 = .ok (.putfield 28, 3) := by decide +kernel
theorem md_A_init_39 : decode mc_A_init 39 = .ok (.aload_n 0, 1) := by decide +kernel
theorem md_A_init_40 : decode mc_A_init 40 = .ok (.new 25, 3) := by decide +kernel
theorem md_A_init_43 : decode mc_A_init 43 = .ok (.dup, 1) := by decide +kernel
theorem md_A_init_44 : decode mc_A_init 44 = .ok (.invokespecial 27, 3) := by decide +kernel
theorem md_A_init_47 : decode mc_A_init 47 = .ok (.putfield 32, 3) := by decide +kernel
theorem md_A_init_50 : decode mc_A_init 50 = .ok (.aload_n 0, 1) := by decide +kernel
theorem md_A_init_51 : decode mc_A_init 51 = .ok (.new 25, 3) := by decide +kernel
theorem md_A_init_54 : decode mc_A_init 54 = .ok (.dup, 1) := by decide +kernel
theorem md_A_init_55 : decode mc_A_init 55 = .ok (.invokespecial 27, 3) := by decide +kernel
theorem md_A_init_58 : decode mc_A_init 58 = .ok (.putfield 35, 3) := by decide +kernel
theorem md_A_init_61 : decode mc_A_init 61 = .ok (.aload_n 0, 1) := by decide +kernel
theorem md_A_init_62 : decode mc_A_init 62 = .ok (.new 25, 3) := by decide +kernel
theorem md_A_init_65 : decode mc_A_init 65 = .ok (.dup, 1) := by decide +kernel
theorem md_A_init_66 : decode mc_A_init 66 = .ok (.invokespecial 27, 3) := by decide +kernel
theorem md_A_init_69 : decode mc_A_init 69 = .ok (.putfield 38, 3) := by decide +kernel
theorem md_A_init_72 : decode mc_A_init 72 = .ok (.aload_n 0, 1) := by decide +kernel
theorem md_A_init_73 : decode mc_A_init 73 = .ok (.iconst 0, 1) := by decide +kernel
theorem md_A_init_74 : decode mc_A_init 74 = .ok (.putfield 41, 3) := by decide +kernel
theorem md_A_init_77 : decode mc_A_init 77 = .ok (.aload_n 0, 1) := by decide +kernel
theorem md_A_init_78 : decode mc_A_init 78 = .ok (.iconst 0, 1) := by decide +kernel
theorem md_A_init_79 : decode mc_A_init 79 = .ok (.putfield 45, 3) := by decide +kernel
theorem md_A_init_82 : decode mc_A_init 82 = .ok (.iconst 0, 1) := by decide +kernel
theorem md_A_init_83 : decode mc_A_init 83 = .ok (.istore_n 1, 1) := by decide +kernel
theorem md_A_init_84 : decode mc_A_init 84 = .ok (.iload_n 1, 1) := by decide +kernel
theorem md_A_init_85 : decode mc_A_init 85 = .ok (.iconst 4, 1) := by decide +kernel
theorem md_A_init_86 : decode mc_A_init 86 = .ok (.if_icmp .ge 22, 3) := by decide +kernel
theorem md_A_init_89 : decode mc_A_init 89 = .ok (.aload_n 0, 1) := by decide +kernel
theorem md_A_init_90 : decode mc_A_init 90 = .ok (.getfield 11, 3) := by decide +kernel
theorem md_A_init_93 : decode mc_A_init 93 = .ok (.iload_n 1, 1) := by decide +kernel
theorem md_A_init_94 : decode mc_A_init 94 = .ok (.new 9, 3) := by decide +kernel
theorem md_A_init_97 : decode mc_A_init 97 = .ok (.dup, 1) := by decide +kernel
theorem md_A_init_98 : decode mc_A_init 98 = .ok (.invokespecial 48, 3) := by decide +kernel
theorem md_A_init_101 : decode mc_A_init 101 = .ok (.aastore, 1) := by decide +kernel
theorem md_A_init_102 : decode mc_A_init 102 = .ok (.iinc 1 1, 3) := by decide +kernel
theorem md_A_init_105 : decode mc_A_init 105 = .ok (.goto (-21), 3) := by decide +kernel
theorem md_A_init_108 : decode mc_A_init 108 = .ok (.iconst 0, 1) := by decide +kernel
theorem md_A_init_109 : decode mc_A_init 109 = .ok (.istore_n 1, 1) := by decide +kernel
theorem md_A_init_110 : decode mc_A_init 110 = .ok (.iload_n 1, 1) := by decide +kernel
theorem md_A_init_111 : decode mc_A_init 111 = .ok (.bipush 16, 2) := by decide +kernel
theorem md_A_init_113 : decode mc_A_init 113 = .ok (.if_icmp .ge 22, 3) := by decide +kernel
theorem md_A_init_116 : decode mc_A_init 116 = .ok (.aload_n 0, 1) := by decide +kernel
theorem md_A_init_117 : decode mc_A_init 117 = .ok (.getfield 17, 3) := by decide +kernel
theorem md_A_init_120 : decode mc_A_init 120 = .ok (.iload_n 1, 1) := by decide +kernel
theorem md_A_init_121 : decode mc_A_init 121 = .ok (.new 15, 3) := by decide +kernel
theorem md_A_init_124 : decode mc_A_init 124 = .ok (.dup, 1) := by decide +kernel
theorem md_A_init_125 : decode mc_A_init 125 = .ok (.invokespecial 49, 3) := by decide +kernel
theorem md_A_init_128 : decode mc_A_init 128 = .ok (.aastore, 1) := by decide +kernel
theorem md_A_init_129 : decode mc_A_init 129 = .ok (.iinc 1 1, 3) := by decide +kernel
theorem md_A_init_132 : decode mc_A_init 132 = .ok (.goto (-22), 3) := by decide +kernel
theorem md_A_init_135 : decode mc_A_init 135 = .ok (.return_, 1) := by decide +kernel
theorem md_A_receive_0 : decode mc_A_receive 0 = .ok (.iload_n 1, 1) := by decide +kernel
theorem md_A_receive_1 : decode mc_A_receive 1 = .ok (.invokestatic 50, 3) := by decide +kernel
theorem md_A_receive_4 : decode mc_A_receive 4 = .ok (.iload_n 2, 1) := by decide +kernel
theorem md_A_receive_5 : decode mc_A_receive 5 = .ok (.invokestatic 54, 3) := by decide +kernel
theorem md_A_receive_8 : decode mc_A_receive 8 = .ok (.iload_n 3, 1) := by decide +kernel
theorem md_A_receive_9 : decode mc_A_receive 9 = .ok (.iload 4, 2) := by decide +kernel
theorem md_A_receive_11 : decode mc_A_receive 11 = .ok (.iload 5, 2) := by decide +kernel
theorem md_A_receive_13 : decode mc_A_receive 13 = .ok (.invokestatic 57, 3) := by decide +kernel
theorem md_A_receive_16 : decode mc_A_receive 16 = .ok (.aload_n 0, 1) := by decide +kernel
theorem md_A_receive_17 : decode mc_A_receive 17 = .ok (.getfield 11, 3) := by decide +kernel
theorem md_A_receive_20 : decode mc_A_receive 20 = .ok (.iload_n 1, 1) := by decide +kernel
theorem md_A_receive_21 : decode mc_A_receive 21 = .ok (.aaload, 1) := by decide +kernel
theorem md_A_receive_22 : decode mc_A_receive 22 = .ok (.astore 6, 2) := by decide +kernel
theorem md_A_receive_24 : decode mc_A_receive 24 = .ok (.aload 6, 2) := by decide +kernel
theorem md_A_receive_26 : decode mc_A_receive 26 = .ok (.iload_n 2, 1) := by decide +kernel
theorem md_A_receive_27 : decode mc_A_receive 27 = .ok (.invokevirtual 61, 3) := by decide +kernel
theorem md_A_receive_30 : decode mc_A_receive 30 = .ok (.ifCond .ne 15, 3) := by decide +kernel
theorem md_A_receive_33 : decode mc_A_receive 33 = .ok (.aload_n 0, 1) := by decide +kernel
theorem md_A_receive_34 : decode mc_A_receive 34 = .ok (.dup, 1) := by decide +kernel
theorem md_A_receive_35 : decode mc_A_receive 35 = .ok (.getfield 45, 3) := by decide +kernel
theorem md_A_receive_38 : decode mc_A_receive 38 = .ok (.iconst 1, 1) := by decide +kernel
theorem md_A_receive_39 : decode mc_A_receive 39 = .ok (.iadd, 1) := by decide +kernel
theorem md_A_receive_40 : decode mc_A_receive 40 = .ok (.putfield 45, 3) := by decide +kernel
theorem md_A_receive_43 : decode mc_A_receive 43 = .ok (.iconst 3, 1) := by decide +kernel
theorem md_A_receive_44 : decode mc_A_receive 44 = .ok (.ireturn, 1) := by decide +kernel
theorem md_A_receive_45 : decode mc_A_receive 45 = .ok (.new 65, 3) := by decide +kernel
theorem md_A_receive_48 : decode mc_A_receive 48 = .ok (.dup, 1) := by decide +kernel
theorem md_A_receive_49 : decode mc_A_receive 49 = .ok (.sipush 1000, 3) := by decide +kernel
theorem md_A_receive_52 : decode mc_A_receive 52 = .ok (.iload_n 1, 1) := by decide +kernel
theorem md_A_receive_53 : decode mc_A_receive 53 = .ok (.imul, 1) := by decide +kernel
theorem md_A_receive_54 : decode mc_A_receive 54 = .ok (.iload_n 2, 1) := by decide +kernel
theorem md_A_receive_55 : decode mc_A_receive 55 = .ok (.iadd, 1) := by decide +kernel
theorem md_A_receive_56 : decode mc_A_receive 56 = .ok (.iload_n 3, 1) := by decide +kernel
theorem md_A_receive_57 : decode mc_A_receive 57 = .ok (.aload_n 0, 1) := by decide +kernel
theorem md_A_receive_58 : decode mc_A_receive 58 = .ok (.getfield 17, 3) := by decide +kernel
theorem md_A_receive_61 : decode mc_A_receive 61 = .ok (.iload 4, 2) := by decide +kernel
theorem md_A_receive_63 : decode mc_A_receive 63 = .ok (.aaload, 1) := by decide +kernel
theorem md_A_receive_64 : decode mc_A_receive 64 = .ok (.iload 5, 2) := by decide +kernel
theorem md_A_receive_66 : decode mc_A_receive 66 = .ok (.invokespecial 67, 3) := by decide +kernel
theorem md_A_receive_69 : decode mc_A_receive 69 = .ok (.astore 7, 2) := by decide +kernel
theorem md_A_receive_71 : decode mc_A_receive 71 = .ok (.aload 6, 2) := by decide +kernel
theorem md_A_receive_73 : decode mc_A_receive 73 = .ok (.iload_n 2, 1) := by decide +kernel
theorem md_A_receive_74 : decode mc_A_receive 74 = .ok (.aload 7, 2) := by decide +kernel
theorem md_A_receive_76 : decode mc_A_receive 76 = .ok (.invokevirtual 70, 3) := by decide +kernel
theorem md_A_receive_79 : decode mc_A_receive 79 = .ok (.aload_n 0, 1) := by decide +kernel
theorem md_A_receive_80 : decode mc_A_receive 80 = .ok (.aload 6, 2) := by decide +kernel
theorem md_A_receive_82 : decode mc_A_receive 82 = .ok (.aload 7, 2) := by decide +kernel
theorem md_A_receive_84 : decode mc_A_receive 84 = .ok (.invokevirtual 74, 3) := by decide +kernel
theorem md_A_receive_87 : decode mc_A_receive 87 = .ok (.aload 7, 2) := by decide +kernel
theorem md_A_receive_89 : decode mc_A_receive 89 = .ok (.invokestatic 78, 3) := by decide +kernel
theorem md_A_receive_92 : decode mc_A_receive 92 = .ok (.ireturn, 1) := by decide +kernel
theorem md_A_status_0 : decode mc_A_status 0 = .ok (.iload_n 1, 1) := by decide +kernel
theorem md_A_status_1 : decode mc_A_status 1 = .ok (.invokestatic 50, 3) := by decide +kernel
theorem md_A_status_4 : decode mc_A_status 4 = .ok (.iload_n 2, 1) := by decide +kernel
theorem md_A_status_5 : decode mc_A_status 5 = .ok (.invokestatic 54, 3) := by decide +kernel
theorem md_A_status_8 : decode mc_A_status 8 = .ok (.aload_n 0, 1) := by decide +kernel
theorem md_A_status_9 : decode mc_A_status 9 = .ok (.getfield 11, 3) := by decide +kernel
theorem md_A_status_12 : decode mc_A_status 12 = .ok (.iload_n 1, 1) := by decide +kernel
theorem md_A_status_13 : decode mc_A_status 13 = .ok (.aaload, 1) := by decide +kernel
theorem md_A_status_14 : decode mc_A_status 14 = .ok (.iload_n 2, 1) := by decide +kernel
theorem md_A_status_15 : decode mc_A_status 15 = .ok (.invokevirtual 82, 3) := by decide +kernel
theorem md_A_status_18 : decode mc_A_status 18 = .ok (.astore_n 3, 1) := by decide +kernel
theorem md_A_status_19 : decode mc_A_status 19 = .ok (.aload_n 3, 1) := by decide +kernel
theorem md_A_status_20 : decode mc_A_status 20 = .ok (.ifnonnull 7, 3) := by decide +kernel
theorem md_A_status_23 : decode mc_A_status 23 = .ok (.iconst (-1), 1) := by decide +kernel
theorem md_A_status_24 : decode mc_A_status 24 = .ok (.goto 7, 3) := by decide +kernel
theorem md_A_status_27 : decode mc_A_status 27 = .ok (.aload_n 3, 1) := by decide +kernel
theorem md_A_status_28 : decode mc_A_status 28 = .ok (.getfield 86, 3) := by decide +kernel
theorem md_A_status_31 : decode mc_A_status 31 = .ok (.ireturn, 1) := by decide +kernel
theorem md_A_answer_0 : decode mc_A_answer 0 = .ok (.iload_n 1, 1) := by decide +kernel
theorem md_A_answer_1 : decode mc_A_answer 1 = .ok (.invokestatic 50, 3) := by decide +kernel
theorem md_A_answer_4 : decode mc_A_answer 4 = .ok (.iload_n 2, 1) := by decide +kernel
theorem md_A_answer_5 : decode mc_A_answer 5 = .ok (.invokestatic 54, 3) := by decide +kernel
theorem md_A_answer_8 : decode mc_A_answer 8 = .ok (.aload_n 0, 1) := by decide +kernel
theorem md_A_answer_9 : decode mc_A_answer 9 = .ok (.getfield 11, 3) := by decide +kernel
theorem md_A_answer_12 : decode mc_A_answer 12 = .ok (.iload_n 1, 1) := by decide +kernel
theorem md_A_answer_13 : decode mc_A_answer 13 = .ok (.aaload, 1) := by decide +kernel
theorem md_A_answer_14 : decode mc_A_answer 14 = .ok (.iload_n 2, 1) := by decide +kernel
theorem md_A_answer_15 : decode mc_A_answer 15 = .ok (.invokevirtual 82, 3) := by decide +kernel
theorem md_A_answer_18 : decode mc_A_answer 18 = .ok (.astore_n 3, 1) := by decide +kernel
theorem md_A_answer_19 : decode mc_A_answer 19 = .ok (.aload_n 3, 1) := by decide +kernel
theorem md_A_answer_20 : decode mc_A_answer 20 = .ok (.ifnonnull 7, 3) := by decide +kernel
theorem md_A_answer_23 : decode mc_A_answer 23 = .ok (.iconst 0, 1) := by decide +kernel
theorem md_A_answer_24 : decode mc_A_answer 24 = .ok (.goto 7, 3) := by decide +kernel
theorem md_A_answer_27 : decode mc_A_answer 27 = .ok (.aload_n 3, 1) := by decide +kernel
theorem md_A_answer_28 : decode mc_A_answer 28 = .ok (.getfield 89, 3) := by decide +kernel
theorem md_A_answer_31 : decode mc_A_answer 31 = .ok (.ireturn, 1) := by decide +kernel
theorem md_A_point_0 : decode mc_A_point 0 = .ok (.iload_n 1, 1) := by decide +kernel
theorem md_A_point_1 : decode mc_A_point 1 = .ok (.invokestatic 92, 3) := by decide +kernel
theorem md_A_point_4 : decode mc_A_point 4 = .ok (.ifCond .eq 16, 3) := by decide +kernel
theorem md_A_point_7 : decode mc_A_point 7 = .ok (.aload_n 0, 1) := by decide +kernel
theorem md_A_point_8 : decode mc_A_point 8 = .ok (.getfield 17, 3) := by decide +kernel
theorem md_A_point_11 : decode mc_A_point 11 = .ok (.iload_n 1, 1) := by decide +kernel
theorem md_A_point_12 : decode mc_A_point 12 = .ok (.aaload, 1) := by decide +kernel
theorem md_A_point_13 : decode mc_A_point 13 = .ok (.getfield 95, 3) := by decide +kernel
theorem md_A_point_16 : decode mc_A_point 16 = .ok (.iconst 1, 1) := by decide +kernel
theorem md_A_point_17 : decode mc_A_point 17 = .ok (.if_icmp .eq 5, 3) := by decide +kernel
theorem md_A_point_20 : decode mc_A_point 20 = .ok (.iconst 0, 1) := by decide +kernel
theorem md_A_point_21 : decode mc_A_point 21 = .ok (.ireturn, 1) := by decide +kernel
theorem md_A_point_22 : decode mc_A_point 22 = .ok (.aload_n 0, 1) := by decide +kernel
theorem md_A_point_23 : decode mc_A_point 23 = .ok (.getfield 17, 3) := by decide +kernel
theorem md_A_point_26 : decode mc_A_point 26 = .ok (.iload_n 1, 1) := by decide +kernel
theorem md_A_point_27 : decode mc_A_point 27 = .ok (.aaload, 1) := by decide +kernel
theorem md_A_point_28 : decode mc_A_point 28 = .ok (.iconst 2, 1) := by decide +kernel
theorem md_A_point_29 : decode mc_A_point 29 = .ok (.putfield 95, 3) := by decide +kernel
theorem md_A_point_32 : decode mc_A_point 32 = .ok (.iconst 1, 1) := by decide +kernel
theorem md_A_point_33 : decode mc_A_point 33 = .ok (.ireturn, 1) := by decide +kernel
theorem md_A_fails_0 : decode mc_A_fails 0 = .ok (.iload_n 1, 1) := by decide +kernel
theorem md_A_fails_1 : decode mc_A_fails 1 = .ok (.invokestatic 98, 3) := by decide +kernel
theorem md_A_fails_4 : decode mc_A_fails 4 = .ok (.ifCond .eq 13, 3) := by decide +kernel
theorem md_A_fails_7 : decode mc_A_fails 7 = .ok (.aload_n 0, 1) := by decide +kernel
theorem md_A_fails_8 : decode mc_A_fails 8 = .ok (.getfield 21, 3) := by decide +kernel
theorem md_A_fails_11 : decode mc_A_fails 11 = .ok (.iload_n 1, 1) := by decide +kernel
theorem md_A_fails_12 : decode mc_A_fails 12 = .ok (.baload, 1) := by decide +kernel
theorem md_A_fails_13 : decode mc_A_fails 13 = .ok (.iload_n 2, 1) := by decide +kernel
theorem md_A_fails_14 : decode mc_A_fails 14 = .ok (.if_icmp .ne 5, 3) := by decide +kernel
theorem md_A_fails_17 : decode mc_A_fails 17 = .ok (.iconst 0, 1) := by decide +kernel
theorem md_A_fails_18 : decode mc_A_fails 18 = .ok (.ireturn, 1) := by decide +kernel
theorem md_A_fails_19 : decode mc_A_fails 19 = .ok (.aload_n 0, 1) := by decide +kernel
theorem md_A_fails_20 : decode mc_A_fails 20 = .ok (.getfield 21, 3) := by decide +kernel
theorem md_A_fails_23 : decode mc_A_fails 23 = .ok (.iload_n 1, 1) := by decide +kernel
theorem md_A_fails_24 : decode mc_A_fails 24 = .ok (.iload_n 2, 1) := by decide +kernel
theorem md_A_fails_25 : decode mc_A_fails 25 = .ok (.bastore, 1) := by decide +kernel
theorem md_A_fails_26 : decode mc_A_fails 26 = .ok (.iconst 1, 1) := by decide +kernel
theorem md_A_fails_27 : decode mc_A_fails 27 = .ok (.ireturn, 1) := by decide +kernel
theorem md_A_tick_0 : decode mc_A_tick 0 = .ok (.iload_n 1, 1) := by decide +kernel
theorem md_A_tick_1 : decode mc_A_tick 1 = .ok (.aload_n 0, 1) := by decide +kernel
theorem md_A_tick_2 : decode mc_A_tick 2 = .ok (.getfield 41, 3) := by decide +kernel
theorem md_A_tick_5 : decode mc_A_tick 5 = .ok (.if_icmp .lt 9, 3) := by decide +kernel
theorem md_A_tick_8 : decode mc_A_tick 8 = .ok (.iload_n 1, 1) := by decide +kernel
theorem md_A_tick_9 : decode mc_A_tick 9 = .ok (.ldc 101, 2) := by decide +kernel
theorem md_A_tick_11 : decode mc_A_tick 11 = .ok (.if_icmp .le 13, 3) := by decide +kernel
theorem md_A_tick_14 : decode mc_A_tick 14 = .ok (.new 102, 3) := by decide +kernel
theorem md_A_tick_17 : decode mc_A_tick 17 = .ok (.dup, 1) := by decide +kernel
theorem md_A_tick_18 : decode mc_A_tick 18 = .ok (.ldc 104, 2) := by decide +kernel
theorem md_A_tick_20 : decode mc_A_tick 20 = .ok (.invokespecial 106, 3) := by decide +kernel
theorem md_A_tick_23 : decode mc_A_tick 23 = .ok (.athrow, 1) := by decide +kernel
theorem md_A_tick_24 : decode mc_A_tick 24 = .ok (.aload_n 0, 1) := by decide +kernel
theorem md_A_tick_25 : decode mc_A_tick 25 = .ok (.getfield 32, 3) := by decide +kernel
theorem md_A_tick_28 : decode mc_A_tick 28 = .ok (.getfield 109, 3) := by decide +kernel
theorem md_A_tick_31 : decode mc_A_tick 31 = .ok (.istore_n 2, 1) := by decide +kernel
theorem md_A_tick_32 : decode mc_A_tick 32 = .ok (.aload_n 0, 1) := by decide +kernel
theorem md_A_tick_33 : decode mc_A_tick 33 = .ok (.iload_n 1, 1) := by decide +kernel
theorem md_A_tick_34 : decode mc_A_tick 34 = .ok (.putfield 41, 3) := by decide +kernel
theorem md_A_tick_37 : decode mc_A_tick 37 = .ok (.aload_n 0, 1) := by decide +kernel
theorem md_A_tick_38 : decode mc_A_tick 38 = .ok (.invokevirtual 112, 3) := by decide +kernel
theorem md_A_tick_41 : decode mc_A_tick 41 = .ok (.aload_n 0, 1) := by decide +kernel
theorem md_A_tick_42 : decode mc_A_tick 42 = .ok (.invokevirtual 115, 3) := by decide +kernel
theorem md_A_tick_45 : decode mc_A_tick 45 = .ok (.aload_n 0, 1) := by decide +kernel
theorem md_A_tick_46 : decode mc_A_tick 46 = .ok (.getfield 32, 3) := by decide +kernel
theorem md_A_tick_49 : decode mc_A_tick 49 = .ok (.getfield 109, 3) := by decide +kernel
theorem md_A_tick_52 : decode mc_A_tick 52 = .ok (.iload_n 2, 1) := by decide +kernel
theorem md_A_tick_53 : decode mc_A_tick 53 = .ok (.isub, 1) := by decide +kernel
theorem md_A_tick_54 : decode mc_A_tick 54 = .ok (.ireturn, 1) := by decide +kernel
theorem md_A_skip_0 : decode mc_A_skip 0 = .ok (.iload_n 1, 1) := by decide +kernel
theorem md_A_skip_1 : decode mc_A_skip 1 = .ok (.invokestatic 50, 3) := by decide +kernel
theorem md_A_skip_4 : decode mc_A_skip 4 = .ok (.aload_n 0, 1) := by decide +kernel
theorem md_A_skip_5 : decode mc_A_skip 5 = .ok (.getfield 11, 3) := by decide +kernel
theorem md_A_skip_8 : decode mc_A_skip 8 = .ok (.iload_n 1, 1) := by decide +kernel
theorem md_A_skip_9 : decode mc_A_skip 9 = .ok (.aaload, 1) := by decide +kernel
theorem md_A_skip_10 : decode mc_A_skip 10 = .ok (.astore_n 2, 1) := by decide +kernel
theorem md_A_skip_11 : decode mc_A_skip 11 = .ok (.aload_n 2, 1) := by decide +kernel
theorem md_A_skip_12 : decode mc_A_skip 12 = .ok (.invokevirtual 118, 3) := by decide +kernel
theorem md_A_skip_15 : decode mc_A_skip 15 = .ok (.istore_n 3, 1) := by decide +kernel
theorem md_A_skip_16 : decode mc_A_skip 16 = .ok (.aload_n 2, 1) := by decide +kernel
theorem md_A_skip_17 : decode mc_A_skip 17 = .ok (.iload_n 3, 1) := by decide +kernel
theorem md_A_skip_18 : decode mc_A_skip 18 = .ok (.aload_n 0, 1) := by decide +kernel
theorem md_A_skip_19 : decode mc_A_skip 19 = .ok (.getfield 41, 3) := by decide +kernel
theorem md_A_skip_22 : decode mc_A_skip 22 = .ok (.bipush 100, 2) := by decide +kernel
theorem md_A_skip_24 : decode mc_A_skip 24 = .ok (.isub, 1) := by decide +kernel
theorem md_A_skip_25 : decode mc_A_skip 25 = .ok (.invokevirtual 122, 3) := by decide +kernel
theorem md_A_skip_28 : decode mc_A_skip 28 = .ok (.ifCond .ne 5, 3) := by decide +kernel
theorem md_A_skip_31 : decode mc_A_skip 31 = .ok (.iconst (-1), 1) := by decide +kernel
theorem md_A_skip_32 : decode mc_A_skip 32 = .ok (.ireturn, 1) := by decide +kernel
theorem md_A_skip_33 : decode mc_A_skip 33 = .ok (.aload_n 2, 1) := by decide +kernel
theorem md_A_skip_34 : decode mc_A_skip 34 = .ok (.iload_n 3, 1) := by decide +kernel
theorem md_A_skip_35 : decode mc_A_skip 35 = .ok (.invokevirtual 126, 3) := by decide +kernel
theorem md_A_skip_38 : decode mc_A_skip 38 = .ok (.aload_n 0, 1) := by decide +kernel
theorem md_A_skip_39 : decode mc_A_skip 39 = .ok (.aload_n 2, 1) := by decide +kernel
theorem md_A_skip_40 : decode mc_A_skip 40 = .ok (.invokevirtual 129, 3) := by decide +kernel
theorem md_A_skip_43 : decode mc_A_skip 43 = .ok (.iload_n 3, 1) := by decide +kernel
theorem md_A_skip_44 : decode mc_A_skip 44 = .ok (.ireturn, 1) := by decide +kernel
theorem md_A_cut_0 : decode mc_A_cut 0 = .ok (.iload_n 1, 1) := by decide +kernel
theorem md_A_cut_1 : decode mc_A_cut 1 = .ok (.invokestatic 50, 3) := by decide +kernel
theorem md_A_cut_4 : decode mc_A_cut 4 = .ok (.aload_n 0, 1) := by decide +kernel
theorem md_A_cut_5 : decode mc_A_cut 5 = .ok (.getfield 11, 3) := by decide +kernel
theorem md_A_cut_8 : decode mc_A_cut 8 = .ok (.iload_n 1, 1) := by decide +kernel
theorem md_A_cut_9 : decode mc_A_cut 9 = .ok (.aaload, 1) := by decide +kernel
theorem md_A_cut_10 : decode mc_A_cut 10 = .ok (.invokevirtual 133, 3) := by decide +kernel
theorem md_A_cut_13 : decode mc_A_cut 13 = .ok (.ireturn, 1) := by decide +kernel
theorem md_A_replay_0 : decode mc_A_replay 0 = .ok (.iload_n 1, 1) := by decide +kernel
theorem md_A_replay_1 : decode mc_A_replay 1 = .ok (.invokestatic 50, 3) := by decide +kernel
theorem md_A_replay_4 : decode mc_A_replay 4 = .ok (.iload_n 2, 1) := by decide +kernel
theorem md_A_replay_5 : decode mc_A_replay 5 = .ok (.invokestatic 54, 3) := by decide +kernel
theorem md_A_replay_8 : decode mc_A_replay 8 = .ok (.aload_n 0, 1) := by decide +kernel
theorem md_A_replay_9 : decode mc_A_replay 9 = .ok (.getfield 11, 3) := by decide +kernel
theorem md_A_replay_12 : decode mc_A_replay 12 = .ok (.iload_n 1, 1) := by decide +kernel
theorem md_A_replay_13 : decode mc_A_replay 13 = .ok (.aaload, 1) := by decide +kernel
theorem md_A_replay_14 : decode mc_A_replay 14 = .ok (.astore_n 3, 1) := by decide +kernel
theorem md_A_replay_15 : decode mc_A_replay 15 = .ok (.iconst 0, 1) := by decide +kernel
theorem md_A_replay_16 : decode mc_A_replay 16 = .ok (.istore 4, 2) := by decide +kernel
theorem md_A_replay_18 : decode mc_A_replay 18 = .ok (.iload_n 2, 1) := by decide +kernel
theorem md_A_replay_19 : decode mc_A_replay 19 = .ok (.istore 5, 2) := by decide +kernel
theorem md_A_replay_21 : decode mc_A_replay 21 = .ok (.iload 5, 2) := by decide +kernel
theorem md_A_replay_23 : decode mc_A_replay 23 = .ok (.bipush 24, 2) := by decide +kernel
theorem md_A_replay_25 : decode mc_A_replay 25 = .ok (.if_icmp .gt 51, 3) := by decide +kernel
theorem md_A_replay_28 : decode mc_A_replay 28 = .ok (.aload_n 3, 1) := by decide +kernel
theorem md_A_replay_29 : decode mc_A_replay 29 = .ok (.iload 5, 2) := by decide +kernel
theorem md_A_replay_31 : decode mc_A_replay 31 = .ok (.invokevirtual 82, 3) := by decide +kernel
theorem md_A_replay_34 : decode mc_A_replay 34 = .ok (.astore 6, 2) := by decide +kernel
theorem md_A_replay_36 : decode mc_A_replay 36 = .ok (.aload 6, 2) := by decide +kernel
theorem md_A_replay_38 : decode mc_A_replay 38 = .ok (.ifnull 32, 3) := by decide +kernel
theorem md_A_replay_41 : decode mc_A_replay 41 = .ok (.aload 6, 2) := by decide +kernel
theorem md_A_replay_43 : decode mc_A_replay 43 = .ok (.getfield 86, 3) := by decide +kernel
theorem md_A_replay_46 : decode mc_A_replay 46 = .ok (.bipush 6, 2) := by decide +kernel
theorem md_A_replay_48 : decode mc_A_replay 48 = .ok (.if_icmp .ne 22, 3) := by decide +kernel
theorem md_A_replay_51 : decode mc_A_replay 51 = .ok (.aload_n 3, 1) := by decide +kernel
theorem md_A_replay_52 : decode mc_A_replay 52 = .ok (.iload 5, 2) := by decide +kernel
theorem md_A_replay_54 : decode mc_A_replay 54 = .ok (.invokevirtual 61, 3) := by decide +kernel
theorem md_A_replay_57 : decode mc_A_replay 57 = .ok (.ifCond .eq 13, 3) := by decide +kernel
theorem md_A_replay_60 : decode mc_A_replay 60 = .ok (.aload_n 0, 1) := by decide +kernel
theorem md_A_replay_61 : decode mc_A_replay 61 = .ok (.aload_n 3, 1) := by decide +kernel
theorem md_A_replay_62 : decode mc_A_replay 62 = .ok (.aload 6, 2) := by decide +kernel
theorem md_A_replay_64 : decode mc_A_replay 64 = .ok (.invokevirtual 74, 3) := by decide +kernel
theorem md_A_replay_67 : decode mc_A_replay 67 = .ok (.iinc 4 1, 3) := by decide +kernel
theorem md_A_replay_70 : decode mc_A_replay 70 = .ok (.iinc 5 1, 3) := by decide +kernel
theorem md_A_replay_73 : decode mc_A_replay 73 = .ok (.goto (-52), 3) := by decide +kernel
theorem md_A_replay_76 : decode mc_A_replay 76 = .ok (.iload 4, 2) := by decide +kernel
theorem md_A_replay_78 : decode mc_A_replay 78 = .ok (.ireturn, 1) := by decide +kernel
theorem md_A_look_0 : decode mc_A_look 0 = .ok (.iload_n 1, 1) := by decide +kernel
theorem md_A_look_1 : decode mc_A_look 1 = .ok (.invokestatic 92, 3) := by decide +kernel
theorem md_A_look_4 : decode mc_A_look 4 = .ok (.ifCond .ne 13, 3) := by decide +kernel
theorem md_A_look_7 : decode mc_A_look 7 = .ok (.new 136, 3) := by decide +kernel
theorem md_A_look_10 : decode mc_A_look 10 = .ok (.dup, 1) := by decide +kernel
theorem md_A_look_11 : decode mc_A_look 11 = .ok (.ldc 138, 2) := by decide +kernel
theorem md_A_look_13 : decode mc_A_look 13 = .ok (.invokespecial 140, 3) := by decide +kernel
theorem md_A_look_16 : decode mc_A_look 16 = .ok (.athrow, 1) := by decide +kernel
theorem md_A_look_17 : decode mc_A_look 17 = .ok (.aload_n 0, 1) := by decide +kernel
theorem md_A_look_18 : decode mc_A_look 18 = .ok (.getfield 17, 3) := by decide +kernel
theorem md_A_look_21 : decode mc_A_look 21 = .ok (.iload_n 1, 1) := by decide +kernel
theorem md_A_look_22 : decode mc_A_look 22 = .ok (.aaload, 1) := by decide +kernel
theorem md_A_look_23 : decode mc_A_look 23 = .ok (.astore_n 3, 1) := by decide +kernel
theorem md_A_look_24 : decode mc_A_look 24 = .ok (.iload_n 2, 1) := by decide +kernel
theorem md_A_look_25 : decode mc_A_look 25 = .ok (.tableswitch 55 0 3 #[31, 36, 41, 46], 31) := by decide +kernel
theorem md_A_look_56 : decode mc_A_look 56 = .ok (.aload_n 3, 1) := by decide +kernel
theorem md_A_look_57 : decode mc_A_look 57 = .ok (.getfield 95, 3) := by decide +kernel
theorem md_A_look_60 : decode mc_A_look 60 = .ok (.ireturn, 1) := by decide +kernel
theorem md_A_look_61 : decode mc_A_look 61 = .ok (.aload_n 3, 1) := by decide +kernel
theorem md_A_look_62 : decode mc_A_look 62 = .ok (.getfield 141, 3) := by decide +kernel
theorem md_A_look_65 : decode mc_A_look 65 = .ok (.ireturn, 1) := by decide +kernel
theorem md_A_look_66 : decode mc_A_look 66 = .ok (.aload_n 3, 1) := by decide +kernel
theorem md_A_look_67 : decode mc_A_look 67 = .ok (.getfield 144, 3) := by decide +kernel
theorem md_A_look_70 : decode mc_A_look 70 = .ok (.ireturn, 1) := by decide +kernel
theorem md_A_look_71 : decode mc_A_look 71 = .ok (.aload_n 0, 1) := by decide +kernel
theorem md_A_look_72 : decode mc_A_look 72 = .ok (.getfield 35, 3) := by decide +kernel
theorem md_A_look_75 : decode mc_A_look 75 = .ok (.aload_n 3, 1) := by decide +kernel
theorem md_A_look_76 : decode mc_A_look 76 = .ok (.invokevirtual 146, 3) := by decide +kernel
theorem md_A_look_79 : decode mc_A_look 79 = .ok (.ireturn, 1) := by decide +kernel
theorem md_A_look_80 : decode mc_A_look 80 = .ok (.new 136, 3) := by decide +kernel
theorem md_A_look_83 : decode mc_A_look 83 = .ok (.dup, 1) := by decide +kernel
theorem md_A_look_84 : decode mc_A_look 84 = .ok (.ldc 150, 2) := by decide +kernel
theorem md_A_look_86 : decode mc_A_look 86 = .ok (.invokespecial 140, 3) := by decide +kernel
theorem md_A_look_89 : decode mc_A_look 89 = .ok (.athrow, 1) := by decide +kernel
theorem md_A_act_0 : decode mc_A_act 0 = .ok (.aload_n 0, 1) := by decide +kernel
theorem md_A_act_1 : decode mc_A_act 1 = .ok (.getfield 28, 3) := by decide +kernel
theorem md_A_act_4 : decode mc_A_act 4 = .ok (.iload_n 1, 1) := by decide +kernel
theorem md_A_act_5 : decode mc_A_act 5 = .ok (.invokestatic 152, 3) := by decide +kernel
theorem md_A_act_8 : decode mc_A_act 8 = .ok (.ireturn, 1) := by decide +kernel
theorem md_A_dead_0 : decode mc_A_dead 0 = .ok (.aload_n 0, 1) := by decide +kernel
theorem md_A_dead_1 : decode mc_A_dead 1 = .ok (.getfield 32, 3) := by decide +kernel
theorem md_A_dead_4 : decode mc_A_dead 4 = .ok (.iload_n 1, 1) := by decide +kernel
theorem md_A_dead_5 : decode mc_A_dead 5 = .ok (.invokestatic 152, 3) := by decide +kernel
theorem md_A_dead_8 : decode mc_A_dead 8 = .ok (.ireturn, 1) := by decide +kernel
theorem md_A_of_0 : decode mc_A_of 0 = .ok (.iload_n 1, 1) := by decide +kernel
theorem md_A_of_1 : decode mc_A_of 1 = .ok (.invokestatic 156, 3) := by decide +kernel
theorem md_A_of_4 : decode mc_A_of 4 = .ok (.ifCond .ne 5, 3) := by decide +kernel
theorem md_A_of_7 : decode mc_A_of 7 = .ok (.iconst (-1), 1) := by decide +kernel
theorem md_A_of_8 : decode mc_A_of 8 = .ok (.ireturn, 1) := by decide +kernel
theorem md_A_of_9 : decode mc_A_of 9 = .ok (.aload_n 0, 1) := by decide +kernel
theorem md_A_of_10 : decode mc_A_of 10 = .ok (.getfield 11, 3) := by decide +kernel
theorem md_A_of_13 : decode mc_A_of 13 = .ok (.iload_n 1, 1) := by decide +kernel
theorem md_A_of_14 : decode mc_A_of 14 = .ok (.aaload, 1) := by decide +kernel
theorem md_A_of_15 : decode mc_A_of 15 = .ok (.astore_n 3, 1) := by decide +kernel
theorem md_A_of_16 : decode mc_A_of 16 = .ok (.iload_n 2, 1) := by decide +kernel
theorem md_A_of_17 : decode mc_A_of 17 = .ok (.tableswitch 54 0 3 #[31, 36, 42, 49], 31) := by decide +kernel
theorem md_A_of_48 : decode mc_A_of 48 = .ok (.aload_n 3, 1) := by decide +kernel
theorem md_A_of_49 : decode mc_A_of 49 = .ok (.invokevirtual 118, 3) := by decide +kernel
theorem md_A_of_52 : decode mc_A_of 52 = .ok (.ireturn, 1) := by decide +kernel
theorem md_A_of_53 : decode mc_A_of 53 = .ok (.aload_n 3, 1) := by decide +kernel
theorem md_A_of_54 : decode mc_A_of 54 = .ok (.iconst 0, 1) := by decide +kernel
theorem md_A_of_55 : decode mc_A_of 55 = .ok (.invokevirtual 159, 3) := by decide +kernel
theorem md_A_of_58 : decode mc_A_of 58 = .ok (.ireturn, 1) := by decide +kernel
theorem md_A_of_59 : decode mc_A_of 59 = .ok (.aload_n 3, 1) := by decide +kernel
theorem md_A_of_60 : decode mc_A_of 60 = .ok (.bipush 6, 2) := by decide +kernel
theorem md_A_of_62 : decode mc_A_of 62 = .ok (.invokevirtual 159, 3) := by decide +kernel
theorem md_A_of_65 : decode mc_A_of 65 = .ok (.ireturn, 1) := by decide +kernel
theorem md_A_of_66 : decode mc_A_of 66 = .ok (.aload_n 3, 1) := by decide +kernel
theorem md_A_of_67 : decode mc_A_of 67 = .ok (.invokevirtual 163, 3) := by decide +kernel
theorem md_A_of_70 : decode mc_A_of 70 = .ok (.ireturn, 1) := by decide +kernel
theorem md_A_of_71 : decode mc_A_of 71 = .ok (.iconst (-1), 1) := by decide +kernel
theorem md_A_of_72 : decode mc_A_of 72 = .ok (.ireturn, 1) := by decide +kernel
theorem md_A_count_0 : decode mc_A_count 0 = .ok (.iload_n 1, 1) := by decide +kernel
theorem md_A_count_1 : decode mc_A_count 1 = .ok (.tableswitch 81 0 5 #[39, 47, 55, 60, 65, 73], 39) := by decide +kernel
theorem md_A_count_40 : decode mc_A_count 40 = .ok (.aload_n 0, 1) := by decide +kernel
theorem md_A_count_41 : decode mc_A_count 41 = .ok (.getfield 28, 3) := by decide +kernel
theorem md_A_count_44 : decode mc_A_count 44 = .ok (.getfield 109, 3) := by decide +kernel
theorem md_A_count_47 : decode mc_A_count 47 = .ok (.ireturn, 1) := by decide +kernel
theorem md_A_count_48 : decode mc_A_count 48 = .ok (.aload_n 0, 1) := by decide +kernel
theorem md_A_count_49 : decode mc_A_count 49 = .ok (.getfield 32, 3) := by decide +kernel
theorem md_A_count_52 : decode mc_A_count 52 = .ok (.getfield 109, 3) := by decide +kernel
theorem md_A_count_55 : decode mc_A_count 55 = .ok (.ireturn, 1) := by decide +kernel
theorem md_A_count_56 : decode mc_A_count 56 = .ok (.aload_n 0, 1) := by decide +kernel
theorem md_A_count_57 : decode mc_A_count 57 = .ok (.getfield 41, 3) := by decide +kernel
theorem md_A_count_60 : decode mc_A_count 60 = .ok (.ireturn, 1) := by decide +kernel
theorem md_A_count_61 : decode mc_A_count 61 = .ok (.aload_n 0, 1) := by decide +kernel
theorem md_A_count_62 : decode mc_A_count 62 = .ok (.getfield 45, 3) := by decide +kernel
theorem md_A_count_65 : decode mc_A_count 65 = .ok (.ireturn, 1) := by decide +kernel
theorem md_A_count_66 : decode mc_A_count 66 = .ok (.aload_n 0, 1) := by decide +kernel
theorem md_A_count_67 : decode mc_A_count 67 = .ok (.getfield 35, 3) := by decide +kernel
theorem md_A_count_70 : decode mc_A_count 70 = .ok (.getfield 109, 3) := by decide +kernel
theorem md_A_count_73 : decode mc_A_count 73 = .ok (.ireturn, 1) := by decide +kernel
theorem md_A_count_74 : decode mc_A_count 74 = .ok (.aload_n 0, 1) := by decide +kernel
theorem md_A_count_75 : decode mc_A_count 75 = .ok (.getfield 38, 3) := by decide +kernel
theorem md_A_count_78 : decode mc_A_count 78 = .ok (.getfield 109, 3) := by decide +kernel
theorem md_A_count_81 : decode mc_A_count 81 = .ok (.ireturn, 1) := by decide +kernel
theorem md_A_count_82 : decode mc_A_count 82 = .ok (.iconst (-1), 1) := by decide +kernel
theorem md_A_count_83 : decode mc_A_count 83 = .ok (.ireturn, 1) := by decide +kernel
theorem md_A_isSender_0 : decode mc_A_isSender 0 = .ok (.iload_n 0, 1) := by decide +kernel
theorem md_A_isSender_1 : decode mc_A_isSender 1 = .ok (.ifCond .lt 12, 3) := by decide +kernel
theorem md_A_isSender_4 : decode mc_A_isSender 4 = .ok (.iload_n 0, 1) := by decide +kernel
theorem md_A_isSender_5 : decode mc_A_isSender 5 = .ok (.iconst 4, 1) := by decide +kernel
theorem md_A_isSender_6 : decode mc_A_isSender 6 = .ok (.if_icmp .ge 7, 3) := by decide +kernel
theorem md_A_isSender_9 : decode mc_A_isSender 9 = .ok (.iconst 1, 1) := by decide +kernel
theorem md_A_isSender_10 : decode mc_A_isSender 10 = .ok (.goto 4, 3) := by decide +kernel
theorem md_A_isSender_13 : decode mc_A_isSender 13 = .ok (.iconst 0, 1) := by decide +kernel
theorem md_A_isSender_14 : decode mc_A_isSender 14 = .ok (.ireturn, 1) := by decide +kernel
theorem md_A_isSubject_0 : decode mc_A_isSubject 0 = .ok (.iload_n 0, 1) := by decide +kernel
theorem md_A_isSubject_1 : decode mc_A_isSubject 1 = .ok (.ifCond .lt 13, 3) := by decide +kernel
theorem md_A_isSubject_4 : decode mc_A_isSubject 4 = .ok (.iload_n 0, 1) := by decide +kernel
theorem md_A_isSubject_5 : decode mc_A_isSubject 5 = .ok (.bipush 16, 2) := by decide +kernel
theorem md_A_isSubject_7 : decode mc_A_isSubject 7 = .ok (.if_icmp .ge 7, 3) := by decide +kernel
theorem md_A_isSubject_10 : decode mc_A_isSubject 10 = .ok (.iconst 1, 1) := by decide +kernel
theorem md_A_isSubject_11 : decode mc_A_isSubject 11 = .ok (.goto 4, 3) := by decide +kernel
theorem md_A_isSubject_14 : decode mc_A_isSubject 14 = .ok (.iconst 0, 1) := by decide +kernel
theorem md_A_isSubject_15 : decode mc_A_isSubject 15 = .ok (.ireturn, 1) := by decide +kernel
theorem md_A_isFunction_0 : decode mc_A_isFunction 0 = .ok (.iload_n 0, 1) := by decide +kernel
theorem md_A_isFunction_1 : decode mc_A_isFunction 1 = .ok (.ifCond .lt 12, 3) := by decide +kernel
theorem md_A_isFunction_4 : decode mc_A_isFunction 4 = .ok (.iload_n 0, 1) := by decide +kernel
theorem md_A_isFunction_5 : decode mc_A_isFunction 5 = .ok (.iconst 5, 1) := by decide +kernel
theorem md_A_isFunction_6 : decode mc_A_isFunction 6 = .ok (.if_icmp .ge 7, 3) := by decide +kernel
theorem md_A_isFunction_9 : decode mc_A_isFunction 9 = .ok (.iconst 1, 1) := by decide +kernel
theorem md_A_isFunction_10 : decode mc_A_isFunction 10 = .ok (.goto 4, 3) := by decide +kernel
theorem md_A_isFunction_13 : decode mc_A_isFunction 13 = .ok (.iconst 0, 1) := by decide +kernel
theorem md_A_isFunction_14 : decode mc_A_isFunction 14 = .ok (.ireturn, 1) := by decide +kernel
theorem md_A_isNumber_0 : decode mc_A_isNumber 0 = .ok (.iload_n 0, 1) := by decide +kernel
theorem md_A_isNumber_1 : decode mc_A_isNumber 1 = .ok (.iconst 1, 1) := by decide +kernel
theorem md_A_isNumber_2 : decode mc_A_isNumber 2 = .ok (.if_icmp .lt 13, 3) := by decide +kernel
theorem md_A_isNumber_5 : decode mc_A_isNumber 5 = .ok (.iload_n 0, 1) := by decide +kernel
theorem md_A_isNumber_6 : decode mc_A_isNumber 6 = .ok (.bipush 24, 2) := by decide +kernel
theorem md_A_isNumber_8 : decode mc_A_isNumber 8 = .ok (.if_icmp .gt 7, 3) := by decide +kernel
theorem md_A_isNumber_11 : decode mc_A_isNumber 11 = .ok (.iconst 1, 1) := by decide +kernel
theorem md_A_isNumber_12 : decode mc_A_isNumber 12 = .ok (.goto 4, 3) := by decide +kernel
theorem md_A_isNumber_15 : decode mc_A_isNumber 15 = .ok (.iconst 0, 1) := by decide +kernel
theorem md_A_isNumber_16 : decode mc_A_isNumber 16 = .ok (.ireturn, 1) := by decide +kernel
theorem md_A_isWithin_0 : decode mc_A_isWithin 0 = .ok (.iload_n 0, 1) := by decide +kernel
theorem md_A_isWithin_1 : decode mc_A_isWithin 1 = .ok (.iload_n 1, 1) := by decide +kernel
theorem md_A_isWithin_2 : decode mc_A_isWithin 2 = .ok (.ineg, 1) := by decide +kernel
theorem md_A_isWithin_3 : decode mc_A_isWithin 3 = .ok (.if_icmp .lt 12, 3) := by decide +kernel
theorem md_A_isWithin_6 : decode mc_A_isWithin 6 = .ok (.iload_n 0, 1) := by decide +kernel
theorem md_A_isWithin_7 : decode mc_A_isWithin 7 = .ok (.iload_n 1, 1) := by decide +kernel
theorem md_A_isWithin_8 : decode mc_A_isWithin 8 = .ok (.if_icmp .gt 7, 3) := by decide +kernel
theorem md_A_isWithin_11 : decode mc_A_isWithin 11 = .ok (.iconst 1, 1) := by decide +kernel
theorem md_A_isWithin_12 : decode mc_A_isWithin 12 = .ok (.goto 4, 3) := by decide +kernel
theorem md_A_isWithin_15 : decode mc_A_isWithin 15 = .ok (.iconst 0, 1) := by decide +kernel
theorem md_A_isWithin_16 : decode mc_A_isWithin 16 = .ok (.ireturn, 1) := by decide +kernel
theorem md_A_checkSender_0 : decode mc_A_checkSender 0 = .ok (.iload_n 0, 1) := by decide +kernel
theorem md_A_checkSender_1 : decode mc_A_checkSender 1 = .ok (.invokestatic 156, 3) := by decide +kernel
theorem md_A_checkSender_4 : decode mc_A_checkSender 4 = .ok (.ifCond .ne 13, 3) := by decide +kernel
theorem md_A_checkSender_7 : decode mc_A_checkSender 7 = .ok (.new 102, 3) := by decide +kernel
theorem md_A_checkSender_10 : decode mc_A_checkSender 10 = .ok (.dup, 1) := by decide +kernel
theorem md_A_checkSender_11 : decode mc_A_checkSender 11 = .ok (.ldc 166, 2) := by decide +kernel
theorem md_A_checkSender_13 : decode mc_A_checkSender 13 = .ok (.invokespecial 106, 3) := by decide +kernel
theorem md_A_checkSender_16 : decode mc_A_checkSender 16 = .ok (.athrow, 1) := by decide +kernel
theorem md_A_checkSender_17 : decode mc_A_checkSender 17 = .ok (.return_, 1) := by decide +kernel
theorem md_A_checkNumber_0 : decode mc_A_checkNumber 0 = .ok (.iload_n 0, 1) := by decide +kernel
theorem md_A_checkNumber_1 : decode mc_A_checkNumber 1 = .ok (.invokestatic 168, 3) := by decide +kernel
theorem md_A_checkNumber_4 : decode mc_A_checkNumber 4 = .ok (.ifCond .ne 13, 3) := by decide +kernel
theorem md_A_checkNumber_7 : decode mc_A_checkNumber 7 = .ok (.new 102, 3) := by decide +kernel
theorem md_A_checkNumber_10 : decode mc_A_checkNumber 10 = .ok (.dup, 1) := by decide +kernel
theorem md_A_checkNumber_11 : decode mc_A_checkNumber 11 = .ok (.ldc 171, 2) := by decide +kernel
theorem md_A_checkNumber_13 : decode mc_A_checkNumber 13 = .ok (.invokespecial 106, 3) := by decide +kernel
theorem md_A_checkNumber_16 : decode mc_A_checkNumber 16 = .ok (.athrow, 1) := by decide +kernel
theorem md_A_checkNumber_17 : decode mc_A_checkNumber 17 = .ok (.return_, 1) := by decide +kernel
theorem md_A_checkContent_0 : decode mc_A_checkContent 0 = .ok (.iload_n 0, 1) := by decide +kernel
theorem md_A_checkContent_1 : decode mc_A_checkContent 1 = .ok (.invokestatic 98, 3) := by decide +kernel
theorem md_A_checkContent_4 : decode mc_A_checkContent 4 = .ok (.ifCond .eq 20, 3) := by decide +kernel
theorem md_A_checkContent_7 : decode mc_A_checkContent 7 = .ok (.iload_n 1, 1) := by decide +kernel
theorem md_A_checkContent_8 : decode mc_A_checkContent 8 = .ok (.invokestatic 92, 3) := by decide +kernel
theorem md_A_checkContent_11 : decode mc_A_checkContent 11 = .ok (.ifCond .eq 13, 3) := by decide +kernel
theorem md_A_checkContent_14 : decode mc_A_checkContent 14 = .ok (.iload_n 2, 1) := by decide +kernel
theorem md_A_checkContent_15 : decode mc_A_checkContent 15 = .ok (.sipush 1000, 3) := by decide +kernel
theorem md_A_checkContent_18 : decode mc_A_checkContent 18 = .ok (.invokestatic 173, 3) := by decide +kernel
theorem md_A_checkContent_21 : decode mc_A_checkContent 21 = .ok (.ifCond .ne 13, 3) := by decide +kernel
theorem md_A_checkContent_24 : decode mc_A_checkContent 24 = .ok (.new 102, 3) := by decide +kernel
theorem md_A_checkContent_27 : decode mc_A_checkContent 27 = .ok (.dup, 1) := by decide +kernel
theorem md_A_checkContent_28 : decode mc_A_checkContent 28 = .ok (.ldc 176, 2) := by decide +kernel
theorem md_A_checkContent_30 : decode mc_A_checkContent 30 = .ok (.invokespecial 106, 3) := by decide +kernel
theorem md_A_checkContent_33 : decode mc_A_checkContent 33 = .ok (.athrow, 1) := by decide +kernel
theorem md_A_checkContent_34 : decode mc_A_checkContent 34 = .ok (.return_, 1) := by decide +kernel
theorem md_A_come_0 : decode mc_A_come 0 = .ok (.aload_n 2, 1) := by decide +kernel
theorem md_A_come_1 : decode mc_A_come 1 = .ok (.iconst 0, 1) := by decide +kernel
theorem md_A_come_2 : decode mc_A_come 2 = .ok (.putfield 86, 3) := by decide +kernel
theorem md_A_come_5 : decode mc_A_come 5 = .ok (.aload_n 2, 1) := by decide +kernel
theorem md_A_come_6 : decode mc_A_come 6 = .ok (.aload_n 0, 1) := by decide +kernel
theorem md_A_come_7 : decode mc_A_come 7 = .ok (.getfield 41, 3) := by decide +kernel
theorem md_A_come_10 : decode mc_A_come 10 = .ok (.putfield 178, 3) := by decide +kernel
theorem md_A_come_13 : decode mc_A_come 13 = .ok (.aload_n 2, 1) := by decide +kernel
theorem md_A_come_14 : decode mc_A_come 14 = .ok (.getfield 181, 3) := by decide +kernel
theorem md_A_come_17 : decode mc_A_come 17 = .ok (.iconst 3, 1) := by decide +kernel
theorem md_A_come_18 : decode mc_A_come 18 = .ok (.if_icmp .ne 9, 3) := by decide +kernel
theorem md_A_come_21 : decode mc_A_come 21 = .ok (.aload_n 0, 1) := by decide +kernel
theorem md_A_come_22 : decode mc_A_come 22 = .ok (.aload_n 2, 1) := by decide +kernel
theorem md_A_come_23 : decode mc_A_come 23 = .ok (.iconst 0, 1) := by decide +kernel
theorem md_A_come_24 : decode mc_A_come 24 = .ok (.invokevirtual 184, 3) := by decide +kernel
theorem md_A_come_27 : decode mc_A_come 27 = .ok (.aload_n 0, 1) := by decide +kernel
theorem md_A_come_28 : decode mc_A_come 28 = .ok (.aload_n 1, 1) := by decide +kernel
theorem md_A_come_29 : decode mc_A_come 29 = .ok (.invokevirtual 129, 3) := by decide +kernel
theorem md_A_come_32 : decode mc_A_come 32 = .ok (.return_, 1) := by decide +kernel
theorem md_A_giveTurns_0 : decode mc_A_giveTurns 0 = .ok (.aload_n 1, 1) := by decide +kernel
theorem md_A_giveTurns_1 : decode mc_A_giveTurns 1 = .ok (.invokevirtual 118, 3) := by decide +kernel
theorem md_A_giveTurns_4 : decode mc_A_giveTurns 4 = .ok (.istore_n 2, 1) := by decide +kernel
theorem md_A_giveTurns_5 : decode mc_A_giveTurns 5 = .ok (.iconst 1, 1) := by decide +kernel
theorem md_A_giveTurns_6 : decode mc_A_giveTurns 6 = .ok (.istore_n 3, 1) := by decide +kernel
theorem md_A_giveTurns_7 : decode mc_A_giveTurns 7 = .ok (.iload_n 3, 1) := by decide +kernel
theorem md_A_giveTurns_8 : decode mc_A_giveTurns 8 = .ok (.iload_n 2, 1) := by decide +kernel
theorem md_A_giveTurns_9 : decode mc_A_giveTurns 9 = .ok (.if_icmp .ge 36, 3) := by decide +kernel
theorem md_A_giveTurns_12 : decode mc_A_giveTurns 12 = .ok (.aload_n 1, 1) := by decide +kernel
theorem md_A_giveTurns_13 : decode mc_A_giveTurns 13 = .ok (.iload_n 3, 1) := by decide +kernel
theorem md_A_giveTurns_14 : decode mc_A_giveTurns 14 = .ok (.invokevirtual 82, 3) := by decide +kernel
theorem md_A_giveTurns_17 : decode mc_A_giveTurns 17 = .ok (.astore 4, 2) := by decide +kernel
theorem md_A_giveTurns_19 : decode mc_A_giveTurns 19 = .ok (.aload 4, 2) := by decide +kernel
theorem md_A_giveTurns_21 : decode mc_A_giveTurns 21 = .ok (.ifnull 18, 3) := by decide +kernel
theorem md_A_giveTurns_24 : decode mc_A_giveTurns 24 = .ok (.aload 4, 2) := by decide +kernel
theorem md_A_giveTurns_26 : decode mc_A_giveTurns 26 = .ok (.getfield 86, 3) := by decide +kernel
theorem md_A_giveTurns_29 : decode mc_A_giveTurns 29 = .ok (.ifCond .ne 10, 3) := by decide +kernel
theorem md_A_giveTurns_32 : decode mc_A_giveTurns 32 = .ok (.aload_n 0, 1) := by decide +kernel
theorem md_A_giveTurns_33 : decode mc_A_giveTurns 33 = .ok (.aload 4, 2) := by decide +kernel
theorem md_A_giveTurns_35 : decode mc_A_giveTurns 35 = .ok (.iconst 0, 1) := by decide +kernel
theorem md_A_giveTurns_36 : decode mc_A_giveTurns 36 = .ok (.invokevirtual 184, 3) := by decide +kernel
theorem md_A_giveTurns_39 : decode mc_A_giveTurns 39 = .ok (.iinc 3 1, 3) := by decide +kernel
theorem md_A_giveTurns_42 : decode mc_A_giveTurns 42 = .ok (.goto (-35), 3) := by decide +kernel
theorem md_A_giveTurns_45 : decode mc_A_giveTurns 45 = .ok (.return_, 1) := by decide +kernel
theorem md_A_haveTurn_0 : decode mc_A_haveTurn 0 = .ok (.aload_n 0, 1) := by decide +kernel
theorem md_A_haveTurn_1 : decode mc_A_haveTurn 1 = .ok (.aload_n 1, 1) := by decide +kernel
theorem md_A_haveTurn_2 : decode mc_A_haveTurn 2 = .ok (.iload_n 2, 1) := by decide +kernel
theorem md_A_haveTurn_3 : decode mc_A_haveTurn 3 = .ok (.invokevirtual 188, 3) := by decide +kernel
theorem md_A_haveTurn_6 : decode mc_A_haveTurn 6 = .ok (.aload_n 1, 1) := by decide +kernel
theorem md_A_haveTurn_7 : decode mc_A_haveTurn 7 = .ok (.getfield 191, 3) := by decide +kernel
theorem md_A_haveTurn_10 : decode mc_A_haveTurn 10 = .ok (.getfield 95, 3) := by decide +kernel
theorem md_A_haveTurn_13 : decode mc_A_haveTurn 13 = .ok (.ifCond .ne 4, 3) := by decide +kernel
theorem md_A_haveTurn_16 : decode mc_A_haveTurn 16 = .ok (.return_, 1) := by decide +kernel
theorem md_A_haveTurn_17 : decode mc_A_haveTurn 17 = .ok (.iconst 0, 1) := by decide +kernel
theorem md_A_haveTurn_18 : decode mc_A_haveTurn 18 = .ok (.istore_n 3, 1) := by decide +kernel
theorem md_A_haveTurn_19 : decode mc_A_haveTurn 19 = .ok (.iload_n 3, 1) := by decide +kernel
theorem md_A_haveTurn_20 : decode mc_A_haveTurn 20 = .ok (.bipush 12, 2) := by decide +kernel
theorem md_A_haveTurn_22 : decode mc_A_haveTurn 22 = .ok (.if_icmp .ge 35, 3) := by decide +kernel
theorem md_A_haveTurn_25 : decode mc_A_haveTurn 25 = .ok (.aload_n 0, 1) := by decide +kernel
theorem md_A_haveTurn_26 : decode mc_A_haveTurn 26 = .ok (.getfield 35, 3) := by decide +kernel
theorem md_A_haveTurn_29 : decode mc_A_haveTurn 29 = .ok (.aload_n 1, 1) := by decide +kernel
theorem md_A_haveTurn_30 : decode mc_A_haveTurn 30 = .ok (.getfield 191, 3) := by decide +kernel
theorem md_A_haveTurn_33 : decode mc_A_haveTurn 33 = .ok (.invokevirtual 195, 3) := by decide +kernel
theorem md_A_haveTurn_36 : decode mc_A_haveTurn 36 = .ok (.astore 4, 2) := by decide +kernel
theorem md_A_haveTurn_38 : decode mc_A_haveTurn 38 = .ok (.aload 4, 2) := by decide +kernel
theorem md_A_haveTurn_40 : decode mc_A_haveTurn 40 = .ok (.ifnonnull 4, 3) := by decide +kernel
theorem md_A_haveTurn_43 : decode mc_A_haveTurn 43 = .ok (.return_, 1) := by decide +kernel
theorem md_A_haveTurn_44 : decode mc_A_haveTurn 44 = .ok (.aload_n 0, 1) := by decide +kernel
theorem md_A_haveTurn_45 : decode mc_A_haveTurn 45 = .ok (.aload 4, 2) := by decide +kernel
theorem md_A_haveTurn_47 : decode mc_A_haveTurn 47 = .ok (.iconst 0, 1) := by decide +kernel
theorem md_A_haveTurn_48 : decode mc_A_haveTurn 48 = .ok (.invokevirtual 188, 3) := by decide +kernel
theorem md_A_haveTurn_51 : decode mc_A_haveTurn 51 = .ok (.iinc 3 1, 3) := by decide +kernel
theorem md_A_haveTurn_54 : decode mc_A_haveTurn 54 = .ok (.goto (-35), 3) := by decide +kernel
theorem md_A_haveTurn_57 : decode mc_A_haveTurn 57 = .ok (.return_, 1) := by decide +kernel
theorem md_A_settle_0 : decode mc_A_settle 0 = .ok (.aload_n 0, 1) := by decide +kernel
theorem md_A_settle_1 : decode mc_A_settle 1 = .ok (.aload_n 1, 1) := by decide +kernel
theorem md_A_settle_2 : decode mc_A_settle 2 = .ok (.invokevirtual 199, 3) := by decide +kernel
theorem md_A_settle_5 : decode mc_A_settle 5 = .ok (.istore_n 3, 1) := by decide +kernel
theorem md_A_settle_6 : decode mc_A_settle 6 = .ok (.iload_n 3, 1) := by decide +kernel
theorem md_A_settle_7 : decode mc_A_settle 7 = .ok (.iconst (-1), 1) := by decide +kernel
theorem md_A_settle_8 : decode mc_A_settle 8 = .ok (.if_icmp .ne 27, 3) := by decide +kernel
theorem md_A_settle_11 : decode mc_A_settle 11 = .ok (.aload_n 1, 1) := by decide +kernel
theorem md_A_settle_12 : decode mc_A_settle 12 = .ok (.iconst 3, 1) := by decide +kernel
theorem md_A_settle_13 : decode mc_A_settle 13 = .ok (.putfield 86, 3) := by decide +kernel
theorem md_A_settle_16 : decode mc_A_settle 16 = .ok (.aload_n 1, 1) := by decide +kernel
theorem md_A_settle_17 : decode mc_A_settle 17 = .ok (.aload_n 0, 1) := by decide +kernel
theorem md_A_settle_18 : decode mc_A_settle 18 = .ok (.getfield 41, 3) := by decide +kernel
theorem md_A_settle_21 : decode mc_A_settle 21 = .ok (.putfield 202, 3) := by decide +kernel
theorem md_A_settle_24 : decode mc_A_settle 24 = .ok (.aload_n 0, 1) := by decide +kernel
theorem md_A_settle_25 : decode mc_A_settle 25 = .ok (.getfield 35, 3) := by decide +kernel
theorem md_A_settle_28 : decode mc_A_settle 28 = .ok (.aload_n 1, 1) := by decide +kernel
theorem md_A_settle_29 : decode mc_A_settle 29 = .ok (.invokevirtual 205, 3) := by decide +kernel
theorem md_A_settle_32 : decode mc_A_settle 32 = .ok (.goto 57, 3) := by decide +kernel
theorem md_A_settle_35 : decode mc_A_settle 35 = .ok (.iload_n 3, 1) := by decide +kernel
theorem md_A_settle_36 : decode mc_A_settle 36 = .ok (.ifCond .eq 17, 3) := by decide +kernel
theorem md_A_settle_39 : decode mc_A_settle 39 = .ok (.aload_n 1, 1) := by decide +kernel
theorem md_A_settle_40 : decode mc_A_settle 40 = .ok (.iconst 2, 1) := by decide +kernel
theorem md_A_settle_41 : decode mc_A_settle 41 = .ok (.putfield 86, 3) := by decide +kernel
theorem md_A_settle_44 : decode mc_A_settle 44 = .ok (.aload_n 1, 1) := by decide +kernel
theorem md_A_settle_45 : decode mc_A_settle 45 = .ok (.iload_n 3, 1) := by decide +kernel
theorem md_A_settle_46 : decode mc_A_settle 46 = .ok (.ineg, 1) := by decide +kernel
theorem md_A_settle_47 : decode mc_A_settle 47 = .ok (.putfield 89, 3) := by decide +kernel
theorem md_A_settle_50 : decode mc_A_settle 50 = .ok (.goto 39, 3) := by decide +kernel
theorem md_A_settle_53 : decode mc_A_settle 53 = .ok (.aload_n 0, 1) := by decide +kernel
theorem md_A_settle_54 : decode mc_A_settle 54 = .ok (.getfield 21, 3) := by decide +kernel
theorem md_A_settle_57 : decode mc_A_settle 57 = .ok (.aload_n 1, 1) := by decide +kernel
theorem md_A_settle_58 : decode mc_A_settle 58 = .ok (.getfield 181, 3) := by decide +kernel
theorem md_A_settle_61 : decode mc_A_settle 61 = .ok (.baload, 1) := by decide +kernel
theorem md_A_settle_62 : decode mc_A_settle 62 = .ok (.ifCond .eq 22, 3) := by decide +kernel
theorem md_A_settle_65 : decode mc_A_settle 65 = .ok (.aload_n 0, 1) := by decide +kernel
theorem md_A_settle_66 : decode mc_A_settle 66 = .ok (.getfield 21, 3) := by decide +kernel
theorem md_A_settle_69 : decode mc_A_settle 69 = .ok (.aload_n 1, 1) := by decide +kernel
theorem md_A_settle_70 : decode mc_A_settle 70 = .ok (.getfield 181, 3) := by decide +kernel
theorem md_A_settle_73 : decode mc_A_settle 73 = .ok (.iconst 0, 1) := by decide +kernel
theorem md_A_settle_74 : decode mc_A_settle 74 = .ok (.bastore, 1) := by decide +kernel
theorem md_A_settle_75 : decode mc_A_settle 75 = .ok (.aload_n 0, 1) := by decide +kernel
theorem md_A_settle_76 : decode mc_A_settle 76 = .ok (.aload_n 1, 1) := by decide +kernel
theorem md_A_settle_77 : decode mc_A_settle 77 = .ok (.iload_n 2, 1) := by decide +kernel
theorem md_A_settle_78 : decode mc_A_settle 78 = .ok (.invokevirtual 209, 3) := by decide +kernel
theorem md_A_settle_81 : decode mc_A_settle 81 = .ok (.goto 8, 3) := by decide +kernel
theorem md_A_settle_84 : decode mc_A_settle 84 = .ok (.aload_n 0, 1) := by decide +kernel
theorem md_A_settle_85 : decode mc_A_settle 85 = .ok (.aload_n 1, 1) := by decide +kernel
theorem md_A_settle_86 : decode mc_A_settle 86 = .ok (.invokevirtual 212, 3) := by decide +kernel
theorem md_A_settle_89 : decode mc_A_settle 89 = .ok (.return_, 1) := by decide +kernel
theorem md_A_verdict_0 : decode mc_A_verdict 0 = .ok (.aload_n 1, 1) := by decide +kernel
theorem md_A_verdict_1 : decode mc_A_verdict 1 = .ok (.getfield 191, 3) := by decide +kernel
theorem md_A_verdict_4 : decode mc_A_verdict 4 = .ok (.getfield 95, 3) := by decide +kernel
theorem md_A_verdict_7 : decode mc_A_verdict 7 = .ok (.istore_n 2, 1) := by decide +kernel
theorem md_A_verdict_8 : decode mc_A_verdict 8 = .ok (.aload_n 1, 1) := by decide +kernel
theorem md_A_verdict_9 : decode mc_A_verdict 9 = .ok (.getfield 181, 3) := by decide +kernel
theorem md_A_verdict_12 : decode mc_A_verdict 12 = .ok (.tableswitch 90 0 4 #[36, 84, 51, 90, 84], 36) := by decide +kernel
theorem md_A_verdict_48 : decode mc_A_verdict 48 = .ok (.iload_n 2, 1) := by decide +kernel
theorem md_A_verdict_49 : decode mc_A_verdict 49 = .ok (.ifCond .eq 8, 3) := by decide +kernel
theorem md_A_verdict_52 : decode mc_A_verdict 52 = .ok (.iload_n 2, 1) := by decide +kernel
theorem md_A_verdict_53 : decode mc_A_verdict 53 = .ok (.iconst 3, 1) := by decide +kernel
theorem md_A_verdict_54 : decode mc_A_verdict 54 = .ok (.if_icmp .ne 7, 3) := by decide +kernel
theorem md_A_verdict_57 : decode mc_A_verdict 57 = .ok (.iconst 0, 1) := by decide +kernel
theorem md_A_verdict_58 : decode mc_A_verdict 58 = .ok (.goto 4, 3) := by decide +kernel
theorem md_A_verdict_61 : decode mc_A_verdict 61 = .ok (.iconst 1, 1) := by decide +kernel
theorem md_A_verdict_62 : decode mc_A_verdict 62 = .ok (.ireturn, 1) := by decide +kernel
theorem md_A_verdict_63 : decode mc_A_verdict 63 = .ok (.iload_n 2, 1) := by decide +kernel
theorem md_A_verdict_64 : decode mc_A_verdict 64 = .ok (.iconst 1, 1) := by decide +kernel
theorem md_A_verdict_65 : decode mc_A_verdict 65 = .ok (.if_icmp .ne 25, 3) := by decide +kernel
theorem md_A_verdict_68 : decode mc_A_verdict 68 = .ok (.aload_n 1, 1) := by decide +kernel
theorem md_A_verdict_69 : decode mc_A_verdict 69 = .ok (.getfield 191, 3) := by decide +kernel
theorem md_A_verdict_72 : decode mc_A_verdict 72 = .ok (.getfield 141, 3) := by decide +kernel
theorem md_A_verdict_75 : decode mc_A_verdict 75 = .ok (.aload_n 1, 1) := by decide +kernel
theorem md_A_verdict_76 : decode mc_A_verdict 76 = .ok (.getfield 215, 3) := by decide +kernel
theorem md_A_verdict_79 : decode mc_A_verdict 79 = .ok (.iadd, 1) := by decide +kernel
theorem md_A_verdict_80 : decode mc_A_verdict 80 = .ok (.ldc 218, 2) := by decide +kernel
theorem md_A_verdict_82 : decode mc_A_verdict 82 = .ok (.invokestatic 173, 3) := by decide +kernel
theorem md_A_verdict_85 : decode mc_A_verdict 85 = .ok (.ifCond .ne 5, 3) := by decide +kernel
theorem md_A_verdict_88 : decode mc_A_verdict 88 = .ok (.iconst 4, 1) := by decide +kernel
theorem md_A_verdict_89 : decode mc_A_verdict 89 = .ok (.ireturn, 1) := by decide +kernel
theorem md_A_verdict_90 : decode mc_A_verdict 90 = .ok (.aload_n 0, 1) := by decide +kernel
theorem md_A_verdict_91 : decode mc_A_verdict 91 = .ok (.iload_n 2, 1) := by decide +kernel
theorem md_A_verdict_92 : decode mc_A_verdict 92 = .ok (.invokevirtual 219, 3) := by decide +kernel
theorem md_A_verdict_95 : decode mc_A_verdict 95 = .ok (.ireturn, 1) := by decide +kernel
theorem md_A_verdict_96 : decode mc_A_verdict 96 = .ok (.aload_n 0, 1) := by decide +kernel
theorem md_A_verdict_97 : decode mc_A_verdict 97 = .ok (.iload_n 2, 1) := by decide +kernel
theorem md_A_verdict_98 : decode mc_A_verdict 98 = .ok (.invokevirtual 219, 3) := by decide +kernel
theorem md_A_verdict_101 : decode mc_A_verdict 101 = .ok (.ireturn, 1) := by decide +kernel
theorem md_A_verdict_102 : decode mc_A_verdict 102 = .ok (.iconst 0, 1) := by decide +kernel
theorem md_A_verdict_103 : decode mc_A_verdict 103 = .ok (.ireturn, 1) := by decide +kernel
theorem md_A_verdictIfOpenIsAsked_0 : decode mc_A_verdictIfOpenIsAsked 0 = .ok (.iload_n 1, 1) := by decide +kernel
theorem md_A_verdictIfOpenIsAsked_1 : decode mc_A_verdictIfOpenIsAsked 1 = .ok (.tableswitch 53 0 3 #[31, 53, 49, 51], 31) := by decide +kernel
theorem md_A_verdictIfOpenIsAsked_32 : decode mc_A_verdictIfOpenIsAsked 32 = .ok (.aload_n 0, 1) := by decide +kernel
theorem md_A_verdictIfOpenIsAsked_33 : decode mc_A_verdictIfOpenIsAsked 33 = .ok (.getfield 35, 3) := by decide +kernel
theorem md_A_verdictIfOpenIsAsked_36 : decode mc_A_verdictIfOpenIsAsked 36 = .ok (.getfield 109, 3) := by decide +kernel
theorem md_A_verdictIfOpenIsAsked_39 : decode mc_A_verdictIfOpenIsAsked 39 = .ok (.bipush 12, 2) := by decide +kernel
theorem md_A_verdictIfOpenIsAsked_41 : decode mc_A_verdictIfOpenIsAsked 41 = .ok (.if_icmp .ge 7, 3) := by decide +kernel
theorem md_A_verdictIfOpenIsAsked_44 : decode mc_A_verdictIfOpenIsAsked 44 = .ok (.iconst (-1), 1) := by decide +kernel
theorem md_A_verdictIfOpenIsAsked_45 : decode mc_A_verdictIfOpenIsAsked 45 = .ok (.goto 4, 3) := by decide +kernel
theorem md_A_verdictIfOpenIsAsked_48 : decode mc_A_verdictIfOpenIsAsked 48 = .ok (.iconst 5, 1) := by decide +kernel
theorem md_A_verdictIfOpenIsAsked_49 : decode mc_A_verdictIfOpenIsAsked 49 = .ok (.ireturn, 1) := by decide +kernel
theorem md_A_verdictIfOpenIsAsked_50 : decode mc_A_verdictIfOpenIsAsked 50 = .ok (.iconst 2, 1) := by decide +kernel
theorem md_A_verdictIfOpenIsAsked_51 : decode mc_A_verdictIfOpenIsAsked 51 = .ok (.ireturn, 1) := by decide +kernel
theorem md_A_verdictIfOpenIsAsked_52 : decode mc_A_verdictIfOpenIsAsked 52 = .ok (.iconst 3, 1) := by decide +kernel
theorem md_A_verdictIfOpenIsAsked_53 : decode mc_A_verdictIfOpenIsAsked 53 = .ok (.ireturn, 1) := by decide +kernel
theorem md_A_verdictIfOpenIsAsked_54 : decode mc_A_verdictIfOpenIsAsked 54 = .ok (.iconst 0, 1) := by decide +kernel
theorem md_A_verdictIfOpenIsAsked_55 : decode mc_A_verdictIfOpenIsAsked 55 = .ok (.ireturn, 1) := by decide +kernel
theorem md_A_fail_0 : decode mc_A_fail 0 = .ok (.iload_n 2, 1) := by decide +kernel
theorem md_A_fail_1 : decode mc_A_fail 1 = .ok (.ifCond .eq 10, 3) := by decide +kernel
theorem md_A_fail_4 : decode mc_A_fail 4 = .ok (.aload_n 0, 1) := by decide +kernel
theorem md_A_fail_5 : decode mc_A_fail 5 = .ok (.getfield 32, 3) := by decide +kernel
theorem md_A_fail_8 : decode mc_A_fail 8 = .ok (.goto 7, 3) := by decide +kernel
theorem md_A_fail_11 : decode mc_A_fail 11 = .ok (.aload_n 0, 1) := by decide +kernel
theorem md_A_fail_12 : decode mc_A_fail 12 = .ok (.getfield 38, 3) := by decide +kernel
theorem md_A_fail_15 : decode mc_A_fail 15 = .ok (.astore_n 3, 1) := by decide +kernel
theorem md_A_fail_16 : decode mc_A_fail 16 = .ok (.aload_n 1, 1) := by decide +kernel
theorem md_A_fail_17 : decode mc_A_fail 17 = .ok (.iload_n 2, 1) := by decide +kernel
theorem md_A_fail_18 : decode mc_A_fail 18 = .ok (.ifCond .eq 7, 3) := by decide +kernel
theorem md_A_fail_21 : decode mc_A_fail 21 = .ok (.iconst 5, 1) := by decide +kernel
theorem md_A_fail_22 : decode mc_A_fail 22 = .ok (.goto 4, 3) := by decide +kernel
theorem md_A_fail_25 : decode mc_A_fail 25 = .ok (.iconst 4, 1) := by decide +kernel
theorem md_A_fail_26 : decode mc_A_fail 26 = .ok (.putfield 86, 3) := by decide +kernel
theorem md_A_fail_29 : decode mc_A_fail 29 = .ok (.aload_n 3, 1) := by decide +kernel
theorem md_A_fail_30 : decode mc_A_fail 30 = .ok (.aload_n 1, 1) := by decide +kernel
theorem md_A_fail_31 : decode mc_A_fail 31 = .ok (.invokevirtual 205, 3) := by decide +kernel
theorem md_A_fail_34 : decode mc_A_fail 34 = .ok (.return_, 1) := by decide +kernel
theorem md_A_perform_0 : decode mc_A_perform 0 = .ok (.aload_n 1, 1) := by decide +kernel
theorem md_A_perform_1 : decode mc_A_perform 1 = .ok (.getfield 191, 3) := by decide +kernel
theorem md_A_perform_4 : decode mc_A_perform 4 = .ok (.astore_n 2, 1) := by decide +kernel
theorem md_A_perform_5 : decode mc_A_perform 5 = .ok (.aload_n 1, 1) := by decide +kernel
theorem md_A_perform_6 : decode mc_A_perform 6 = .ok (.getfield 181, 3) := by decide +kernel
theorem md_A_perform_9 : decode mc_A_perform 9 = .ok (.tableswitch 86 0 4 #[35, 51, 62, 86, 78], 35) := by decide +kernel
theorem md_A_perform_44 : decode mc_A_perform 44 = .ok (.aload_n 2, 1) := by decide +kernel
theorem md_A_perform_45 : decode mc_A_perform 45 = .ok (.iconst 1, 1) := by decide +kernel
theorem md_A_perform_46 : decode mc_A_perform 46 = .ok (.putfield 95, 3) := by decide +kernel
theorem md_A_perform_49 : decode mc_A_perform 49 = .ok (.aload_n 2, 1) := by decide +kernel
theorem md_A_perform_50 : decode mc_A_perform 50 = .ok (.aload_n 1, 1) := by decide +kernel
theorem md_A_perform_51 : decode mc_A_perform 51 = .ok (.getfield 215, 3) := by decide +kernel
theorem md_A_perform_54 : decode mc_A_perform 54 = .ok (.putfield 141, 3) := by decide +kernel
theorem md_A_perform_57 : decode mc_A_perform 57 = .ok (.goto 54, 3) := by decide +kernel
theorem md_A_perform_60 : decode mc_A_perform 60 = .ok (.aload_n 2, 1) := by decide +kernel
theorem md_A_perform_61 : decode mc_A_perform 61 = .ok (.aload_n 1, 1) := by decide +kernel
theorem md_A_perform_62 : decode mc_A_perform 62 = .ok (.getfield 215, 3) := by decide +kernel
theorem md_A_perform_65 : decode mc_A_perform 65 = .ok (.putfield 141, 3) := by decide +kernel
theorem md_A_perform_68 : decode mc_A_perform 68 = .ok (.goto 43, 3) := by decide +kernel
theorem md_A_perform_71 : decode mc_A_perform 71 = .ok (.aload_n 2, 1) := by decide +kernel
theorem md_A_perform_72 : decode mc_A_perform 72 = .ok (.dup, 1) := by decide +kernel
theorem md_A_perform_73 : decode mc_A_perform 73 = .ok (.getfield 141, 3) := by decide +kernel
theorem md_A_perform_76 : decode mc_A_perform 76 = .ok (.aload_n 1, 1) := by decide +kernel
theorem md_A_perform_77 : decode mc_A_perform 77 = .ok (.getfield 215, 3) := by decide +kernel
theorem md_A_perform_80 : decode mc_A_perform 80 = .ok (.iadd, 1) := by decide +kernel
theorem md_A_perform_81 : decode mc_A_perform 81 = .ok (.putfield 141, 3) := by decide +kernel
theorem md_A_perform_84 : decode mc_A_perform 84 = .ok (.goto 27, 3) := by decide +kernel
theorem md_A_perform_87 : decode mc_A_perform 87 = .ok (.aload_n 2, 1) := by decide +kernel
theorem md_A_perform_88 : decode mc_A_perform 88 = .ok (.iconst 3, 1) := by decide +kernel
theorem md_A_perform_89 : decode mc_A_perform 89 = .ok (.putfield 95, 3) := by decide +kernel
theorem md_A_perform_92 : decode mc_A_perform 92 = .ok (.goto 19, 3) := by decide +kernel
theorem md_A_perform_95 : decode mc_A_perform 95 = .ok (.aload_n 1, 1) := by decide +kernel
theorem md_A_perform_96 : decode mc_A_perform 96 = .ok (.bipush 10, 2) := by decide +kernel
theorem md_A_perform_98 : decode mc_A_perform 98 = .ok (.aload_n 2, 1) := by decide +kernel
theorem md_A_perform_99 : decode mc_A_perform 99 = .ok (.getfield 141, 3) := by decide +kernel
theorem md_A_perform_102 : decode mc_A_perform 102 = .ok (.imul, 1) := by decide +kernel
theorem md_A_perform_103 : decode mc_A_perform 103 = .ok (.aload_n 2, 1) := by decide +kernel
theorem md_A_perform_104 : decode mc_A_perform 104 = .ok (.getfield 95, 3) := by decide +kernel
theorem md_A_perform_107 : decode mc_A_perform 107 = .ok (.iadd, 1) := by decide +kernel
theorem md_A_perform_108 : decode mc_A_perform 108 = .ok (.putfield 89, 3) := by decide +kernel
theorem md_A_perform_111 : decode mc_A_perform 111 = .ok (.aload_n 2, 1) := by decide +kernel
theorem md_A_perform_112 : decode mc_A_perform 112 = .ok (.dup, 1) := by decide +kernel
theorem md_A_perform_113 : decode mc_A_perform 113 = .ok (.getfield 144, 3) := by decide +kernel
theorem md_A_perform_116 : decode mc_A_perform 116 = .ok (.iconst 1, 1) := by decide +kernel
theorem md_A_perform_117 : decode mc_A_perform 117 = .ok (.iadd, 1) := by decide +kernel
theorem md_A_perform_118 : decode mc_A_perform 118 = .ok (.putfield 144, 3) := by decide +kernel
theorem md_A_perform_121 : decode mc_A_perform 121 = .ok (.aload_n 1, 1) := by decide +kernel
theorem md_A_perform_122 : decode mc_A_perform 122 = .ok (.iconst 1, 1) := by decide +kernel
theorem md_A_perform_123 : decode mc_A_perform 123 = .ok (.putfield 86, 3) := by decide +kernel
theorem md_A_perform_126 : decode mc_A_perform 126 = .ok (.aload_n 0, 1) := by decide +kernel
theorem md_A_perform_127 : decode mc_A_perform 127 = .ok (.getfield 28, 3) := by decide +kernel
theorem md_A_perform_130 : decode mc_A_perform 130 = .ok (.aload_n 1, 1) := by decide +kernel
theorem md_A_perform_131 : decode mc_A_perform 131 = .ok (.invokevirtual 205, 3) := by decide +kernel
theorem md_A_perform_134 : decode mc_A_perform 134 = .ok (.return_, 1) := by decide +kernel
theorem md_A_tryFailedAgain_0 : decode mc_A_tryFailedAgain 0 = .ok (.aload_n 0, 1) := by decide +kernel
theorem md_A_tryFailedAgain_1 : decode mc_A_tryFailedAgain 1 = .ok (.getfield 38, 3) := by decide +kernel
theorem md_A_tryFailedAgain_4 : decode mc_A_tryFailedAgain 4 = .ok (.getfield 109, 3) := by decide +kernel
theorem md_A_tryFailedAgain_7 : decode mc_A_tryFailedAgain 7 = .ok (.istore_n 1, 1) := by decide +kernel
theorem md_A_tryFailedAgain_8 : decode mc_A_tryFailedAgain 8 = .ok (.iconst 0, 1) := by decide +kernel
theorem md_A_tryFailedAgain_9 : decode mc_A_tryFailedAgain 9 = .ok (.istore_n 2, 1) := by decide +kernel
theorem md_A_tryFailedAgain_10 : decode mc_A_tryFailedAgain 10 = .ok (.iload_n 2, 1) := by decide +kernel
theorem md_A_tryFailedAgain_11 : decode mc_A_tryFailedAgain 11 = .ok (.iload_n 1, 1) := by decide +kernel
theorem md_A_tryFailedAgain_12 : decode mc_A_tryFailedAgain 12 = .ok (.if_icmp .ge 28, 3) := by decide +kernel
theorem md_A_tryFailedAgain_15 : decode mc_A_tryFailedAgain 15 = .ok (.aload_n 0, 1) := by decide +kernel
theorem md_A_tryFailedAgain_16 : decode mc_A_tryFailedAgain 16 = .ok (.getfield 38, 3) := by decide +kernel
theorem md_A_tryFailedAgain_19 : decode mc_A_tryFailedAgain 19 = .ok (.iconst 0, 1) := by decide +kernel
theorem md_A_tryFailedAgain_20 : decode mc_A_tryFailedAgain 20 = .ok (.invokevirtual 222, 3) := by decide +kernel
theorem md_A_tryFailedAgain_23 : decode mc_A_tryFailedAgain 23 = .ok (.astore_n 3, 1) := by decide +kernel
theorem md_A_tryFailedAgain_24 : decode mc_A_tryFailedAgain 24 = .ok (.aload_n 3, 1) := by decide +kernel
theorem md_A_tryFailedAgain_25 : decode mc_A_tryFailedAgain 25 = .ok (.ifnull 9, 3) := by decide +kernel
theorem md_A_tryFailedAgain_28 : decode mc_A_tryFailedAgain 28 = .ok (.aload_n 0, 1) := by decide +kernel
theorem md_A_tryFailedAgain_29 : decode mc_A_tryFailedAgain 29 = .ok (.aload_n 3, 1) := by decide +kernel
theorem md_A_tryFailedAgain_30 : decode mc_A_tryFailedAgain 30 = .ok (.iconst 1, 1) := by decide +kernel
theorem md_A_tryFailedAgain_31 : decode mc_A_tryFailedAgain 31 = .ok (.invokevirtual 184, 3) := by decide +kernel
theorem md_A_tryFailedAgain_34 : decode mc_A_tryFailedAgain 34 = .ok (.iinc 2 1, 3) := by decide +kernel
theorem md_A_tryFailedAgain_37 : decode mc_A_tryFailedAgain 37 = .ok (.goto (-27), 3) := by decide +kernel
theorem md_A_tryFailedAgain_40 : decode mc_A_tryFailedAgain 40 = .ok (.return_, 1) := by decide +kernel
theorem md_A_endLongWaits_0 : decode mc_A_endLongWaits 0 = .ok (.aload_n 0, 1) := by decide +kernel
theorem md_A_endLongWaits_1 : decode mc_A_endLongWaits 1 = .ok (.getfield 35, 3) := by decide +kernel
theorem md_A_endLongWaits_4 : decode mc_A_endLongWaits 4 = .ok (.getfield 109, 3) := by decide +kernel
theorem md_A_endLongWaits_7 : decode mc_A_endLongWaits 7 = .ok (.istore_n 1, 1) := by decide +kernel
theorem md_A_endLongWaits_8 : decode mc_A_endLongWaits 8 = .ok (.iload_n 1, 1) := by decide +kernel
theorem md_A_endLongWaits_9 : decode mc_A_endLongWaits 9 = .ok (.ifCond .le 59, 3) := by decide +kernel
theorem md_A_endLongWaits_12 : decode mc_A_endLongWaits 12 = .ok (.aload_n 0, 1) := by decide +kernel
theorem md_A_endLongWaits_13 : decode mc_A_endLongWaits 13 = .ok (.getfield 35, 3) := by decide +kernel
theorem md_A_endLongWaits_16 : decode mc_A_endLongWaits 16 = .ok (.iconst 0, 1) := by decide +kernel
theorem md_A_endLongWaits_17 : decode mc_A_endLongWaits 17 = .ok (.invokevirtual 225, 3) := by decide +kernel
theorem md_A_endLongWaits_20 : decode mc_A_endLongWaits 20 = .ok (.astore_n 2, 1) := by decide +kernel
theorem md_A_endLongWaits_21 : decode mc_A_endLongWaits 21 = .ok (.aload_n 2, 1) := by decide +kernel
theorem md_A_endLongWaits_22 : decode mc_A_endLongWaits 22 = .ok (.ifnull 17, 3) := by decide +kernel
theorem md_A_endLongWaits_25 : decode mc_A_endLongWaits 25 = .ok (.aload_n 0, 1) := by decide +kernel
theorem md_A_endLongWaits_26 : decode mc_A_endLongWaits 26 = .ok (.getfield 41, 3) := by decide +kernel
theorem md_A_endLongWaits_29 : decode mc_A_endLongWaits 29 = .ok (.aload_n 2, 1) := by decide +kernel
theorem md_A_endLongWaits_30 : decode mc_A_endLongWaits 30 = .ok (.getfield 202, 3) := by decide +kernel
theorem md_A_endLongWaits_33 : decode mc_A_endLongWaits 33 = .ok (.isub, 1) := by decide +kernel
theorem md_A_endLongWaits_34 : decode mc_A_endLongWaits 34 = .ok (.bipush 50, 2) := by decide +kernel
theorem md_A_endLongWaits_36 : decode mc_A_endLongWaits 36 = .ok (.if_icmp .gt 4, 3) := by decide +kernel
theorem md_A_endLongWaits_39 : decode mc_A_endLongWaits 39 = .ok (.return_, 1) := by decide +kernel
theorem md_A_endLongWaits_40 : decode mc_A_endLongWaits 40 = .ok (.aload_n 0, 1) := by decide +kernel
theorem md_A_endLongWaits_41 : decode mc_A_endLongWaits 41 = .ok (.getfield 35, 3) := by decide +kernel
theorem md_A_endLongWaits_44 : decode mc_A_endLongWaits 44 = .ok (.iconst 0, 1) := by decide +kernel
theorem md_A_endLongWaits_45 : decode mc_A_endLongWaits 45 = .ok (.invokevirtual 222, 3) := by decide +kernel
theorem md_A_endLongWaits_48 : decode mc_A_endLongWaits 48 = .ok (.pop, 1) := by decide +kernel
theorem md_A_endLongWaits_49 : decode mc_A_endLongWaits 49 = .ok (.aload_n 2, 1) := by decide +kernel
theorem md_A_endLongWaits_50 : decode mc_A_endLongWaits 50 = .ok (.iconst 5, 1) := by decide +kernel
theorem md_A_endLongWaits_51 : decode mc_A_endLongWaits 51 = .ok (.putfield 86, 3) := by decide +kernel
theorem md_A_endLongWaits_54 : decode mc_A_endLongWaits 54 = .ok (.aload_n 0, 1) := by decide +kernel
theorem md_A_endLongWaits_55 : decode mc_A_endLongWaits 55 = .ok (.getfield 32, 3) := by decide +kernel
theorem md_A_endLongWaits_58 : decode mc_A_endLongWaits 58 = .ok (.aload_n 2, 1) := by decide +kernel
theorem md_A_endLongWaits_59 : decode mc_A_endLongWaits 59 = .ok (.invokevirtual 205, 3) := by decide +kernel
theorem md_A_endLongWaits_62 : decode mc_A_endLongWaits 62 = .ok (.iinc 1 (-1), 3) := by decide +kernel
theorem md_A_endLongWaits_65 : decode mc_A_endLongWaits 65 = .ok (.goto (-57), 3) := by decide +kernel
theorem md_A_endLongWaits_68 : decode mc_A_endLongWaits 68 = .ok (.return_, 1) := by decide +kernel
theorem md_A_received_0 : decode mc_A_received 0 = .ok (.aload_n 0, 1) := by decide +kernel
theorem md_A_received_1 : decode mc_A_received 1 = .ok (.getfield 86, 3) := by decide +kernel
theorem md_A_received_4 : decode mc_A_received 4 = .ok (.tableswitch 43 1 4 #[32, 38, 34, 36], 32) := by decide +kernel
theorem md_A_received_36 : decode mc_A_received 36 = .ok (.iconst 1, 1) := by decide +kernel
theorem md_A_received_37 : decode mc_A_received 37 = .ok (.ireturn, 1) := by decide +kernel
theorem md_A_received_38 : decode mc_A_received 38 = .ok (.iconst 4, 1) := by decide +kernel
theorem md_A_received_39 : decode mc_A_received 39 = .ok (.ireturn, 1) := by decide +kernel
theorem md_A_received_40 : decode mc_A_received 40 = .ok (.iconst 5, 1) := by decide +kernel
theorem md_A_received_41 : decode mc_A_received 41 = .ok (.ireturn, 1) := by decide +kernel
theorem md_A_received_42 : decode mc_A_received 42 = .ok (.aload_n 0, 1) := by decide +kernel
theorem md_A_received_43 : decode mc_A_received 43 = .ok (.getfield 89, 3) := by decide +kernel
theorem md_A_received_46 : decode mc_A_received 46 = .ok (.ireturn, 1) := by decide +kernel
theorem md_A_received_47 : decode mc_A_received 47 = .ok (.iconst 2, 1) := by decide +kernel
theorem md_A_received_48 : decode mc_A_received 48 = .ok (.ireturn, 1) := by decide +kernel
theorem md_A_nameAt_0 : decode mc_A_nameAt 0 = .ok (.aload_n 0, 1) := by decide +kernel
theorem md_A_nameAt_1 : decode mc_A_nameAt 1 = .ok (.iload_n 1, 1) := by decide +kernel
theorem md_A_nameAt_2 : decode mc_A_nameAt 2 = .ok (.invokevirtual 225, 3) := by decide +kernel
theorem md_A_nameAt_5 : decode mc_A_nameAt 5 = .ok (.astore_n 2, 1) := by decide +kernel
theorem md_A_nameAt_6 : decode mc_A_nameAt 6 = .ok (.aload_n 2, 1) := by decide +kernel
theorem md_A_nameAt_7 : decode mc_A_nameAt 7 = .ok (.ifnonnull 7, 3) := by decide +kernel
theorem md_A_nameAt_10 : decode mc_A_nameAt 10 = .ok (.iconst (-1), 1) := by decide +kernel
theorem md_A_nameAt_11 : decode mc_A_nameAt 11 = .ok (.goto 7, 3) := by decide +kernel
theorem md_A_nameAt_14 : decode mc_A_nameAt 14 = .ok (.aload_n 2, 1) := by decide +kernel
theorem md_A_nameAt_15 : decode mc_A_nameAt 15 = .ok (.getfield 226, 3) := by decide +kernel
theorem md_A_nameAt_18 : decode mc_A_nameAt 18 = .ok (.ireturn, 1) := by decide +kernel
