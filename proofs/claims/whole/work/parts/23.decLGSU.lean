theorem md_L_init_0 : decode mc_L_init 0 = .ok (.aload_n 0, 1) := by decide +kernel
theorem md_L_init_1 : decode mc_L_init 1 = .ok (.invokespecial 3, 3) := by decide +kernel
theorem md_L_init_4 : decode mc_L_init 4 = .ok (.aload_n 0, 1) := by decide +kernel
theorem md_L_init_5 : decode mc_L_init 5 = .ok (.bipush 96, 2) := by decide +kernel
theorem md_L_init_7 : decode mc_L_init 7 = .ok (.anewarray 9, 3) := by decide +kernel
theorem md_L_init_10 : decode mc_L_init 10 = .ok (.putfield 11, 3) := by decide +kernel
theorem md_L_init_13 : decode mc_L_init 13 = .ok (.aload_n 0, 1) := by decide +kernel
theorem md_L_init_14 : decode mc_L_init 14 = .ok (.iconst 0, 1) := by decide +kernel
theorem md_L_init_15 : decode mc_L_init 15 = .ok (.putfield 17, 3) := by decide +kernel
theorem md_L_init_18 : decode mc_L_init 18 = .ok (.return_, 1) := by decide +kernel
theorem md_L_append_0 : decode mc_L_append 0 = .ok (.aload_n 0, 1) := by decide +kernel
theorem md_L_append_1 : decode mc_L_append 1 = .ok (.getfield 17, 3) := by decide +kernel
theorem md_L_append_4 : decode mc_L_append 4 = .ok (.ifCond .lt 35, 3) := by decide +kernel
theorem md_L_append_7 : decode mc_L_append 7 = .ok (.aload_n 0, 1) := by decide +kernel
theorem md_L_append_8 : decode mc_L_append 8 = .ok (.getfield 17, 3) := by decide +kernel
theorem md_L_append_11 : decode mc_L_append 11 = .ok (.aload_n 0, 1) := by decide +kernel
theorem md_L_append_12 : decode mc_L_append 12 = .ok (.getfield 11, 3) := by decide +kernel
theorem md_L_append_15 : decode mc_L_append 15 = .ok (.arraylength, 1) := by decide +kernel
theorem md_L_append_16 : decode mc_L_append 16 = .ok (.if_icmp .ge 23, 3) := by decide +kernel
theorem md_L_append_19 : decode mc_L_append 19 = .ok (.aload_n 0, 1) := by decide +kernel
theorem md_L_append_20 : decode mc_L_append 20 = .ok (.getfield 11, 3) := by decide +kernel
theorem md_L_append_23 : decode mc_L_append 23 = .ok (.aload_n 0, 1) := by decide +kernel
theorem md_L_append_24 : decode mc_L_append 24 = .ok (.getfield 17, 3) := by decide +kernel
theorem md_L_append_27 : decode mc_L_append 27 = .ok (.aload_n 1, 1) := by decide +kernel
theorem md_L_append_28 : decode mc_L_append 28 = .ok (.aastore, 1) := by decide +kernel
theorem md_L_append_29 : decode mc_L_append 29 = .ok (.aload_n 0, 1) := by decide +kernel
theorem md_L_append_30 : decode mc_L_append 30 = .ok (.dup, 1) := by decide +kernel
theorem md_L_append_31 : decode mc_L_append 31 = .ok (.getfield 17, 3) := by decide +kernel
theorem md_L_append_34 : decode mc_L_append 34 = .ok (.iconst 1, 1) := by decide +kernel
theorem md_L_append_35 : decode mc_L_append 35 = .ok (.iadd, 1) := by decide +kernel
theorem md_L_append_36 : decode mc_L_append 36 = .ok (.putfield 17, 3) := by decide +kernel
theorem md_L_append_39 : decode mc_L_append 39 = .ok (.return_, 1) := by decide +kernel
theorem md_L_get_0 : decode mc_L_get 0 = .ok (.iload_n 1, 1) := by decide +kernel
theorem md_L_get_1 : decode mc_L_get 1 = .ok (.ifCond .lt 29, 3) := by decide +kernel
theorem md_L_get_4 : decode mc_L_get 4 = .ok (.iload_n 1, 1) := by decide +kernel
theorem md_L_get_5 : decode mc_L_get 5 = .ok (.aload_n 0, 1) := by decide +kernel
theorem md_L_get_6 : decode mc_L_get 6 = .ok (.getfield 17, 3) := by decide +kernel
theorem md_L_get_9 : decode mc_L_get 9 = .ok (.if_icmp .ge 21, 3) := by decide +kernel
theorem md_L_get_12 : decode mc_L_get 12 = .ok (.iload_n 1, 1) := by decide +kernel
theorem md_L_get_13 : decode mc_L_get 13 = .ok (.aload_n 0, 1) := by decide +kernel
theorem md_L_get_14 : decode mc_L_get 14 = .ok (.getfield 11, 3) := by decide +kernel
theorem md_L_get_17 : decode mc_L_get 17 = .ok (.arraylength, 1) := by decide +kernel
theorem md_L_get_18 : decode mc_L_get 18 = .ok (.if_icmp .ge 12, 3) := by decide +kernel
theorem md_L_get_21 : decode mc_L_get 21 = .ok (.aload_n 0, 1) := by decide +kernel
theorem md_L_get_22 : decode mc_L_get 22 = .ok (.getfield 11, 3) := by decide +kernel
theorem md_L_get_25 : decode mc_L_get 25 = .ok (.iload_n 1, 1) := by decide +kernel
theorem md_L_get_26 : decode mc_L_get 26 = .ok (.aaload, 1) := by decide +kernel
theorem md_L_get_27 : decode mc_L_get 27 = .ok (.goto 4, 3) := by decide +kernel
theorem md_L_get_30 : decode mc_L_get 30 = .ok (.aconst_null, 1) := by decide +kernel
theorem md_L_get_31 : decode mc_L_get 31 = .ok (.areturn, 1) := by decide +kernel
theorem md_L_take_0 : decode mc_L_take 0 = .ok (.aload_n 0, 1) := by decide +kernel
theorem md_L_take_1 : decode mc_L_take 1 = .ok (.iload_n 1, 1) := by decide +kernel
theorem md_L_take_2 : decode mc_L_take 2 = .ok (.invokevirtual 21, 3) := by decide +kernel
theorem md_L_take_5 : decode mc_L_take 5 = .ok (.astore_n 2, 1) := by decide +kernel
theorem md_L_take_6 : decode mc_L_take 6 = .ok (.aload_n 2, 1) := by decide +kernel
theorem md_L_take_7 : decode mc_L_take 7 = .ok (.ifnull 55, 3) := by decide +kernel
theorem md_L_take_10 : decode mc_L_take 10 = .ok (.iload_n 1, 1) := by decide +kernel
theorem md_L_take_11 : decode mc_L_take 11 = .ok (.iconst 1, 1) := by decide +kernel
theorem md_L_take_12 : decode mc_L_take 12 = .ok (.iadd, 1) := by decide +kernel
theorem md_L_take_13 : decode mc_L_take 13 = .ok (.istore_n 3, 1) := by decide +kernel
theorem md_L_take_14 : decode mc_L_take 14 = .ok (.iload_n 3, 1) := by decide +kernel
theorem md_L_take_15 : decode mc_L_take 15 = .ok (.aload_n 0, 1) := by decide +kernel
theorem md_L_take_16 : decode mc_L_take 16 = .ok (.getfield 17, 3) := by decide +kernel
theorem md_L_take_19 : decode mc_L_take 19 = .ok (.if_icmp .ge 23, 3) := by decide +kernel
theorem md_L_take_22 : decode mc_L_take 22 = .ok (.aload_n 0, 1) := by decide +kernel
theorem md_L_take_23 : decode mc_L_take 23 = .ok (.getfield 11, 3) := by decide +kernel
theorem md_L_take_26 : decode mc_L_take 26 = .ok (.iload_n 3, 1) := by decide +kernel
theorem md_L_take_27 : decode mc_L_take 27 = .ok (.iconst 1, 1) := by decide +kernel
theorem md_L_take_28 : decode mc_L_take 28 = .ok (.isub, 1) := by decide +kernel
theorem md_L_take_29 : decode mc_L_take 29 = .ok (.aload_n 0, 1) := by decide +kernel
theorem md_L_take_30 : decode mc_L_take 30 = .ok (.getfield 11, 3) := by decide +kernel
theorem md_L_take_33 : decode mc_L_take 33 = .ok (.iload_n 3, 1) := by decide +kernel
theorem md_L_take_34 : decode mc_L_take 34 = .ok (.aaload, 1) := by decide +kernel
theorem md_L_take_35 : decode mc_L_take 35 = .ok (.aastore, 1) := by decide +kernel
theorem md_L_take_36 : decode mc_L_take 36 = .ok (.iinc 3 1, 3) := by decide +kernel
theorem md_L_take_39 : decode mc_L_take 39 = .ok (.goto (-25), 3) := by decide +kernel
theorem md_L_take_42 : decode mc_L_take 42 = .ok (.aload_n 0, 1) := by decide +kernel
theorem md_L_take_43 : decode mc_L_take 43 = .ok (.dup, 1) := by decide +kernel
theorem md_L_take_44 : decode mc_L_take 44 = .ok (.getfield 17, 3) := by decide +kernel
theorem md_L_take_47 : decode mc_L_take 47 = .ok (.iconst 1, 1) := by decide +kernel
theorem md_L_take_48 : decode mc_L_take 48 = .ok (.isub, 1) := by decide +kernel
theorem md_L_take_49 : decode mc_L_take 49 = .ok (.putfield 17, 3) := by decide +kernel
theorem md_L_take_52 : decode mc_L_take 52 = .ok (.aload_n 0, 1) := by decide +kernel
theorem md_L_take_53 : decode mc_L_take 53 = .ok (.getfield 11, 3) := by decide +kernel
theorem md_L_take_56 : decode mc_L_take 56 = .ok (.aload_n 0, 1) := by decide +kernel
theorem md_L_take_57 : decode mc_L_take 57 = .ok (.getfield 17, 3) := by decide +kernel
theorem md_L_take_60 : decode mc_L_take 60 = .ok (.aconst_null, 1) := by decide +kernel
theorem md_L_take_61 : decode mc_L_take 61 = .ok (.aastore, 1) := by decide +kernel
theorem md_L_take_62 : decode mc_L_take 62 = .ok (.aload_n 2, 1) := by decide +kernel
theorem md_L_take_63 : decode mc_L_take 63 = .ok (.areturn, 1) := by decide +kernel
theorem md_L_takeFirstFor_0 : decode mc_L_takeFirstFor 0 = .ok (.iconst 0, 1) := by decide +kernel
theorem md_L_takeFirstFor_1 : decode mc_L_takeFirstFor 1 = .ok (.istore_n 2, 1) := by decide +kernel
theorem md_L_takeFirstFor_2 : decode mc_L_takeFirstFor 2 = .ok (.iload_n 2, 1) := by decide +kernel
theorem md_L_takeFirstFor_3 : decode mc_L_takeFirstFor 3 = .ok (.aload_n 0, 1) := by decide +kernel
theorem md_L_takeFirstFor_4 : decode mc_L_takeFirstFor 4 = .ok (.getfield 17, 3) := by decide +kernel
theorem md_L_takeFirstFor_7 : decode mc_L_takeFirstFor 7 = .ok (.if_icmp .ge 33, 3) := by decide +kernel
theorem md_L_takeFirstFor_10 : decode mc_L_takeFirstFor 10 = .ok (.aload_n 0, 1) := by decide +kernel
theorem md_L_takeFirstFor_11 : decode mc_L_takeFirstFor 11 = .ok (.iload_n 2, 1) := by decide +kernel
theorem md_L_takeFirstFor_12 : decode mc_L_takeFirstFor 12 = .ok (.invokevirtual 21, 3) := by decide +kernel
theorem md_L_takeFirstFor_15 : decode mc_L_takeFirstFor 15 = .ok (.astore_n 3, 1) := by decide +kernel
theorem md_L_takeFirstFor_16 : decode mc_L_takeFirstFor 16 = .ok (.aload_n 3, 1) := by decide +kernel
theorem md_L_takeFirstFor_17 : decode mc_L_takeFirstFor 17 = .ok (.ifnull 17, 3) := by decide +kernel
theorem md_L_takeFirstFor_20 : decode mc_L_takeFirstFor 20 = .ok (.aload_n 3, 1) := by decide +kernel
theorem md_L_takeFirstFor_21 : decode mc_L_takeFirstFor 21 = .ok (.getfield 25, 3) := by decide +kernel
theorem md_L_takeFirstFor_24 : decode mc_L_takeFirstFor 24 = .ok (.aload_n 1, 1) := by decide +kernel
theorem md_L_takeFirstFor_25 : decode mc_L_takeFirstFor 25 = .ok (.if_acmp .ne 9, 3) := by decide +kernel
theorem md_L_takeFirstFor_28 : decode mc_L_takeFirstFor 28 = .ok (.aload_n 0, 1) := by decide +kernel
theorem md_L_takeFirstFor_29 : decode mc_L_takeFirstFor 29 = .ok (.iload_n 2, 1) := by decide +kernel
theorem md_L_takeFirstFor_30 : decode mc_L_takeFirstFor 30 = .ok (.invokevirtual 29, 3) := by decide +kernel
theorem md_L_takeFirstFor_33 : decode mc_L_takeFirstFor 33 = .ok (.areturn, 1) := by decide +kernel
theorem md_L_takeFirstFor_34 : decode mc_L_takeFirstFor 34 = .ok (.iinc 2 1, 3) := by decide +kernel
theorem md_L_takeFirstFor_37 : decode mc_L_takeFirstFor 37 = .ok (.goto (-35), 3) := by decide +kernel
theorem md_L_takeFirstFor_40 : decode mc_L_takeFirstFor 40 = .ok (.aconst_null, 1) := by decide +kernel
theorem md_L_takeFirstFor_41 : decode mc_L_takeFirstFor 41 = .ok (.areturn, 1) := by decide +kernel
theorem md_L_lengthFor_0 : decode mc_L_lengthFor 0 = .ok (.iconst 0, 1) := by decide +kernel
theorem md_L_lengthFor_1 : decode mc_L_lengthFor 1 = .ok (.istore_n 2, 1) := by decide +kernel
theorem md_L_lengthFor_2 : decode mc_L_lengthFor 2 = .ok (.iconst 0, 1) := by decide +kernel
theorem md_L_lengthFor_3 : decode mc_L_lengthFor 3 = .ok (.istore_n 3, 1) := by decide +kernel
theorem md_L_lengthFor_4 : decode mc_L_lengthFor 4 = .ok (.iload_n 3, 1) := by decide +kernel
theorem md_L_lengthFor_5 : decode mc_L_lengthFor 5 = .ok (.aload_n 0, 1) := by decide +kernel
theorem md_L_lengthFor_6 : decode mc_L_lengthFor 6 = .ok (.getfield 17, 3) := by decide +kernel
theorem md_L_lengthFor_9 : decode mc_L_lengthFor 9 = .ok (.if_icmp .ge 33, 3) := by decide +kernel
theorem md_L_lengthFor_12 : decode mc_L_lengthFor 12 = .ok (.aload_n 0, 1) := by decide +kernel
theorem md_L_lengthFor_13 : decode mc_L_lengthFor 13 = .ok (.iload_n 3, 1) := by decide +kernel
theorem md_L_lengthFor_14 : decode mc_L_lengthFor 14 = .ok (.invokevirtual 21, 3) := by decide +kernel
theorem md_L_lengthFor_17 : decode mc_L_lengthFor 17 = .ok (.astore 4, 2) := by decide +kernel
theorem md_L_lengthFor_19 : decode mc_L_lengthFor 19 = .ok (.aload 4, 2) := by decide +kernel
theorem md_L_lengthFor_21 : decode mc_L_lengthFor 21 = .ok (.ifnull 15, 3) := by decide +kernel
theorem md_L_lengthFor_24 : decode mc_L_lengthFor 24 = .ok (.aload 4, 2) := by decide +kernel
theorem md_L_lengthFor_26 : decode mc_L_lengthFor 26 = .ok (.getfield 25, 3) := by decide +kernel
theorem md_L_lengthFor_29 : decode mc_L_lengthFor 29 = .ok (.aload_n 1, 1) := by decide +kernel
theorem md_L_lengthFor_30 : decode mc_L_lengthFor 30 = .ok (.if_acmp .ne 6, 3) := by decide +kernel
theorem md_L_lengthFor_33 : decode mc_L_lengthFor 33 = .ok (.iinc 2 1, 3) := by decide +kernel
theorem md_L_lengthFor_36 : decode mc_L_lengthFor 36 = .ok (.iinc 3 1, 3) := by decide +kernel
theorem md_L_lengthFor_39 : decode mc_L_lengthFor 39 = .ok (.goto (-35), 3) := by decide +kernel
theorem md_L_lengthFor_42 : decode mc_L_lengthFor 42 = .ok (.iload_n 2, 1) := by decide +kernel
theorem md_L_lengthFor_43 : decode mc_L_lengthFor 43 = .ok (.ireturn, 1) := by decide +kernel
theorem md_G_init_0 : decode mc_G_init 0 = .ok (.aload_n 0, 1) := by decide +kernel
theorem md_G_init_1 : decode mc_G_init 1 = .ok (.invokespecial 3, 3) := by decide +kernel
theorem md_G_init_4 : decode mc_G_init 4 = .ok (.aload_n 0, 1) := by decide +kernel
theorem md_G_init_5 : decode mc_G_init 5 = .ok (.iconst 0, 1) := by decide +kernel
theorem md_G_init_6 : decode mc_G_init 6 = .ok (.putfield 9, 3) := by decide +kernel
theorem md_G_init_9 : decode mc_G_init 9 = .ok (.aload_n 0, 1) := by decide +kernel
theorem md_G_init_10 : decode mc_G_init 10 = .ok (.iconst 0, 1) := by decide +kernel
theorem md_G_init_11 : decode mc_G_init 11 = .ok (.putfield 15, 3) := by decide +kernel
theorem md_G_init_14 : decode mc_G_init 14 = .ok (.aload_n 0, 1) := by decide +kernel
theorem md_G_init_15 : decode mc_G_init 15 = .ok (.iconst 0, 1) := by decide +kernel
theorem md_G_init_16 : decode mc_G_init 16 = .ok (.putfield 18, 3) := by decide +kernel
theorem md_G_init_19 : decode mc_G_init 19 = .ok (.aload_n 0, 1) := by decide +kernel
theorem md_G_init_20 : decode mc_G_init 20 = .ok (.iconst 0, 1) := by decide +kernel
theorem md_G_init_21 : decode mc_G_init 21 = .ok (.putfield 21, 3) := by decide +kernel
theorem md_G_init_24 : decode mc_G_init 24 = .ok (.aload_n 0, 1) := by decide +kernel
theorem md_G_init_25 : decode mc_G_init 25 = .ok (.iload_n 1, 1) := by decide +kernel
theorem md_G_init_26 : decode mc_G_init 26 = .ok (.putfield 24, 3) := by decide +kernel
theorem md_G_init_29 : decode mc_G_init 29 = .ok (.aload_n 0, 1) := by decide +kernel
theorem md_G_init_30 : decode mc_G_init 30 = .ok (.iload_n 2, 1) := by decide +kernel
theorem md_G_init_31 : decode mc_G_init 31 = .ok (.putfield 27, 3) := by decide +kernel
theorem md_G_init_34 : decode mc_G_init 34 = .ok (.aload_n 0, 1) := by decide +kernel
theorem md_G_init_35 : decode mc_G_init 35 = .ok (.aload_n 3, 1) := by decide +kernel
theorem md_G_init_36 : decode mc_G_init 36 = .ok (.putfield 30, 3) := by decide +kernel
theorem md_G_init_39 : decode mc_G_init 39 = .ok (.aload_n 0, 1) := by decide +kernel
theorem md_G_init_40 : decode mc_G_init 40 = .ok (.iload 4, 2) := by decide +kernel
theorem md_G_init_42 : decode mc_G_init 42 = .ok (.putfield 34, 3) := by decide +kernel
theorem md_G_init_45 : decode mc_G_init 45 = .ok (.return_, 1) := by decide +kernel
theorem md_S_init_0 : decode mc_S_init 0 = .ok (.aload_n 0, 1) := by decide +kernel
theorem md_S_init_1 : decode mc_S_init 1 = .ok (.invokespecial 3, 3) := by decide +kernel
theorem md_S_init_4 : decode mc_S_init 4 = .ok (.aload_n 0, 1) := by decide +kernel
theorem md_S_init_5 : decode mc_S_init 5 = .ok (.bipush 25, 2) := by decide +kernel
theorem md_S_init_7 : decode mc_S_init 7 = .ok (.anewarray 9, 3) := by decide +kernel
theorem md_S_init_10 : decode mc_S_init 10 = .ok (.putfield 11, 3) := by decide +kernel
theorem md_S_init_13 : decode mc_S_init 13 = .ok (.aload_n 0, 1) := by decide +kernel
theorem md_S_init_14 : decode mc_S_init 14 = .ok (.bipush 25, 2) := by decide +kernel
theorem md_S_init_16 : decode mc_S_init 16 = .ok (.newarray .boolean, 2) := by decide +kernel
theorem md_S_init_18 : decode mc_S_init 18 = .ok (.putfield 17, 3) := by decide +kernel
theorem md_S_init_21 : decode mc_S_init 21 = .ok (.return_, 1) := by decide +kernel
theorem md_S_get_0 : decode mc_S_get 0 = .ok (.iload_n 1, 1) := by decide +kernel
theorem md_S_get_1 : decode mc_S_get 1 = .ok (.invokestatic 21, 3) := by decide +kernel
theorem md_S_get_4 : decode mc_S_get 4 = .ok (.ifCond .eq 12, 3) := by decide +kernel
theorem md_S_get_7 : decode mc_S_get 7 = .ok (.aload_n 0, 1) := by decide +kernel
theorem md_S_get_8 : decode mc_S_get 8 = .ok (.getfield 11, 3) := by decide +kernel
theorem md_S_get_11 : decode mc_S_get 11 = .ok (.iload_n 1, 1) := by decide +kernel
theorem md_S_get_12 : decode mc_S_get 12 = .ok (.aaload, 1) := by decide +kernel
theorem md_S_get_13 : decode mc_S_get 13 = .ok (.goto 4, 3) := by decide +kernel
theorem md_S_get_16 : decode mc_S_get 16 = .ok (.aconst_null, 1) := by decide +kernel
theorem md_S_get_17 : decode mc_S_get 17 = .ok (.areturn, 1) := by decide +kernel
theorem md_S_put_0 : decode mc_S_put 0 = .ok (.iload_n 1, 1) := by decide +kernel
theorem md_S_put_1 : decode mc_S_put 1 = .ok (.invokestatic 21, 3) := by decide +kernel
theorem md_S_put_4 : decode mc_S_put 4 = .ok (.ifCond .eq 10, 3) := by decide +kernel
theorem md_S_put_7 : decode mc_S_put 7 = .ok (.aload_n 0, 1) := by decide +kernel
theorem md_S_put_8 : decode mc_S_put 8 = .ok (.getfield 11, 3) := by decide +kernel
theorem md_S_put_11 : decode mc_S_put 11 = .ok (.iload_n 1, 1) := by decide +kernel
theorem md_S_put_12 : decode mc_S_put 12 = .ok (.aload_n 2, 1) := by decide +kernel
theorem md_S_put_13 : decode mc_S_put 13 = .ok (.aastore, 1) := by decide +kernel
theorem md_S_put_14 : decode mc_S_put 14 = .ok (.return_, 1) := by decide +kernel
theorem md_S_close_0 : decode mc_S_close 0 = .ok (.iload_n 1, 1) := by decide +kernel
theorem md_S_close_1 : decode mc_S_close 1 = .ok (.invokestatic 21, 3) := by decide +kernel
theorem md_S_close_4 : decode mc_S_close 4 = .ok (.ifCond .eq 10, 3) := by decide +kernel
theorem md_S_close_7 : decode mc_S_close 7 = .ok (.aload_n 0, 1) := by decide +kernel
theorem md_S_close_8 : decode mc_S_close 8 = .ok (.getfield 17, 3) := by decide +kernel
theorem md_S_close_11 : decode mc_S_close 11 = .ok (.iload_n 1, 1) := by decide +kernel
theorem md_S_close_12 : decode mc_S_close 12 = .ok (.iconst 1, 1) := by decide +kernel
theorem md_S_close_13 : decode mc_S_close 13 = .ok (.bastore, 1) := by decide +kernel
theorem md_S_close_14 : decode mc_S_close 14 = .ok (.return_, 1) := by decide +kernel
theorem md_S_isGap_0 : decode mc_S_isGap 0 = .ok (.iload_n 1, 1) := by decide +kernel
theorem md_S_isGap_1 : decode mc_S_isGap 1 = .ok (.invokestatic 21, 3) := by decide +kernel
theorem md_S_isGap_4 : decode mc_S_isGap 4 = .ok (.ifCond .eq 28, 3) := by decide +kernel
theorem md_S_isGap_7 : decode mc_S_isGap 7 = .ok (.aload_n 0, 1) := by decide +kernel
theorem md_S_isGap_8 : decode mc_S_isGap 8 = .ok (.getfield 17, 3) := by decide +kernel
theorem md_S_isGap_11 : decode mc_S_isGap 11 = .ok (.iload_n 1, 1) := by decide +kernel
theorem md_S_isGap_12 : decode mc_S_isGap 12 = .ok (.baload, 1) := by decide +kernel
theorem md_S_isGap_13 : decode mc_S_isGap 13 = .ok (.ifCond .ne 19, 3) := by decide +kernel
theorem md_S_isGap_16 : decode mc_S_isGap 16 = .ok (.aload_n 0, 1) := by decide +kernel
theorem md_S_isGap_17 : decode mc_S_isGap 17 = .ok (.getfield 11, 3) := by decide +kernel
theorem md_S_isGap_20 : decode mc_S_isGap 20 = .ok (.iload_n 1, 1) := by decide +kernel
theorem md_S_isGap_21 : decode mc_S_isGap 21 = .ok (.aaload, 1) := by decide +kernel
theorem md_S_isGap_22 : decode mc_S_isGap 22 = .ok (.invokestatic 25, 3) := by decide +kernel
theorem md_S_isGap_25 : decode mc_S_isGap 25 = .ok (.ifCond .ne 7, 3) := by decide +kernel
theorem md_S_isGap_28 : decode mc_S_isGap 28 = .ok (.iconst 1, 1) := by decide +kernel
theorem md_S_isGap_29 : decode mc_S_isGap 29 = .ok (.goto 4, 3) := by decide +kernel
theorem md_S_isGap_32 : decode mc_S_isGap 32 = .ok (.iconst 0, 1) := by decide +kernel
theorem md_S_isGap_33 : decode mc_S_isGap 33 = .ok (.ireturn, 1) := by decide +kernel
theorem md_S_isHere_0 : decode mc_S_isHere 0 = .ok (.aload_n 0, 1) := by decide +kernel
theorem md_S_isHere_1 : decode mc_S_isHere 1 = .ok (.ifnull 16, 3) := by decide +kernel
theorem md_S_isHere_4 : decode mc_S_isHere 4 = .ok (.aload_n 0, 1) := by decide +kernel
theorem md_S_isHere_5 : decode mc_S_isHere 5 = .ok (.getfield 29, 3) := by decide +kernel
theorem md_S_isHere_8 : decode mc_S_isHere 8 = .ok (.bipush 6, 2) := by decide +kernel
theorem md_S_isHere_10 : decode mc_S_isHere 10 = .ok (.if_icmp .eq 7, 3) := by decide +kernel
theorem md_S_isHere_13 : decode mc_S_isHere 13 = .ok (.iconst 1, 1) := by decide +kernel
theorem md_S_isHere_14 : decode mc_S_isHere 14 = .ok (.goto 4, 3) := by decide +kernel
theorem md_S_isHere_17 : decode mc_S_isHere 17 = .ok (.iconst 0, 1) := by decide +kernel
theorem md_S_isHere_18 : decode mc_S_isHere 18 = .ok (.ireturn, 1) := by decide +kernel
theorem md_S_leastGap_0 : decode mc_S_leastGap 0 = .ok (.iconst 1, 1) := by decide +kernel
theorem md_S_leastGap_1 : decode mc_S_leastGap 1 = .ok (.istore_n 1, 1) := by decide +kernel
theorem md_S_leastGap_2 : decode mc_S_leastGap 2 = .ok (.iload_n 1, 1) := by decide +kernel
theorem md_S_leastGap_3 : decode mc_S_leastGap 3 = .ok (.bipush 24, 2) := by decide +kernel
theorem md_S_leastGap_5 : decode mc_S_leastGap 5 = .ok (.if_icmp .gt 19, 3) := by decide +kernel
theorem md_S_leastGap_8 : decode mc_S_leastGap 8 = .ok (.aload_n 0, 1) := by decide +kernel
theorem md_S_leastGap_9 : decode mc_S_leastGap 9 = .ok (.iload_n 1, 1) := by decide +kernel
theorem md_S_leastGap_10 : decode mc_S_leastGap 10 = .ok (.invokevirtual 33, 3) := by decide +kernel
theorem md_S_leastGap_13 : decode mc_S_leastGap 13 = .ok (.ifCond .eq 5, 3) := by decide +kernel
theorem md_S_leastGap_16 : decode mc_S_leastGap 16 = .ok (.iload_n 1, 1) := by decide +kernel
theorem md_S_leastGap_17 : decode mc_S_leastGap 17 = .ok (.ireturn, 1) := by decide +kernel
theorem md_S_leastGap_18 : decode mc_S_leastGap 18 = .ok (.iinc 1 1, 3) := by decide +kernel
theorem md_S_leastGap_21 : decode mc_S_leastGap 21 = .ok (.goto (-19), 3) := by decide +kernel
theorem md_S_leastGap_24 : decode mc_S_leastGap 24 = .ok (.bipush 25, 2) := by decide +kernel
theorem md_S_leastGap_26 : decode mc_S_leastGap 26 = .ok (.ireturn, 1) := by decide +kernel
theorem md_S_greatest_0 : decode mc_S_greatest 0 = .ok (.bipush 24, 2) := by decide +kernel
theorem md_S_greatest_2 : decode mc_S_greatest 2 = .ok (.istore_n 1, 1) := by decide +kernel
theorem md_S_greatest_3 : decode mc_S_greatest 3 = .ok (.iload_n 1, 1) := by decide +kernel
theorem md_S_greatest_4 : decode mc_S_greatest 4 = .ok (.ifCond .le 22, 3) := by decide +kernel
theorem md_S_greatest_7 : decode mc_S_greatest 7 = .ok (.aload_n 0, 1) := by decide +kernel
theorem md_S_greatest_8 : decode mc_S_greatest 8 = .ok (.iload_n 1, 1) := by decide +kernel
theorem md_S_greatest_9 : decode mc_S_greatest 9 = .ok (.invokevirtual 36, 3) := by decide +kernel
theorem md_S_greatest_12 : decode mc_S_greatest 12 = .ok (.invokestatic 25, 3) := by decide +kernel
theorem md_S_greatest_15 : decode mc_S_greatest 15 = .ok (.ifCond .eq 5, 3) := by decide +kernel
theorem md_S_greatest_18 : decode mc_S_greatest 18 = .ok (.iload_n 1, 1) := by decide +kernel
theorem md_S_greatest_19 : decode mc_S_greatest 19 = .ok (.ireturn, 1) := by decide +kernel
theorem md_S_greatest_20 : decode mc_S_greatest 20 = .ok (.iinc 1 (-1), 3) := by decide +kernel
theorem md_S_greatest_23 : decode mc_S_greatest 23 = .ok (.goto (-20), 3) := by decide +kernel
theorem md_S_greatest_26 : decode mc_S_greatest 26 = .ok (.iconst 0, 1) := by decide +kernel
theorem md_S_greatest_27 : decode mc_S_greatest 27 = .ok (.ireturn, 1) := by decide +kernel
theorem md_S_cameBehind_0 : decode mc_S_cameBehind 0 = .ok (.iload_n 1, 1) := by decide +kernel
theorem md_S_cameBehind_1 : decode mc_S_cameBehind 1 = .ok (.iconst 1, 1) := by decide +kernel
theorem md_S_cameBehind_2 : decode mc_S_cameBehind 2 = .ok (.iadd, 1) := by decide +kernel
theorem md_S_cameBehind_3 : decode mc_S_cameBehind 3 = .ok (.istore_n 3, 1) := by decide +kernel
theorem md_S_cameBehind_4 : decode mc_S_cameBehind 4 = .ok (.iload_n 3, 1) := by decide +kernel
theorem md_S_cameBehind_5 : decode mc_S_cameBehind 5 = .ok (.bipush 24, 2) := by decide +kernel
theorem md_S_cameBehind_7 : decode mc_S_cameBehind 7 = .ok (.if_icmp .gt 35, 3) := by decide +kernel
theorem md_S_cameBehind_10 : decode mc_S_cameBehind 10 = .ok (.aload_n 0, 1) := by decide +kernel
theorem md_S_cameBehind_11 : decode mc_S_cameBehind 11 = .ok (.iload_n 3, 1) := by decide +kernel
theorem md_S_cameBehind_12 : decode mc_S_cameBehind 12 = .ok (.invokevirtual 36, 3) := by decide +kernel
theorem md_S_cameBehind_15 : decode mc_S_cameBehind 15 = .ok (.astore 4, 2) := by decide +kernel
theorem md_S_cameBehind_17 : decode mc_S_cameBehind 17 = .ok (.aload 4, 2) := by decide +kernel
theorem md_S_cameBehind_19 : decode mc_S_cameBehind 19 = .ok (.invokestatic 25, 3) := by decide +kernel
theorem md_S_cameBehind_22 : decode mc_S_cameBehind 22 = .ok (.ifCond .eq 14, 3) := by decide +kernel
theorem md_S_cameBehind_25 : decode mc_S_cameBehind 25 = .ok (.aload 4, 2) := by decide +kernel
theorem md_S_cameBehind_27 : decode mc_S_cameBehind 27 = .ok (.getfield 40, 3) := by decide +kernel
theorem md_S_cameBehind_30 : decode mc_S_cameBehind 30 = .ok (.iload_n 2, 1) := by decide +kernel
theorem md_S_cameBehind_31 : decode mc_S_cameBehind 31 = .ok (.if_icmp .ge 5, 3) := by decide +kernel
theorem md_S_cameBehind_34 : decode mc_S_cameBehind 34 = .ok (.iconst 1, 1) := by decide +kernel
theorem md_S_cameBehind_35 : decode mc_S_cameBehind 35 = .ok (.ireturn, 1) := by decide +kernel
theorem md_S_cameBehind_36 : decode mc_S_cameBehind 36 = .ok (.iinc 3 1, 3) := by decide +kernel
theorem md_S_cameBehind_39 : decode mc_S_cameBehind 39 = .ok (.goto (-35), 3) := by decide +kernel
theorem md_S_cameBehind_42 : decode mc_S_cameBehind 42 = .ok (.iconst 0, 1) := by decide +kernel
theorem md_S_cameBehind_43 : decode mc_S_cameBehind 43 = .ok (.ireturn, 1) := by decide +kernel
theorem md_S_withStatus_0 : decode mc_S_withStatus 0 = .ok (.iconst 0, 1) := by decide +kernel
theorem md_S_withStatus_1 : decode mc_S_withStatus 1 = .ok (.istore_n 2, 1) := by decide +kernel
theorem md_S_withStatus_2 : decode mc_S_withStatus 2 = .ok (.iconst 1, 1) := by decide +kernel
theorem md_S_withStatus_3 : decode mc_S_withStatus 3 = .ok (.istore_n 3, 1) := by decide +kernel
theorem md_S_withStatus_4 : decode mc_S_withStatus 4 = .ok (.iload_n 3, 1) := by decide +kernel
theorem md_S_withStatus_5 : decode mc_S_withStatus 5 = .ok (.bipush 24, 2) := by decide +kernel
theorem md_S_withStatus_7 : decode mc_S_withStatus 7 = .ok (.if_icmp .gt 33, 3) := by decide +kernel
theorem md_S_withStatus_10 : decode mc_S_withStatus 10 = .ok (.aload_n 0, 1) := by decide +kernel
theorem md_S_withStatus_11 : decode mc_S_withStatus 11 = .ok (.iload_n 3, 1) := by decide +kernel
theorem md_S_withStatus_12 : decode mc_S_withStatus 12 = .ok (.invokevirtual 36, 3) := by decide +kernel
theorem md_S_withStatus_15 : decode mc_S_withStatus 15 = .ok (.astore 4, 2) := by decide +kernel
theorem md_S_withStatus_17 : decode mc_S_withStatus 17 = .ok (.aload 4, 2) := by decide +kernel
theorem md_S_withStatus_19 : decode mc_S_withStatus 19 = .ok (.ifnull 15, 3) := by decide +kernel
theorem md_S_withStatus_22 : decode mc_S_withStatus 22 = .ok (.aload 4, 2) := by decide +kernel
theorem md_S_withStatus_24 : decode mc_S_withStatus 24 = .ok (.getfield 29, 3) := by decide +kernel
theorem md_S_withStatus_27 : decode mc_S_withStatus 27 = .ok (.iload_n 1, 1) := by decide +kernel
theorem md_S_withStatus_28 : decode mc_S_withStatus 28 = .ok (.if_icmp .ne 6, 3) := by decide +kernel
theorem md_S_withStatus_31 : decode mc_S_withStatus 31 = .ok (.iinc 2 1, 3) := by decide +kernel
theorem md_S_withStatus_34 : decode mc_S_withStatus 34 = .ok (.iinc 3 1, 3) := by decide +kernel
theorem md_S_withStatus_37 : decode mc_S_withStatus 37 = .ok (.goto (-33), 3) := by decide +kernel
theorem md_S_withStatus_40 : decode mc_S_withStatus 40 = .ok (.iload_n 2, 1) := by decide +kernel
theorem md_S_withStatus_41 : decode mc_S_withStatus 41 = .ok (.ireturn, 1) := by decide +kernel
theorem md_S_loseHeld_0 : decode mc_S_loseHeld 0 = .ok (.iconst 0, 1) := by decide +kernel
theorem md_S_loseHeld_1 : decode mc_S_loseHeld 1 = .ok (.istore_n 1, 1) := by decide +kernel
theorem md_S_loseHeld_2 : decode mc_S_loseHeld 2 = .ok (.iconst 1, 1) := by decide +kernel
theorem md_S_loseHeld_3 : decode mc_S_loseHeld 3 = .ok (.istore_n 2, 1) := by decide +kernel
theorem md_S_loseHeld_4 : decode mc_S_loseHeld 4 = .ok (.iload_n 2, 1) := by decide +kernel
theorem md_S_loseHeld_5 : decode mc_S_loseHeld 5 = .ok (.bipush 24, 2) := by decide +kernel
theorem md_S_loseHeld_7 : decode mc_S_loseHeld 7 = .ok (.if_icmp .gt 35, 3) := by decide +kernel
theorem md_S_loseHeld_10 : decode mc_S_loseHeld 10 = .ok (.aload_n 0, 1) := by decide +kernel
theorem md_S_loseHeld_11 : decode mc_S_loseHeld 11 = .ok (.iload_n 2, 1) := by decide +kernel
theorem md_S_loseHeld_12 : decode mc_S_loseHeld 12 = .ok (.invokevirtual 36, 3) := by decide +kernel
theorem md_S_loseHeld_15 : decode mc_S_loseHeld 15 = .ok (.astore_n 3, 1) := by decide +kernel
theorem md_S_loseHeld_16 : decode mc_S_loseHeld 16 = .ok (.aload_n 3, 1) := by decide +kernel
theorem md_S_loseHeld_17 : decode mc_S_loseHeld 17 = .ok (.ifnull 19, 3) := by decide +kernel
theorem md_S_loseHeld_20 : decode mc_S_loseHeld 20 = .ok (.aload_n 3, 1) := by decide +kernel
theorem md_S_loseHeld_21 : decode mc_S_loseHeld 21 = .ok (.getfield 29, 3) := by decide +kernel
theorem md_S_loseHeld_24 : decode mc_S_loseHeld 24 = .ok (.ifCond .ne 12, 3) := by decide +kernel
theorem md_S_loseHeld_27 : decode mc_S_loseHeld 27 = .ok (.aload_n 3, 1) := by decide +kernel
theorem md_S_loseHeld_28 : decode mc_S_loseHeld 28 = .ok (.bipush 6, 2) := by decide +kernel
theorem md_S_loseHeld_30 : decode mc_S_loseHeld 30 = .ok (.putfield 29, 3) := by decide +kernel
theorem md_S_loseHeld_33 : decode mc_S_loseHeld 33 = .ok (.iinc 1 1, 3) := by decide +kernel
theorem md_S_loseHeld_36 : decode mc_S_loseHeld 36 = .ok (.iinc 2 1, 3) := by decide +kernel
theorem md_S_loseHeld_39 : decode mc_S_loseHeld 39 = .ok (.goto (-35), 3) := by decide +kernel
theorem md_S_loseHeld_42 : decode mc_S_loseHeld 42 = .ok (.iload_n 1, 1) := by decide +kernel
theorem md_S_loseHeld_43 : decode mc_S_loseHeld 43 = .ok (.ireturn, 1) := by decide +kernel
theorem md_U_init_0 : decode mc_U_init 0 = .ok (.aload_n 0, 1) := by decide +kernel
theorem md_U_init_1 : decode mc_U_init 1 = .ok (.invokespecial 3, 3) := by decide +kernel
theorem md_U_init_4 : decode mc_U_init 4 = .ok (.aload_n 0, 1) := by decide +kernel
theorem md_U_init_5 : decode mc_U_init 5 = .ok (.iconst 0, 1) := by decide +kernel
theorem md_U_init_6 : decode mc_U_init 6 = .ok (.putfield 9, 3) := by decide +kernel
theorem md_U_init_9 : decode mc_U_init 9 = .ok (.aload_n 0, 1) := by decide +kernel
theorem md_U_init_10 : decode mc_U_init 10 = .ok (.iconst 0, 1) := by decide +kernel
theorem md_U_init_11 : decode mc_U_init 11 = .ok (.putfield 15, 3) := by decide +kernel
theorem md_U_init_14 : decode mc_U_init 14 = .ok (.aload_n 0, 1) := by decide +kernel
theorem md_U_init_15 : decode mc_U_init 15 = .ok (.iconst 0, 1) := by decide +kernel
theorem md_U_init_16 : decode mc_U_init 16 = .ok (.putfield 18, 3) := by decide +kernel
theorem md_U_init_19 : decode mc_U_init 19 = .ok (.return_, 1) := by decide +kernel
