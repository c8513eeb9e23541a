theorem d_Ds_init_0 : decode b_Ds_init 0 = .ok (.aload_n 0, 1) := by decide +kernel
theorem d_Ds_init_1 : decode b_Ds_init 1 = .ok (.invokespecial 3, 3) := by decide +kernel
theorem d_Ds_init_4 : decode b_Ds_init 4 = .ok (.aload_n 0, 1) := by decide +kernel
theorem d_Ds_init_5 : decode b_Ds_init 5 = .ok (.bipush 24, 2) := by decide +kernel
theorem d_Ds_init_7 : decode b_Ds_init 7 = .ok (.anewarray 9, 3) := by decide +kernel
theorem d_Ds_init_10 : decode b_Ds_init 10 = .ok (.putfield 11, 3) := by decide +kernel
theorem d_Ds_init_13 : decode b_Ds_init 13 = .ok (.iconst 0, 1) := by decide +kernel
theorem d_Ds_init_14 : decode b_Ds_init 14 = .ok (.istore_n 1, 1) := by decide +kernel
theorem d_Ds_init_15 : decode b_Ds_init 15 = .ok (.iload_n 1, 1) := by decide +kernel
theorem d_Ds_init_16 : decode b_Ds_init 16 = .ok (.bipush 24, 2) := by decide +kernel
theorem d_Ds_init_18 : decode b_Ds_init 18 = .ok (.if_icmp .ge 22, 3) := by decide +kernel
theorem d_Ds_init_21 : decode b_Ds_init 21 = .ok (.aload_n 0, 1) := by decide +kernel
theorem d_Ds_init_22 : decode b_Ds_init 22 = .ok (.getfield 11, 3) := by decide +kernel
theorem d_Ds_init_25 : decode b_Ds_init 25 = .ok (.iload_n 1, 1) := by decide +kernel
theorem d_Ds_init_26 : decode b_Ds_init 26 = .ok (.new 9, 3) := by decide +kernel
theorem d_Ds_init_29 : decode b_Ds_init 29 = .ok (.dup, 1) := by decide +kernel
theorem d_Ds_init_30 : decode b_Ds_init 30 = .ok (.invokespecial 15, 3) := by decide +kernel
theorem d_Ds_init_33 : decode b_Ds_init 33 = .ok (.aastore, 1) := by decide +kernel
theorem d_Ds_init_34 : decode b_Ds_init 34 = .ok (.iinc 1 1, 3) := by decide +kernel
theorem d_Ds_init_37 : decode b_Ds_init 37 = .ok (.goto (-22), 3) := by decide +kernel
theorem d_Ds_init_40 : decode b_Ds_init 40 = .ok (.aload_n 0, 1) := by decide +kernel
theorem d_Ds_init_41 : decode b_Ds_init 41 = .ok (.bipush 6, 2) := by decide +kernel
theorem d_Ds_init_43 : decode b_Ds_init 43 = .ok (.anewarray 16, 3) := by decide +kernel
theorem d_Ds_init_46 : decode b_Ds_init 46 = .ok (.putfield 18, 3) := by decide +kernel
theorem d_Ds_init_49 : decode b_Ds_init 49 = .ok (.iconst 0, 1) := by decide +kernel
theorem d_Ds_init_50 : decode b_Ds_init 50 = .ok (.istore_n 1, 1) := by decide +kernel
theorem d_Ds_init_51 : decode b_Ds_init 51 = .ok (.iload_n 1, 1) := by decide +kernel
theorem d_Ds_init_52 : decode b_Ds_init 52 = .ok (.bipush 6, 2) := by decide +kernel
theorem d_Ds_init_54 : decode b_Ds_init 54 = .ok (.if_icmp .ge 22, 3) := by decide +kernel
theorem d_Ds_init_57 : decode b_Ds_init 57 = .ok (.aload_n 0, 1) := by decide +kernel
theorem d_Ds_init_58 : decode b_Ds_init 58 = .ok (.getfield 18, 3) := by decide +kernel
theorem d_Ds_init_61 : decode b_Ds_init 61 = .ok (.iload_n 1, 1) := by decide +kernel
theorem d_Ds_init_62 : decode b_Ds_init 62 = .ok (.new 16, 3) := by decide +kernel
theorem d_Ds_init_65 : decode b_Ds_init 65 = .ok (.dup, 1) := by decide +kernel
theorem d_Ds_init_66 : decode b_Ds_init 66 = .ok (.invokespecial 22, 3) := by decide +kernel
theorem d_Ds_init_69 : decode b_Ds_init 69 = .ok (.aastore, 1) := by decide +kernel
theorem d_Ds_init_70 : decode b_Ds_init 70 = .ok (.iinc 1 1, 3) := by decide +kernel
theorem d_Ds_init_73 : decode b_Ds_init 73 = .ok (.goto (-22), 3) := by decide +kernel
theorem d_Ds_init_76 : decode b_Ds_init 76 = .ok (.aload_n 0, 1) := by decide +kernel
theorem d_Ds_init_77 : decode b_Ds_init 77 = .ok (.new 23, 3) := by decide +kernel
theorem d_Ds_init_80 : decode b_Ds_init 80 = .ok (.dup, 1) := by decide +kernel
theorem d_Ds_init_81 : decode b_Ds_init 81 = .ok (.invokespecial 25, 3) := by decide +kernel
theorem d_Ds_init_84 : decode b_Ds_init 84 = .ok (.putfield 26, 3) := by decide +kernel
theorem d_Ds_init_87 : decode b_Ds_init 87 = .ok (.aload_n 0, 1) := by decide +kernel
theorem d_Ds_init_88 : decode b_Ds_init 88 = .ok (.new 30, 3) := by decide +kernel
theorem d_Ds_init_91 : decode b_Ds_init 91 = .ok (.dup, 1) := by decide +kernel
theorem d_Ds_init_92 : decode b_Ds_init 92 = .ok (.invokespecial 32, 3) := by decide +kernel
theorem d_Ds_init_95 : decode b_Ds_init 95 = .ok (.putfield 33, 3) := by decide +kernel
theorem d_Ds_init_98 : decode b_Ds_init 98 = .ok (.return_, 1) := by decide +kernel
theorem d_Ds_begin_0 : decode b_Ds_begin 0 = .ok (.iload_n 1, 1) := by decide +kernel
theorem d_Ds_begin_1 : decode b_Ds_begin 1 = .ok (.sipush 256, 3) := by decide +kernel
theorem d_Ds_begin_4 : decode b_Ds_begin 4 = .ok (.invokestatic 37, 3) := by decide +kernel
theorem d_Ds_begin_7 : decode b_Ds_begin 7 = .ok (.ifCond .ne 5, 3) := by decide +kernel
theorem d_Ds_begin_10 : decode b_Ds_begin 10 = .ok (.iconst 0, 1) := by decide +kernel
theorem d_Ds_begin_11 : decode b_Ds_begin 11 = .ok (.ireturn, 1) := by decide +kernel
theorem d_Ds_begin_12 : decode b_Ds_begin 12 = .ok (.aload_n 0, 1) := by decide +kernel
theorem d_Ds_begin_13 : decode b_Ds_begin 13 = .ok (.iload_n 1, 1) := by decide +kernel
theorem d_Ds_begin_14 : decode b_Ds_begin 14 = .ok (.invokestatic 41, 3) := by decide +kernel
theorem d_Ds_begin_17 : decode b_Ds_begin 17 = .ok (.putfield 47, 3) := by decide +kernel
theorem d_Ds_begin_20 : decode b_Ds_begin 20 = .ok (.aload_n 0, 1) := by decide +kernel
theorem d_Ds_begin_21 : decode b_Ds_begin 21 = .ok (.invokevirtual 51, 3) := by decide +kernel
theorem d_Ds_begin_24 : decode b_Ds_begin 24 = .ok (.aload_n 0, 1) := by decide +kernel
theorem d_Ds_begin_25 : decode b_Ds_begin 25 = .ok (.getfield 26, 3) := by decide +kernel
theorem d_Ds_begin_28 : decode b_Ds_begin 28 = .ok (.invokevirtual 54, 3) := by decide +kernel
theorem d_Ds_begin_31 : decode b_Ds_begin 31 = .ok (.iconst 1, 1) := by decide +kernel
theorem d_Ds_begin_32 : decode b_Ds_begin 32 = .ok (.ireturn, 1) := by decide +kernel
theorem d_Ds_add_0 : decode b_Ds_add 0 = .ok (.iload_n 1, 1) := by decide +kernel
theorem d_Ds_add_1 : decode b_Ds_add 1 = .ok (.iload_n 2, 1) := by decide +kernel
theorem d_Ds_add_2 : decode b_Ds_add 2 = .ok (.iload_n 3, 1) := by decide +kernel
theorem d_Ds_add_3 : decode b_Ds_add 3 = .ok (.iload 4, 2) := by decide +kernel
theorem d_Ds_add_5 : decode b_Ds_add 5 = .ok (.invokestatic 57, 3) := by decide +kernel
theorem d_Ds_add_8 : decode b_Ds_add 8 = .ok (.ifCond .ne 5, 3) := by decide +kernel
theorem d_Ds_add_11 : decode b_Ds_add 11 = .ok (.iconst (-1), 1) := by decide +kernel
theorem d_Ds_add_12 : decode b_Ds_add 12 = .ok (.ireturn, 1) := by decide +kernel
theorem d_Ds_add_13 : decode b_Ds_add 13 = .ok (.aload_n 0, 1) := by decide +kernel
theorem d_Ds_add_14 : decode b_Ds_add 14 = .ok (.getfield 61, 3) := by decide +kernel
theorem d_Ds_add_17 : decode b_Ds_add 17 = .ok (.bipush 24, 2) := by decide +kernel
theorem d_Ds_add_19 : decode b_Ds_add 19 = .ok (.if_icmp .ne 6, 3) := by decide +kernel
theorem d_Ds_add_22 : decode b_Ds_add 22 = .ok (.bipush (-3), 2) := by decide +kernel
theorem d_Ds_add_24 : decode b_Ds_add 24 = .ok (.ireturn, 1) := by decide +kernel
theorem d_Ds_add_25 : decode b_Ds_add 25 = .ok (.aload_n 0, 1) := by decide +kernel
theorem d_Ds_add_26 : decode b_Ds_add 26 = .ok (.getfield 11, 3) := by decide +kernel
theorem d_Ds_add_29 : decode b_Ds_add 29 = .ok (.aload_n 0, 1) := by decide +kernel
theorem d_Ds_add_30 : decode b_Ds_add 30 = .ok (.getfield 61, 3) := by decide +kernel
theorem d_Ds_add_33 : decode b_Ds_add 33 = .ok (.aaload, 1) := by decide +kernel
theorem d_Ds_add_34 : decode b_Ds_add 34 = .ok (.iload_n 1, 1) := by decide +kernel
theorem d_Ds_add_35 : decode b_Ds_add 35 = .ok (.iload_n 2, 1) := by decide +kernel
theorem d_Ds_add_36 : decode b_Ds_add 36 = .ok (.iload_n 3, 1) := by decide +kernel
theorem d_Ds_add_37 : decode b_Ds_add 37 = .ok (.iload 4, 2) := by decide +kernel
theorem d_Ds_add_39 : decode b_Ds_add 39 = .ok (.invokevirtual 64, 3) := by decide +kernel
theorem d_Ds_add_42 : decode b_Ds_add 42 = .ok (.aload_n 0, 1) := by decide +kernel
theorem d_Ds_add_43 : decode b_Ds_add 43 = .ok (.dup, 1) := by decide +kernel
theorem d_Ds_add_44 : decode b_Ds_add 44 = .ok (.getfield 61, 3) := by decide +kernel
theorem d_Ds_add_47 : decode b_Ds_add 47 = .ok (.iconst 1, 1) := by decide +kernel
theorem d_Ds_add_48 : decode b_Ds_add 48 = .ok (.iadd, 1) := by decide +kernel
theorem d_Ds_add_49 : decode b_Ds_add 49 = .ok (.putfield 61, 3) := by decide +kernel
theorem d_Ds_add_52 : decode b_Ds_add 52 = .ok (.aload_n 0, 1) := by decide +kernel
theorem d_Ds_add_53 : decode b_Ds_add 53 = .ok (.getfield 26, 3) := by decide +kernel
theorem d_Ds_add_56 : decode b_Ds_add 56 = .ok (.invokevirtual 54, 3) := by decide +kernel
theorem d_Ds_add_59 : decode b_Ds_add 59 = .ok (.aload_n 0, 1) := by decide +kernel
theorem d_Ds_add_60 : decode b_Ds_add 60 = .ok (.getfield 61, 3) := by decide +kernel
theorem d_Ds_add_63 : decode b_Ds_add 63 = .ok (.iconst 1, 1) := by decide +kernel
theorem d_Ds_add_64 : decode b_Ds_add 64 = .ok (.isub, 1) := by decide +kernel
theorem d_Ds_add_65 : decode b_Ds_add 65 = .ok (.ireturn, 1) := by decide +kernel
theorem d_Ds_change_0 : decode b_Ds_change 0 = .ok (.iload_n 1, 1) := by decide +kernel
theorem d_Ds_change_1 : decode b_Ds_change 1 = .ok (.aload_n 0, 1) := by decide +kernel
theorem d_Ds_change_2 : decode b_Ds_change 2 = .ok (.getfield 61, 3) := by decide +kernel
theorem d_Ds_change_5 : decode b_Ds_change 5 = .ok (.invokestatic 37, 3) := by decide +kernel
theorem d_Ds_change_8 : decode b_Ds_change 8 = .ok (.ifCond .eq 15, 3) := by decide +kernel
theorem d_Ds_change_11 : decode b_Ds_change 11 = .ok (.iload_n 2, 1) := by decide +kernel
theorem d_Ds_change_12 : decode b_Ds_change 12 = .ok (.iload_n 3, 1) := by decide +kernel
theorem d_Ds_change_13 : decode b_Ds_change 13 = .ok (.iload 4, 2) := by decide +kernel
theorem d_Ds_change_15 : decode b_Ds_change 15 = .ok (.iload 5, 2) := by decide +kernel
theorem d_Ds_change_17 : decode b_Ds_change 17 = .ok (.invokestatic 57, 3) := by decide +kernel
theorem d_Ds_change_20 : decode b_Ds_change 20 = .ok (.ifCond .ne 5, 3) := by decide +kernel
theorem d_Ds_change_23 : decode b_Ds_change 23 = .ok (.iconst 0, 1) := by decide +kernel
theorem d_Ds_change_24 : decode b_Ds_change 24 = .ok (.ireturn, 1) := by decide +kernel
theorem d_Ds_change_25 : decode b_Ds_change 25 = .ok (.aload_n 0, 1) := by decide +kernel
theorem d_Ds_change_26 : decode b_Ds_change 26 = .ok (.getfield 11, 3) := by decide +kernel
theorem d_Ds_change_29 : decode b_Ds_change 29 = .ok (.iload_n 1, 1) := by decide +kernel
theorem d_Ds_change_30 : decode b_Ds_change 30 = .ok (.aaload, 1) := by decide +kernel
theorem d_Ds_change_31 : decode b_Ds_change 31 = .ok (.iload_n 2, 1) := by decide +kernel
theorem d_Ds_change_32 : decode b_Ds_change 32 = .ok (.iload_n 3, 1) := by decide +kernel
theorem d_Ds_change_33 : decode b_Ds_change 33 = .ok (.iload 4, 2) := by decide +kernel
theorem d_Ds_change_35 : decode b_Ds_change 35 = .ok (.iload 5, 2) := by decide +kernel
theorem d_Ds_change_37 : decode b_Ds_change 37 = .ok (.invokevirtual 64, 3) := by decide +kernel
theorem d_Ds_change_40 : decode b_Ds_change 40 = .ok (.aload_n 0, 1) := by decide +kernel
theorem d_Ds_change_41 : decode b_Ds_change 41 = .ok (.getfield 26, 3) := by decide +kernel
theorem d_Ds_change_44 : decode b_Ds_change 44 = .ok (.invokevirtual 54, 3) := by decide +kernel
theorem d_Ds_change_47 : decode b_Ds_change 47 = .ok (.iconst 1, 1) := by decide +kernel
theorem d_Ds_change_48 : decode b_Ds_change 48 = .ok (.ireturn, 1) := by decide +kernel
theorem d_Ds_clear_0 : decode b_Ds_clear 0 = .ok (.aload_n 0, 1) := by decide +kernel
theorem d_Ds_clear_1 : decode b_Ds_clear 1 = .ok (.getfield 61, 3) := by decide +kernel
theorem d_Ds_clear_4 : decode b_Ds_clear 4 = .ok (.istore_n 1, 1) := by decide +kernel
theorem d_Ds_clear_5 : decode b_Ds_clear 5 = .ok (.aload_n 0, 1) := by decide +kernel
theorem d_Ds_clear_6 : decode b_Ds_clear 6 = .ok (.iconst 0, 1) := by decide +kernel
theorem d_Ds_clear_7 : decode b_Ds_clear 7 = .ok (.putfield 61, 3) := by decide +kernel
theorem d_Ds_clear_10 : decode b_Ds_clear 10 = .ok (.aload_n 0, 1) := by decide +kernel
theorem d_Ds_clear_11 : decode b_Ds_clear 11 = .ok (.iconst 0, 1) := by decide +kernel
theorem d_Ds_clear_12 : decode b_Ds_clear 12 = .ok (.putfield 68, 3) := by decide +kernel
theorem d_Ds_clear_15 : decode b_Ds_clear 15 = .ok (.aload_n 0, 1) := by decide +kernel
theorem d_Ds_clear_16 : decode b_Ds_clear 16 = .ok (.invokevirtual 51, 3) := by decide +kernel
theorem d_Ds_clear_19 : decode b_Ds_clear 19 = .ok (.aload_n 0, 1) := by decide +kernel
theorem d_Ds_clear_20 : decode b_Ds_clear 20 = .ok (.getfield 26, 3) := by decide +kernel
theorem d_Ds_clear_23 : decode b_Ds_clear 23 = .ok (.invokevirtual 54, 3) := by decide +kernel
theorem d_Ds_clear_26 : decode b_Ds_clear 26 = .ok (.iload_n 1, 1) := by decide +kernel
theorem d_Ds_clear_27 : decode b_Ds_clear 27 = .ok (.ireturn, 1) := by decide +kernel
theorem d_Ds_claim_0 : decode b_Ds_claim 0 = .ok (.iload_n 1, 1) := by decide +kernel
theorem d_Ds_claim_1 : decode b_Ds_claim 1 = .ok (.iload_n 2, 1) := by decide +kernel
theorem d_Ds_claim_2 : decode b_Ds_claim 2 = .ok (.iload_n 3, 1) := by decide +kernel
theorem d_Ds_claim_3 : decode b_Ds_claim 3 = .ok (.invokestatic 71, 3) := by decide +kernel
theorem d_Ds_claim_6 : decode b_Ds_claim 6 = .ok (.ifCond .ne 5, 3) := by decide +kernel
theorem d_Ds_claim_9 : decode b_Ds_claim 9 = .ok (.iconst (-1), 1) := by decide +kernel
theorem d_Ds_claim_10 : decode b_Ds_claim 10 = .ok (.ireturn, 1) := by decide +kernel
theorem d_Ds_claim_11 : decode b_Ds_claim 11 = .ok (.aload_n 0, 1) := by decide +kernel
theorem d_Ds_claim_12 : decode b_Ds_claim 12 = .ok (.getfield 68, 3) := by decide +kernel
theorem d_Ds_claim_15 : decode b_Ds_claim 15 = .ok (.bipush 6, 2) := by decide +kernel
theorem d_Ds_claim_17 : decode b_Ds_claim 17 = .ok (.if_icmp .ne 6, 3) := by decide +kernel
theorem d_Ds_claim_20 : decode b_Ds_claim 20 = .ok (.bipush (-3), 2) := by decide +kernel
theorem d_Ds_claim_22 : decode b_Ds_claim 22 = .ok (.ireturn, 1) := by decide +kernel
theorem d_Ds_claim_23 : decode b_Ds_claim 23 = .ok (.aload_n 0, 1) := by decide +kernel
theorem d_Ds_claim_24 : decode b_Ds_claim 24 = .ok (.getfield 18, 3) := by decide +kernel
theorem d_Ds_claim_27 : decode b_Ds_claim 27 = .ok (.aload_n 0, 1) := by decide +kernel
theorem d_Ds_claim_28 : decode b_Ds_claim 28 = .ok (.getfield 68, 3) := by decide +kernel
theorem d_Ds_claim_31 : decode b_Ds_claim 31 = .ok (.aaload, 1) := by decide +kernel
theorem d_Ds_claim_32 : decode b_Ds_claim 32 = .ok (.iload_n 1, 1) := by decide +kernel
theorem d_Ds_claim_33 : decode b_Ds_claim 33 = .ok (.iload_n 2, 1) := by decide +kernel
theorem d_Ds_claim_34 : decode b_Ds_claim 34 = .ok (.iload_n 3, 1) := by decide +kernel
theorem d_Ds_claim_35 : decode b_Ds_claim 35 = .ok (.invokevirtual 74, 3) := by decide +kernel
theorem d_Ds_claim_38 : decode b_Ds_claim 38 = .ok (.aload_n 0, 1) := by decide +kernel
theorem d_Ds_claim_39 : decode b_Ds_claim 39 = .ok (.dup, 1) := by decide +kernel
theorem d_Ds_claim_40 : decode b_Ds_claim 40 = .ok (.getfield 68, 3) := by decide +kernel
theorem d_Ds_claim_43 : decode b_Ds_claim 43 = .ok (.iconst 1, 1) := by decide +kernel
theorem d_Ds_claim_44 : decode b_Ds_claim 44 = .ok (.iadd, 1) := by decide +kernel
theorem d_Ds_claim_45 : decode b_Ds_claim 45 = .ok (.putfield 68, 3) := by decide +kernel
theorem d_Ds_claim_48 : decode b_Ds_claim 48 = .ok (.aload_n 0, 1) := by decide +kernel
theorem d_Ds_claim_49 : decode b_Ds_claim 49 = .ok (.getfield 68, 3) := by decide +kernel
theorem d_Ds_claim_52 : decode b_Ds_claim 52 = .ok (.iconst 1, 1) := by decide +kernel
theorem d_Ds_claim_53 : decode b_Ds_claim 53 = .ok (.isub, 1) := by decide +kernel
theorem d_Ds_claim_54 : decode b_Ds_claim 54 = .ok (.ireturn, 1) := by decide +kernel
theorem d_Ds_explore_0 : decode b_Ds_explore 0 = .ok (.aload_n 0, 1) := by decide +kernel
theorem d_Ds_explore_1 : decode b_Ds_explore 1 = .ok (.getfield 26, 3) := by decide +kernel
theorem d_Ds_explore_4 : decode b_Ds_explore 4 = .ok (.aload_n 0, 1) := by decide +kernel
theorem d_Ds_explore_5 : decode b_Ds_explore 5 = .ok (.getfield 47, 3) := by decide +kernel
theorem d_Ds_explore_8 : decode b_Ds_explore 8 = .ok (.aload_n 0, 1) := by decide +kernel
theorem d_Ds_explore_9 : decode b_Ds_explore 9 = .ok (.getfield 11, 3) := by decide +kernel
theorem d_Ds_explore_12 : decode b_Ds_explore 12 = .ok (.aload_n 0, 1) := by decide +kernel
theorem d_Ds_explore_13 : decode b_Ds_explore 13 = .ok (.getfield 61, 3) := by decide +kernel
theorem d_Ds_explore_16 : decode b_Ds_explore 16 = .ok (.invokevirtual 77, 3) := by decide +kernel
theorem d_Ds_explore_19 : decode b_Ds_explore 19 = .ok (.ifCond .eq 13, 3) := by decide +kernel
theorem d_Ds_explore_22 : decode b_Ds_explore 22 = .ok (.aload_n 0, 1) := by decide +kernel
theorem d_Ds_explore_23 : decode b_Ds_explore 23 = .ok (.getfield 26, 3) := by decide +kernel
theorem d_Ds_explore_26 : decode b_Ds_explore 26 = .ok (.invokevirtual 81, 3) := by decide +kernel
theorem d_Ds_explore_29 : decode b_Ds_explore 29 = .ok (.goto 5, 3) := by decide +kernel
theorem d_Ds_explore_32 : decode b_Ds_explore 32 = .ok (.bipush (-4), 2) := by decide +kernel
theorem d_Ds_explore_34 : decode b_Ds_explore 34 = .ok (.ireturn, 1) := by decide +kernel
theorem d_Ds_fails_0 : decode b_Ds_fails 0 = .ok (.iload_n 1, 1) := by decide +kernel
theorem d_Ds_fails_1 : decode b_Ds_fails 1 = .ok (.aload_n 0, 1) := by decide +kernel
theorem d_Ds_fails_2 : decode b_Ds_fails 2 = .ok (.getfield 68, 3) := by decide +kernel
theorem d_Ds_fails_5 : decode b_Ds_fails 5 = .ok (.invokestatic 37, 3) := by decide +kernel
theorem d_Ds_fails_8 : decode b_Ds_fails 8 = .ok (.ifCond .eq 19, 3) := by decide +kernel
theorem d_Ds_fails_11 : decode b_Ds_fails 11 = .ok (.aload_n 0, 1) := by decide +kernel
theorem d_Ds_fails_12 : decode b_Ds_fails 12 = .ok (.getfield 26, 3) := by decide +kernel
theorem d_Ds_fails_15 : decode b_Ds_fails 15 = .ok (.aload_n 0, 1) := by decide +kernel
theorem d_Ds_fails_16 : decode b_Ds_fails 16 = .ok (.getfield 18, 3) := by decide +kernel
theorem d_Ds_fails_19 : decode b_Ds_fails 19 = .ok (.iload_n 1, 1) := by decide +kernel
theorem d_Ds_fails_20 : decode b_Ds_fails 20 = .ok (.aaload, 1) := by decide +kernel
theorem d_Ds_fails_21 : decode b_Ds_fails 21 = .ok (.invokevirtual 85, 3) := by decide +kernel
theorem d_Ds_fails_24 : decode b_Ds_fails 24 = .ok (.goto 5, 3) := by decide +kernel
theorem d_Ds_fails_27 : decode b_Ds_fails 27 = .ok (.bipush (-2), 2) := by decide +kernel
theorem d_Ds_fails_29 : decode b_Ds_fails 29 = .ok (.ireturn, 1) := by decide +kernel
theorem d_Ds_stuck_0 : decode b_Ds_stuck 0 = .ok (.aload_n 0, 1) := by decide +kernel
theorem d_Ds_stuck_1 : decode b_Ds_stuck 1 = .ok (.getfield 26, 3) := by decide +kernel
theorem d_Ds_stuck_4 : decode b_Ds_stuck 4 = .ok (.iload_n 1, 1) := by decide +kernel
theorem d_Ds_stuck_5 : decode b_Ds_stuck 5 = .ok (.invokevirtual 89, 3) := by decide +kernel
theorem d_Ds_stuck_8 : decode b_Ds_stuck 8 = .ok (.ireturn, 1) := by decide +kernel
theorem d_Ds_avoids_0 : decode b_Ds_avoids 0 = .ok (.iload_n 2, 1) := by decide +kernel
theorem d_Ds_avoids_1 : decode b_Ds_avoids 1 = .ok (.iconst 2, 1) := by decide +kernel
theorem d_Ds_avoids_2 : decode b_Ds_avoids 2 = .ok (.invokestatic 37, 3) := by decide +kernel
theorem d_Ds_avoids_5 : decode b_Ds_avoids 5 = .ok (.ifCond .ne 5, 3) := by decide +kernel
theorem d_Ds_avoids_8 : decode b_Ds_avoids 8 = .ok (.iconst (-1), 1) := by decide +kernel
theorem d_Ds_avoids_9 : decode b_Ds_avoids 9 = .ok (.ireturn, 1) := by decide +kernel
theorem d_Ds_avoids_10 : decode b_Ds_avoids 10 = .ok (.iload_n 1, 1) := by decide +kernel
theorem d_Ds_avoids_11 : decode b_Ds_avoids 11 = .ok (.aload_n 0, 1) := by decide +kernel
theorem d_Ds_avoids_12 : decode b_Ds_avoids 12 = .ok (.getfield 68, 3) := by decide +kernel
theorem d_Ds_avoids_15 : decode b_Ds_avoids 15 = .ok (.invokestatic 37, 3) := by decide +kernel
theorem d_Ds_avoids_18 : decode b_Ds_avoids 18 = .ok (.ifCond .eq 13, 3) := by decide +kernel
theorem d_Ds_avoids_21 : decode b_Ds_avoids 21 = .ok (.aload_n 0, 1) := by decide +kernel
theorem d_Ds_avoids_22 : decode b_Ds_avoids 22 = .ok (.getfield 26, 3) := by decide +kernel
theorem d_Ds_avoids_25 : decode b_Ds_avoids 25 = .ok (.invokevirtual 93, 3) := by decide +kernel
theorem d_Ds_avoids_28 : decode b_Ds_avoids 28 = .ok (.ifCond .ne 6, 3) := by decide +kernel
theorem d_Ds_avoids_31 : decode b_Ds_avoids 31 = .ok (.bipush (-2), 2) := by decide +kernel
theorem d_Ds_avoids_33 : decode b_Ds_avoids 33 = .ok (.ireturn, 1) := by decide +kernel
theorem d_Ds_avoids_34 : decode b_Ds_avoids 34 = .ok (.aload_n 0, 1) := by decide +kernel
theorem d_Ds_avoids_35 : decode b_Ds_avoids 35 = .ok (.getfield 33, 3) := by decide +kernel
theorem d_Ds_avoids_38 : decode b_Ds_avoids 38 = .ok (.aload_n 0, 1) := by decide +kernel
theorem d_Ds_avoids_39 : decode b_Ds_avoids 39 = .ok (.getfield 26, 3) := by decide +kernel
theorem d_Ds_avoids_42 : decode b_Ds_avoids 42 = .ok (.aload_n 0, 1) := by decide +kernel
theorem d_Ds_avoids_43 : decode b_Ds_avoids 43 = .ok (.getfield 18, 3) := by decide +kernel
theorem d_Ds_avoids_46 : decode b_Ds_avoids 46 = .ok (.iload_n 1, 1) := by decide +kernel
theorem d_Ds_avoids_47 : decode b_Ds_avoids 47 = .ok (.aaload, 1) := by decide +kernel
theorem d_Ds_avoids_48 : decode b_Ds_avoids 48 = .ok (.invokevirtual 97, 3) := by decide +kernel
theorem d_Ds_avoids_51 : decode b_Ds_avoids 51 = .ok (.iload_n 2, 1) := by decide +kernel
theorem d_Ds_avoids_52 : decode b_Ds_avoids 52 = .ok (.ifCond .ne 17, 3) := by decide +kernel
theorem d_Ds_avoids_55 : decode b_Ds_avoids 55 = .ok (.aload_n 0, 1) := by decide +kernel
theorem d_Ds_avoids_56 : decode b_Ds_avoids 56 = .ok (.getfield 33, 3) := by decide +kernel
theorem d_Ds_avoids_59 : decode b_Ds_avoids 59 = .ok (.aload_n 0, 1) := by decide +kernel
theorem d_Ds_avoids_60 : decode b_Ds_avoids 60 = .ok (.getfield 26, 3) := by decide +kernel
theorem d_Ds_avoids_63 : decode b_Ds_avoids 63 = .ok (.invokevirtual 101, 3) := by decide +kernel
theorem d_Ds_avoids_66 : decode b_Ds_avoids 66 = .ok (.goto 14, 3) := by decide +kernel
theorem d_Ds_avoids_69 : decode b_Ds_avoids 69 = .ok (.aload_n 0, 1) := by decide +kernel
theorem d_Ds_avoids_70 : decode b_Ds_avoids 70 = .ok (.getfield 33, 3) := by decide +kernel
theorem d_Ds_avoids_73 : decode b_Ds_avoids 73 = .ok (.aload_n 0, 1) := by decide +kernel
theorem d_Ds_avoids_74 : decode b_Ds_avoids 74 = .ok (.getfield 26, 3) := by decide +kernel
theorem d_Ds_avoids_77 : decode b_Ds_avoids 77 = .ok (.invokevirtual 105, 3) := by decide +kernel
theorem d_Ds_avoids_80 : decode b_Ds_avoids 80 = .ok (.ireturn, 1) := by decide +kernel
theorem d_Ds_way_0 : decode b_Ds_way 0 = .ok (.aload_n 0, 1) := by decide +kernel
theorem d_Ds_way_1 : decode b_Ds_way 1 = .ok (.getfield 26, 3) := by decide +kernel
theorem d_Ds_way_4 : decode b_Ds_way 4 = .ok (.iload_n 1, 1) := by decide +kernel
theorem d_Ds_way_5 : decode b_Ds_way 5 = .ok (.invokevirtual 108, 3) := by decide +kernel
theorem d_Ds_way_8 : decode b_Ds_way 8 = .ok (.ifCond .ne 6, 3) := by decide +kernel
theorem d_Ds_way_11 : decode b_Ds_way 11 = .ok (.bipush (-2), 2) := by decide +kernel
theorem d_Ds_way_13 : decode b_Ds_way 13 = .ok (.ireturn, 1) := by decide +kernel
theorem d_Ds_way_14 : decode b_Ds_way 14 = .ok (.iload_n 2, 1) := by decide +kernel
theorem d_Ds_way_15 : decode b_Ds_way 15 = .ok (.iconst (-1), 1) := by decide +kernel
theorem d_Ds_way_16 : decode b_Ds_way 16 = .ok (.if_icmp .ne 14, 3) := by decide +kernel
theorem d_Ds_way_19 : decode b_Ds_way 19 = .ok (.aload_n 0, 1) := by decide +kernel
theorem d_Ds_way_20 : decode b_Ds_way 20 = .ok (.getfield 26, 3) := by decide +kernel
theorem d_Ds_way_23 : decode b_Ds_way 23 = .ok (.iload_n 1, 1) := by decide +kernel
theorem d_Ds_way_24 : decode b_Ds_way 24 = .ok (.invokevirtual 112, 3) := by decide +kernel
theorem d_Ds_way_27 : decode b_Ds_way 27 = .ok (.goto 12, 3) := by decide +kernel
theorem d_Ds_way_30 : decode b_Ds_way 30 = .ok (.aload_n 0, 1) := by decide +kernel
theorem d_Ds_way_31 : decode b_Ds_way 31 = .ok (.getfield 26, 3) := by decide +kernel
theorem d_Ds_way_34 : decode b_Ds_way 34 = .ok (.iload_n 1, 1) := by decide +kernel
theorem d_Ds_way_35 : decode b_Ds_way 35 = .ok (.iload_n 2, 1) := by decide +kernel
theorem d_Ds_way_36 : decode b_Ds_way 36 = .ok (.invokevirtual 115, 3) := by decide +kernel
theorem d_Ds_way_39 : decode b_Ds_way 39 = .ok (.ireturn, 1) := by decide +kernel
theorem d_Ds_state_0 : decode b_Ds_state 0 = .ok (.iload_n 2, 1) := by decide +kernel
theorem d_Ds_state_1 : decode b_Ds_state 1 = .ok (.bipush 13, 2) := by decide +kernel
theorem d_Ds_state_3 : decode b_Ds_state 3 = .ok (.invokestatic 37, 3) := by decide +kernel
theorem d_Ds_state_6 : decode b_Ds_state 6 = .ok (.ifCond .ne 5, 3) := by decide +kernel
theorem d_Ds_state_9 : decode b_Ds_state 9 = .ok (.iconst (-1), 1) := by decide +kernel
theorem d_Ds_state_10 : decode b_Ds_state 10 = .ok (.ireturn, 1) := by decide +kernel
theorem d_Ds_state_11 : decode b_Ds_state 11 = .ok (.aload_n 0, 1) := by decide +kernel
theorem d_Ds_state_12 : decode b_Ds_state 12 = .ok (.getfield 26, 3) := by decide +kernel
theorem d_Ds_state_15 : decode b_Ds_state 15 = .ok (.iload_n 1, 1) := by decide +kernel
theorem d_Ds_state_16 : decode b_Ds_state 16 = .ok (.invokevirtual 108, 3) := by decide +kernel
theorem d_Ds_state_19 : decode b_Ds_state 19 = .ok (.ifCond .ne 6, 3) := by decide +kernel
theorem d_Ds_state_22 : decode b_Ds_state 22 = .ok (.bipush (-2), 2) := by decide +kernel
theorem d_Ds_state_24 : decode b_Ds_state 24 = .ok (.ireturn, 1) := by decide +kernel
theorem d_Ds_state_25 : decode b_Ds_state 25 = .ok (.iload_n 2, 1) := by decide +kernel
theorem d_Ds_state_26 : decode b_Ds_state 26 = .ok (.tableswitch 53 10 12 #[26, 35, 44], 26) := by decide +kernel
theorem d_Ds_state_52 : decode b_Ds_state 52 = .ok (.aload_n 0, 1) := by decide +kernel
theorem d_Ds_state_53 : decode b_Ds_state 53 = .ok (.getfield 26, 3) := by decide +kernel
theorem d_Ds_state_56 : decode b_Ds_state 56 = .ok (.iload_n 1, 1) := by decide +kernel
theorem d_Ds_state_57 : decode b_Ds_state 57 = .ok (.invokevirtual 119, 3) := by decide +kernel
theorem d_Ds_state_60 : decode b_Ds_state 60 = .ok (.ireturn, 1) := by decide +kernel
theorem d_Ds_state_61 : decode b_Ds_state 61 = .ok (.aload_n 0, 1) := by decide +kernel
theorem d_Ds_state_62 : decode b_Ds_state 62 = .ok (.getfield 26, 3) := by decide +kernel
theorem d_Ds_state_65 : decode b_Ds_state 65 = .ok (.iload_n 1, 1) := by decide +kernel
theorem d_Ds_state_66 : decode b_Ds_state 66 = .ok (.invokevirtual 122, 3) := by decide +kernel
theorem d_Ds_state_69 : decode b_Ds_state 69 = .ok (.ireturn, 1) := by decide +kernel
theorem d_Ds_state_70 : decode b_Ds_state 70 = .ok (.aload_n 0, 1) := by decide +kernel
theorem d_Ds_state_71 : decode b_Ds_state 71 = .ok (.getfield 26, 3) := by decide +kernel
theorem d_Ds_state_74 : decode b_Ds_state 74 = .ok (.iload_n 1, 1) := by decide +kernel
theorem d_Ds_state_75 : decode b_Ds_state 75 = .ok (.invokevirtual 125, 3) := by decide +kernel
theorem d_Ds_state_78 : decode b_Ds_state 78 = .ok (.ireturn, 1) := by decide +kernel
theorem d_Ds_state_79 : decode b_Ds_state 79 = .ok (.aload_n 0, 1) := by decide +kernel
theorem d_Ds_state_80 : decode b_Ds_state 80 = .ok (.getfield 26, 3) := by decide +kernel
theorem d_Ds_state_83 : decode b_Ds_state 83 = .ok (.iload_n 1, 1) := by decide +kernel
theorem d_Ds_state_84 : decode b_Ds_state 84 = .ok (.invokevirtual 128, 3) := by decide +kernel
theorem d_Ds_state_87 : decode b_Ds_state 87 = .ok (.iload_n 2, 1) := by decide +kernel
theorem d_Ds_state_88 : decode b_Ds_state 88 = .ok (.invokestatic 131, 3) := by decide +kernel
theorem d_Ds_state_91 : decode b_Ds_state 91 = .ok (.ireturn, 1) := by decide +kernel
theorem d_Ds_walk_0 : decode b_Ds_walk 0 = .ok (.iload_n 1, 1) := by decide +kernel
theorem d_Ds_walk_1 : decode b_Ds_walk 1 = .ok (.aload_n 0, 1) := by decide +kernel
theorem d_Ds_walk_2 : decode b_Ds_walk 2 = .ok (.getfield 61, 3) := by decide +kernel
theorem d_Ds_walk_5 : decode b_Ds_walk 5 = .ok (.invokestatic 37, 3) := by decide +kernel
theorem d_Ds_walk_8 : decode b_Ds_walk 8 = .ok (.ifCond .eq 19, 3) := by decide +kernel
theorem d_Ds_walk_11 : decode b_Ds_walk 11 = .ok (.aload_n 0, 1) := by decide +kernel
theorem d_Ds_walk_12 : decode b_Ds_walk 12 = .ok (.getfield 11, 3) := by decide +kernel
theorem d_Ds_walk_15 : decode b_Ds_walk 15 = .ok (.iload_n 1, 1) := by decide +kernel
theorem d_Ds_walk_16 : decode b_Ds_walk 16 = .ok (.aaload, 1) := by decide +kernel
theorem d_Ds_walk_17 : decode b_Ds_walk 17 = .ok (.aload_n 0, 1) := by decide +kernel
theorem d_Ds_walk_18 : decode b_Ds_walk 18 = .ok (.getfield 134, 3) := by decide +kernel
theorem d_Ds_walk_21 : decode b_Ds_walk 21 = .ok (.invokevirtual 137, 3) := by decide +kernel
theorem d_Ds_walk_24 : decode b_Ds_walk 24 = .ok (.ifCond .ne 5, 3) := by decide +kernel
theorem d_Ds_walk_27 : decode b_Ds_walk 27 = .ok (.iconst 0, 1) := by decide +kernel
theorem d_Ds_walk_28 : decode b_Ds_walk 28 = .ok (.ireturn, 1) := by decide +kernel
theorem d_Ds_walk_29 : decode b_Ds_walk 29 = .ok (.aload_n 0, 1) := by decide +kernel
theorem d_Ds_walk_30 : decode b_Ds_walk 30 = .ok (.aload_n 0, 1) := by decide +kernel
theorem d_Ds_walk_31 : decode b_Ds_walk 31 = .ok (.getfield 11, 3) := by decide +kernel
theorem d_Ds_walk_34 : decode b_Ds_walk 34 = .ok (.iload_n 1, 1) := by decide +kernel
theorem d_Ds_walk_35 : decode b_Ds_walk 35 = .ok (.aaload, 1) := by decide +kernel
theorem d_Ds_walk_36 : decode b_Ds_walk 36 = .ok (.aload_n 0, 1) := by decide +kernel
theorem d_Ds_walk_37 : decode b_Ds_walk 37 = .ok (.getfield 134, 3) := by decide +kernel
theorem d_Ds_walk_40 : decode b_Ds_walk 40 = .ok (.invokevirtual 140, 3) := by decide +kernel
theorem d_Ds_walk_43 : decode b_Ds_walk 43 = .ok (.putfield 134, 3) := by decide +kernel
theorem d_Ds_walk_46 : decode b_Ds_walk 46 = .ok (.aload_n 0, 1) := by decide +kernel
theorem d_Ds_walk_47 : decode b_Ds_walk 47 = .ok (.dup, 1) := by decide +kernel
theorem d_Ds_walk_48 : decode b_Ds_walk 48 = .ok (.getfield 143, 3) := by decide +kernel
theorem d_Ds_walk_51 : decode b_Ds_walk 51 = .ok (.iconst 1, 1) := by decide +kernel
theorem d_Ds_walk_52 : decode b_Ds_walk 52 = .ok (.iadd, 1) := by decide +kernel
theorem d_Ds_walk_53 : decode b_Ds_walk 53 = .ok (.putfield 143, 3) := by decide +kernel
theorem d_Ds_walk_56 : decode b_Ds_walk 56 = .ok (.iconst 1, 1) := by decide +kernel
theorem d_Ds_walk_57 : decode b_Ds_walk 57 = .ok (.ireturn, 1) := by decide +kernel
theorem d_Ds_go_0 : decode b_Ds_go 0 = .ok (.aload_n 0, 1) := by decide +kernel
theorem d_Ds_go_1 : decode b_Ds_go 1 = .ok (.getfield 26, 3) := by decide +kernel
theorem d_Ds_go_4 : decode b_Ds_go 4 = .ok (.iload_n 1, 1) := by decide +kernel
theorem d_Ds_go_5 : decode b_Ds_go 5 = .ok (.invokevirtual 108, 3) := by decide +kernel
theorem d_Ds_go_8 : decode b_Ds_go 8 = .ok (.ifCond .ne 5, 3) := by decide +kernel
theorem d_Ds_go_11 : decode b_Ds_go 11 = .ok (.iconst 0, 1) := by decide +kernel
theorem d_Ds_go_12 : decode b_Ds_go 12 = .ok (.ireturn, 1) := by decide +kernel
theorem d_Ds_go_13 : decode b_Ds_go 13 = .ok (.aload_n 0, 1) := by decide +kernel
theorem d_Ds_go_14 : decode b_Ds_go 14 = .ok (.aload_n 0, 1) := by decide +kernel
theorem d_Ds_go_15 : decode b_Ds_go 15 = .ok (.getfield 26, 3) := by decide +kernel
theorem d_Ds_go_18 : decode b_Ds_go 18 = .ok (.iload_n 1, 1) := by decide +kernel
theorem d_Ds_go_19 : decode b_Ds_go 19 = .ok (.invokevirtual 128, 3) := by decide +kernel
theorem d_Ds_go_22 : decode b_Ds_go 22 = .ok (.putfield 134, 3) := by decide +kernel
theorem d_Ds_go_25 : decode b_Ds_go 25 = .ok (.iconst 1, 1) := by decide +kernel
theorem d_Ds_go_26 : decode b_Ds_go 26 = .ok (.ireturn, 1) := by decide +kernel
theorem d_Ds_now_0 : decode b_Ds_now 0 = .ok (.iload_n 1, 1) := by decide +kernel
theorem d_Ds_now_1 : decode b_Ds_now 1 = .ok (.bipush 14, 2) := by decide +kernel
theorem d_Ds_now_3 : decode b_Ds_now 3 = .ok (.invokestatic 37, 3) := by decide +kernel
theorem d_Ds_now_6 : decode b_Ds_now 6 = .ok (.ifCond .ne 5, 3) := by decide +kernel
theorem d_Ds_now_9 : decode b_Ds_now 9 = .ok (.iconst (-1), 1) := by decide +kernel
theorem d_Ds_now_10 : decode b_Ds_now 10 = .ok (.ireturn, 1) := by decide +kernel
theorem d_Ds_now_11 : decode b_Ds_now 11 = .ok (.iload_n 1, 1) := by decide +kernel
theorem d_Ds_now_12 : decode b_Ds_now 12 = .ok (.tableswitch 59 10 13 #[32, 37, 49, 54], 32) := by decide +kernel
theorem d_Ds_now_44 : decode b_Ds_now 44 = .ok (.aload_n 0, 1) := by decide +kernel
theorem d_Ds_now_45 : decode b_Ds_now 45 = .ok (.invokevirtual 146, 3) := by decide +kernel
theorem d_Ds_now_48 : decode b_Ds_now 48 = .ok (.ireturn, 1) := by decide +kernel
theorem d_Ds_now_49 : decode b_Ds_now 49 = .ok (.aload_n 0, 1) := by decide +kernel
theorem d_Ds_now_50 : decode b_Ds_now 50 = .ok (.getfield 26, 3) := by decide +kernel
theorem d_Ds_now_53 : decode b_Ds_now 53 = .ok (.aload_n 0, 1) := by decide +kernel
theorem d_Ds_now_54 : decode b_Ds_now 54 = .ok (.getfield 134, 3) := by decide +kernel
theorem d_Ds_now_57 : decode b_Ds_now 57 = .ok (.invokevirtual 149, 3) := by decide +kernel
theorem d_Ds_now_60 : decode b_Ds_now 60 = .ok (.ireturn, 1) := by decide +kernel
theorem d_Ds_now_61 : decode b_Ds_now 61 = .ok (.aload_n 0, 1) := by decide +kernel
theorem d_Ds_now_62 : decode b_Ds_now 62 = .ok (.invokevirtual 152, 3) := by decide +kernel
theorem d_Ds_now_65 : decode b_Ds_now 65 = .ok (.ireturn, 1) := by decide +kernel
theorem d_Ds_now_66 : decode b_Ds_now 66 = .ok (.aload_n 0, 1) := by decide +kernel
theorem d_Ds_now_67 : decode b_Ds_now 67 = .ok (.getfield 143, 3) := by decide +kernel
theorem d_Ds_now_70 : decode b_Ds_now 70 = .ok (.ireturn, 1) := by decide +kernel
theorem d_Ds_now_71 : decode b_Ds_now 71 = .ok (.aload_n 0, 1) := by decide +kernel
theorem d_Ds_now_72 : decode b_Ds_now 72 = .ok (.getfield 134, 3) := by decide +kernel
theorem d_Ds_now_75 : decode b_Ds_now 75 = .ok (.iload_n 1, 1) := by decide +kernel
theorem d_Ds_now_76 : decode b_Ds_now 76 = .ok (.invokestatic 131, 3) := by decide +kernel
theorem d_Ds_now_79 : decode b_Ds_now 79 = .ok (.ireturn, 1) := by decide +kernel
theorem d_Ds_count_0 : decode b_Ds_count 0 = .ok (.iload_n 1, 1) := by decide +kernel
theorem d_Ds_count_1 : decode b_Ds_count 1 = .ok (.bipush 7, 2) := by decide +kernel
theorem d_Ds_count_3 : decode b_Ds_count 3 = .ok (.invokestatic 37, 3) := by decide +kernel
theorem d_Ds_count_6 : decode b_Ds_count 6 = .ok (.ifCond .ne 17, 3) := by decide +kernel
theorem d_Ds_count_9 : decode b_Ds_count 9 = .ok (.iload_n 1, 1) := by decide +kernel
theorem d_Ds_count_10 : decode b_Ds_count 10 = .ok (.bipush 10, 2) := by decide +kernel
theorem d_Ds_count_12 : decode b_Ds_count 12 = .ok (.isub, 1) := by decide +kernel
theorem d_Ds_count_13 : decode b_Ds_count 13 = .ok (.bipush 24, 2) := by decide +kernel
theorem d_Ds_count_15 : decode b_Ds_count 15 = .ok (.invokestatic 37, 3) := by decide +kernel
theorem d_Ds_count_18 : decode b_Ds_count 18 = .ok (.ifCond .ne 5, 3) := by decide +kernel
theorem d_Ds_count_21 : decode b_Ds_count 21 = .ok (.iconst (-1), 1) := by decide +kernel
theorem d_Ds_count_22 : decode b_Ds_count 22 = .ok (.ireturn, 1) := by decide +kernel
theorem d_Ds_count_23 : decode b_Ds_count 23 = .ok (.iload_n 1, 1) := by decide +kernel
theorem d_Ds_count_24 : decode b_Ds_count 24 = .ok (.ifCond .ne 8, 3) := by decide +kernel
theorem d_Ds_count_27 : decode b_Ds_count 27 = .ok (.aload_n 0, 1) := by decide +kernel
theorem d_Ds_count_28 : decode b_Ds_count 28 = .ok (.getfield 61, 3) := by decide +kernel
theorem d_Ds_count_31 : decode b_Ds_count 31 = .ok (.ireturn, 1) := by decide +kernel
theorem d_Ds_count_32 : decode b_Ds_count 32 = .ok (.iload_n 1, 1) := by decide +kernel
theorem d_Ds_count_33 : decode b_Ds_count 33 = .ok (.iconst 1, 1) := by decide +kernel
theorem d_Ds_count_34 : decode b_Ds_count 34 = .ok (.if_icmp .ne 8, 3) := by decide +kernel
theorem d_Ds_count_37 : decode b_Ds_count 37 = .ok (.aload_n 0, 1) := by decide +kernel
theorem d_Ds_count_38 : decode b_Ds_count 38 = .ok (.getfield 68, 3) := by decide +kernel
theorem d_Ds_count_41 : decode b_Ds_count 41 = .ok (.ireturn, 1) := by decide +kernel
theorem d_Ds_count_42 : decode b_Ds_count 42 = .ok (.aload_n 0, 1) := by decide +kernel
theorem d_Ds_count_43 : decode b_Ds_count 43 = .ok (.getfield 26, 3) := by decide +kernel
theorem d_Ds_count_46 : decode b_Ds_count 46 = .ok (.invokevirtual 93, 3) := by decide +kernel
theorem d_Ds_count_49 : decode b_Ds_count 49 = .ok (.ifCond .ne 6, 3) := by decide +kernel
theorem d_Ds_count_52 : decode b_Ds_count 52 = .ok (.bipush (-2), 2) := by decide +kernel
theorem d_Ds_count_54 : decode b_Ds_count 54 = .ok (.ireturn, 1) := by decide +kernel
theorem d_Ds_count_55 : decode b_Ds_count 55 = .ok (.iload_n 1, 1) := by decide +kernel
theorem d_Ds_count_56 : decode b_Ds_count 56 = .ok (.tableswitch 78 2 6 #[36, 44, 52, 60, 69], 36) := by decide +kernel
theorem d_Ds_count_92 : decode b_Ds_count 92 = .ok (.aload_n 0, 1) := by decide +kernel
theorem d_Ds_count_93 : decode b_Ds_count 93 = .ok (.getfield 26, 3) := by decide +kernel
theorem d_Ds_count_96 : decode b_Ds_count 96 = .ok (.invokevirtual 81, 3) := by decide +kernel
theorem d_Ds_count_99 : decode b_Ds_count 99 = .ok (.ireturn, 1) := by decide +kernel
theorem d_Ds_count_100 : decode b_Ds_count 100 = .ok (.aload_n 0, 1) := by decide +kernel
theorem d_Ds_count_101 : decode b_Ds_count 101 = .ok (.getfield 26, 3) := by decide +kernel
theorem d_Ds_count_104 : decode b_Ds_count 104 = .ok (.invokevirtual 155, 3) := by decide +kernel
theorem d_Ds_count_107 : decode b_Ds_count 107 = .ok (.ireturn, 1) := by decide +kernel
theorem d_Ds_count_108 : decode b_Ds_count 108 = .ok (.aload_n 0, 1) := by decide +kernel
theorem d_Ds_count_109 : decode b_Ds_count 109 = .ok (.getfield 26, 3) := by decide +kernel
theorem d_Ds_count_112 : decode b_Ds_count 112 = .ok (.invokevirtual 158, 3) := by decide +kernel
theorem d_Ds_count_115 : decode b_Ds_count 115 = .ok (.ireturn, 1) := by decide +kernel
theorem d_Ds_count_116 : decode b_Ds_count 116 = .ok (.aload_n 0, 1) := by decide +kernel
theorem d_Ds_count_117 : decode b_Ds_count 117 = .ok (.getfield 26, 3) := by decide +kernel
theorem d_Ds_count_120 : decode b_Ds_count 120 = .ok (.iconst 0, 1) := by decide +kernel
theorem d_Ds_count_121 : decode b_Ds_count 121 = .ok (.invokevirtual 161, 3) := by decide +kernel
theorem d_Ds_count_124 : decode b_Ds_count 124 = .ok (.ireturn, 1) := by decide +kernel
theorem d_Ds_count_125 : decode b_Ds_count 125 = .ok (.aload_n 0, 1) := by decide +kernel
theorem d_Ds_count_126 : decode b_Ds_count 126 = .ok (.getfield 26, 3) := by decide +kernel
theorem d_Ds_count_129 : decode b_Ds_count 129 = .ok (.iconst 1, 1) := by decide +kernel
theorem d_Ds_count_130 : decode b_Ds_count 130 = .ok (.invokevirtual 161, 3) := by decide +kernel
theorem d_Ds_count_133 : decode b_Ds_count 133 = .ok (.ireturn, 1) := by decide +kernel
theorem d_Ds_count_134 : decode b_Ds_count 134 = .ok (.iload_n 1, 1) := by decide +kernel
theorem d_Ds_count_135 : decode b_Ds_count 135 = .ok (.bipush 10, 2) := by decide +kernel
theorem d_Ds_count_137 : decode b_Ds_count 137 = .ok (.isub, 1) := by decide +kernel
theorem d_Ds_count_138 : decode b_Ds_count 138 = .ok (.aload_n 0, 1) := by decide +kernel
theorem d_Ds_count_139 : decode b_Ds_count 139 = .ok (.getfield 61, 3) := by decide +kernel
theorem d_Ds_count_142 : decode b_Ds_count 142 = .ok (.if_icmp .ge 17, 3) := by decide +kernel
theorem d_Ds_count_145 : decode b_Ds_count 145 = .ok (.aload_n 0, 1) := by decide +kernel
theorem d_Ds_count_146 : decode b_Ds_count 146 = .ok (.getfield 26, 3) := by decide +kernel
theorem d_Ds_count_149 : decode b_Ds_count 149 = .ok (.iload_n 1, 1) := by decide +kernel
theorem d_Ds_count_150 : decode b_Ds_count 150 = .ok (.bipush 10, 2) := by decide +kernel
theorem d_Ds_count_152 : decode b_Ds_count 152 = .ok (.isub, 1) := by decide +kernel
theorem d_Ds_count_153 : decode b_Ds_count 153 = .ok (.invokevirtual 164, 3) := by decide +kernel
theorem d_Ds_count_156 : decode b_Ds_count 156 = .ok (.goto 5, 3) := by decide +kernel
theorem d_Ds_count_159 : decode b_Ds_count 159 = .ok (.bipush (-2), 2) := by decide +kernel
theorem d_Ds_count_161 : decode b_Ds_count 161 = .ok (.ireturn, 1) := by decide +kernel
theorem d_Ds_returnToFirst_0 : decode b_Ds_returnToFirst 0 = .ok (.aload_n 0, 1) := by decide +kernel
theorem d_Ds_returnToFirst_1 : decode b_Ds_returnToFirst 1 = .ok (.aload_n 0, 1) := by decide +kernel
theorem d_Ds_returnToFirst_2 : decode b_Ds_returnToFirst 2 = .ok (.getfield 47, 3) := by decide +kernel
theorem d_Ds_returnToFirst_5 : decode b_Ds_returnToFirst 5 = .ok (.putfield 134, 3) := by decide +kernel
theorem d_Ds_returnToFirst_8 : decode b_Ds_returnToFirst 8 = .ok (.aload_n 0, 1) := by decide +kernel
theorem d_Ds_returnToFirst_9 : decode b_Ds_returnToFirst 9 = .ok (.iconst 0, 1) := by decide +kernel
theorem d_Ds_returnToFirst_10 : decode b_Ds_returnToFirst 10 = .ok (.putfield 143, 3) := by decide +kernel
theorem d_Ds_returnToFirst_13 : decode b_Ds_returnToFirst 13 = .ok (.return_, 1) := by decide +kernel
theorem d_Ds_openNow_0 : decode b_Ds_openNow 0 = .ok (.iconst 0, 1) := by decide +kernel
theorem d_Ds_openNow_1 : decode b_Ds_openNow 1 = .ok (.istore_n 1, 1) := by decide +kernel
theorem d_Ds_openNow_2 : decode b_Ds_openNow 2 = .ok (.iconst 0, 1) := by decide +kernel
theorem d_Ds_openNow_3 : decode b_Ds_openNow 3 = .ok (.istore_n 2, 1) := by decide +kernel
theorem d_Ds_openNow_4 : decode b_Ds_openNow 4 = .ok (.iload_n 2, 1) := by decide +kernel
theorem d_Ds_openNow_5 : decode b_Ds_openNow 5 = .ok (.aload_n 0, 1) := by decide +kernel
theorem d_Ds_openNow_6 : decode b_Ds_openNow 6 = .ok (.getfield 61, 3) := by decide +kernel
theorem d_Ds_openNow_9 : decode b_Ds_openNow 9 = .ok (.if_icmp .ge 28, 3) := by decide +kernel
theorem d_Ds_openNow_12 : decode b_Ds_openNow 12 = .ok (.aload_n 0, 1) := by decide +kernel
theorem d_Ds_openNow_13 : decode b_Ds_openNow 13 = .ok (.getfield 11, 3) := by decide +kernel
theorem d_Ds_openNow_16 : decode b_Ds_openNow 16 = .ok (.iload_n 2, 1) := by decide +kernel
theorem d_Ds_openNow_17 : decode b_Ds_openNow 17 = .ok (.aaload, 1) := by decide +kernel
theorem d_Ds_openNow_18 : decode b_Ds_openNow 18 = .ok (.aload_n 0, 1) := by decide +kernel
theorem d_Ds_openNow_19 : decode b_Ds_openNow 19 = .ok (.getfield 134, 3) := by decide +kernel
theorem d_Ds_openNow_22 : decode b_Ds_openNow 22 = .ok (.invokevirtual 137, 3) := by decide +kernel
theorem d_Ds_openNow_25 : decode b_Ds_openNow 25 = .ok (.ifCond .eq 6, 3) := by decide +kernel
theorem d_Ds_openNow_28 : decode b_Ds_openNow 28 = .ok (.iinc 1 1, 3) := by decide +kernel
theorem d_Ds_openNow_31 : decode b_Ds_openNow 31 = .ok (.iinc 2 1, 3) := by decide +kernel
theorem d_Ds_openNow_34 : decode b_Ds_openNow 34 = .ok (.goto (-30), 3) := by decide +kernel
theorem d_Ds_openNow_37 : decode b_Ds_openNow 37 = .ok (.iload_n 1, 1) := by decide +kernel
theorem d_Ds_openNow_38 : decode b_Ds_openNow 38 = .ok (.ireturn, 1) := by decide +kernel
theorem d_Ds_failingNow_0 : decode b_Ds_failingNow 0 = .ok (.iconst 0, 1) := by decide +kernel
theorem d_Ds_failingNow_1 : decode b_Ds_failingNow 1 = .ok (.istore_n 1, 1) := by decide +kernel
theorem d_Ds_failingNow_2 : decode b_Ds_failingNow 2 = .ok (.iconst 0, 1) := by decide +kernel
theorem d_Ds_failingNow_3 : decode b_Ds_failingNow 3 = .ok (.istore_n 2, 1) := by decide +kernel
theorem d_Ds_failingNow_4 : decode b_Ds_failingNow 4 = .ok (.iload_n 2, 1) := by decide +kernel
theorem d_Ds_failingNow_5 : decode b_Ds_failingNow 5 = .ok (.aload_n 0, 1) := by decide +kernel
theorem d_Ds_failingNow_6 : decode b_Ds_failingNow 6 = .ok (.getfield 68, 3) := by decide +kernel
theorem d_Ds_failingNow_9 : decode b_Ds_failingNow 9 = .ok (.if_icmp .ge 28, 3) := by decide +kernel
theorem d_Ds_failingNow_12 : decode b_Ds_failingNow 12 = .ok (.aload_n 0, 1) := by decide +kernel
theorem d_Ds_failingNow_13 : decode b_Ds_failingNow 13 = .ok (.getfield 18, 3) := by decide +kernel
theorem d_Ds_failingNow_16 : decode b_Ds_failingNow 16 = .ok (.iload_n 2, 1) := by decide +kernel
theorem d_Ds_failingNow_17 : decode b_Ds_failingNow 17 = .ok (.aaload, 1) := by decide +kernel
theorem d_Ds_failingNow_18 : decode b_Ds_failingNow 18 = .ok (.aload_n 0, 1) := by decide +kernel
theorem d_Ds_failingNow_19 : decode b_Ds_failingNow 19 = .ok (.getfield 134, 3) := by decide +kernel
theorem d_Ds_failingNow_22 : decode b_Ds_failingNow 22 = .ok (.invokevirtual 167, 3) := by decide +kernel
theorem d_Ds_failingNow_25 : decode b_Ds_failingNow 25 = .ok (.ifCond .eq 6, 3) := by decide +kernel
theorem d_Ds_failingNow_28 : decode b_Ds_failingNow 28 = .ok (.iinc 1 1, 3) := by decide +kernel
theorem d_Ds_failingNow_31 : decode b_Ds_failingNow 31 = .ok (.iinc 2 1, 3) := by decide +kernel
theorem d_Ds_failingNow_34 : decode b_Ds_failingNow 34 = .ok (.goto (-30), 3) := by decide +kernel
theorem d_Ds_failingNow_37 : decode b_Ds_failingNow 37 = .ok (.iload_n 1, 1) := by decide +kernel
theorem d_Ds_failingNow_38 : decode b_Ds_failingNow 38 = .ok (.ireturn, 1) := by decide +kernel
theorem d_Ds_isBelow_0 : decode b_Ds_isBelow 0 = .ok (.iload_n 0, 1) := by decide +kernel
theorem d_Ds_isBelow_1 : decode b_Ds_isBelow 1 = .ok (.ifCond .lt 12, 3) := by decide +kernel
theorem d_Ds_isBelow_4 : decode b_Ds_isBelow 4 = .ok (.iload_n 0, 1) := by decide +kernel
theorem d_Ds_isBelow_5 : decode b_Ds_isBelow 5 = .ok (.iload_n 1, 1) := by decide +kernel
theorem d_Ds_isBelow_6 : decode b_Ds_isBelow 6 = .ok (.if_icmp .ge 7, 3) := by decide +kernel
theorem d_Ds_isBelow_9 : decode b_Ds_isBelow 9 = .ok (.iconst 1, 1) := by decide +kernel
theorem d_Ds_isBelow_10 : decode b_Ds_isBelow 10 = .ok (.goto 4, 3) := by decide +kernel
theorem d_Ds_isBelow_13 : decode b_Ds_isBelow 13 = .ok (.iconst 0, 1) := by decide +kernel
theorem d_Ds_isBelow_14 : decode b_Ds_isBelow 14 = .ok (.ireturn, 1) := by decide +kernel
theorem d_Cm_init_0 : decode b_Cm_init 0 = .ok (.aload_n 0, 1) := by decide +kernel
theorem d_Cm_init_1 : decode b_Cm_init 1 = .ok (.invokespecial 3, 3) := by decide +kernel
theorem d_Cm_init_4 : decode b_Cm_init 4 = .ok (.return_, 1) := by decide +kernel
theorem d_Cm_isAsSaid_0 : decode b_Cm_isAsSaid 0 = .ok (.iload_n 0, 1) := by decide +kernel
theorem d_Cm_isAsSaid_1 : decode b_Cm_isAsSaid 1 = .ok (.tableswitch 135 0 4 #[35, 57, 80, 107, 113], 35) := by decide +kernel
theorem d_Cm_isAsSaid_36 : decode b_Cm_isAsSaid 36 = .ok (.iload_n 1, 1) := by decide +kernel
theorem d_Cm_isAsSaid_37 : decode b_Cm_isAsSaid 37 = .ok (.iconst 4, 1) := by decide +kernel
theorem d_Cm_isAsSaid_38 : decode b_Cm_isAsSaid 38 = .ok (.invokestatic 9, 3) := by decide +kernel
theorem d_Cm_isAsSaid_41 : decode b_Cm_isAsSaid 41 = .ok (.ifCond .eq 15, 3) := by decide +kernel
theorem d_Cm_isAsSaid_44 : decode b_Cm_isAsSaid 44 = .ok (.iload_n 2, 1) := by decide +kernel
theorem d_Cm_isAsSaid_45 : decode b_Cm_isAsSaid 45 = .ok (.iconst 4, 1) := by decide +kernel
theorem d_Cm_isAsSaid_46 : decode b_Cm_isAsSaid 46 = .ok (.invokestatic 9, 3) := by decide +kernel
theorem d_Cm_isAsSaid_49 : decode b_Cm_isAsSaid 49 = .ok (.ifCond .eq 7, 3) := by decide +kernel
theorem d_Cm_isAsSaid_52 : decode b_Cm_isAsSaid 52 = .ok (.iconst 1, 1) := by decide +kernel
theorem d_Cm_isAsSaid_53 : decode b_Cm_isAsSaid 53 = .ok (.goto 4, 3) := by decide +kernel
theorem d_Cm_isAsSaid_56 : decode b_Cm_isAsSaid 56 = .ok (.iconst 0, 1) := by decide +kernel
theorem d_Cm_isAsSaid_57 : decode b_Cm_isAsSaid 57 = .ok (.ireturn, 1) := by decide +kernel
theorem d_Cm_isAsSaid_58 : decode b_Cm_isAsSaid 58 = .ok (.iload_n 1, 1) := by decide +kernel
theorem d_Cm_isAsSaid_59 : decode b_Cm_isAsSaid 59 = .ok (.iconst 3, 1) := by decide +kernel
theorem d_Cm_isAsSaid_60 : decode b_Cm_isAsSaid 60 = .ok (.invokestatic 9, 3) := by decide +kernel
theorem d_Cm_isAsSaid_63 : decode b_Cm_isAsSaid 63 = .ok (.ifCond .eq 16, 3) := by decide +kernel
theorem d_Cm_isAsSaid_66 : decode b_Cm_isAsSaid 66 = .ok (.iload_n 2, 1) := by decide +kernel
theorem d_Cm_isAsSaid_67 : decode b_Cm_isAsSaid 67 = .ok (.bipush 8, 2) := by decide +kernel
theorem d_Cm_isAsSaid_69 : decode b_Cm_isAsSaid 69 = .ok (.invokestatic 9, 3) := by decide +kernel
theorem d_Cm_isAsSaid_72 : decode b_Cm_isAsSaid 72 = .ok (.ifCond .eq 7, 3) := by decide +kernel
theorem d_Cm_isAsSaid_75 : decode b_Cm_isAsSaid 75 = .ok (.iconst 1, 1) := by decide +kernel
theorem d_Cm_isAsSaid_76 : decode b_Cm_isAsSaid 76 = .ok (.goto 4, 3) := by decide +kernel
theorem d_Cm_isAsSaid_79 : decode b_Cm_isAsSaid 79 = .ok (.iconst 0, 1) := by decide +kernel
theorem d_Cm_isAsSaid_80 : decode b_Cm_isAsSaid 80 = .ok (.ireturn, 1) := by decide +kernel
theorem d_Cm_isAsSaid_81 : decode b_Cm_isAsSaid 81 = .ok (.iload_n 1, 1) := by decide +kernel
theorem d_Cm_isAsSaid_82 : decode b_Cm_isAsSaid 82 = .ok (.iconst 3, 1) := by decide +kernel
theorem d_Cm_isAsSaid_83 : decode b_Cm_isAsSaid 83 = .ok (.invokestatic 9, 3) := by decide +kernel
theorem d_Cm_isAsSaid_86 : decode b_Cm_isAsSaid 86 = .ok (.ifCond .eq 20, 3) := by decide +kernel
theorem d_Cm_isAsSaid_89 : decode b_Cm_isAsSaid 89 = .ok (.iload_n 2, 1) := by decide +kernel
theorem d_Cm_isAsSaid_90 : decode b_Cm_isAsSaid 90 = .ok (.iconst 3, 1) := by decide +kernel
theorem d_Cm_isAsSaid_91 : decode b_Cm_isAsSaid 91 = .ok (.invokestatic 9, 3) := by decide +kernel
theorem d_Cm_isAsSaid_94 : decode b_Cm_isAsSaid 94 = .ok (.ifCond .eq 12, 3) := by decide +kernel
theorem d_Cm_isAsSaid_97 : decode b_Cm_isAsSaid 97 = .ok (.iload_n 1, 1) := by decide +kernel
theorem d_Cm_isAsSaid_98 : decode b_Cm_isAsSaid 98 = .ok (.iload_n 2, 1) := by decide +kernel
theorem d_Cm_isAsSaid_99 : decode b_Cm_isAsSaid 99 = .ok (.if_icmp .eq 7, 3) := by decide +kernel
theorem d_Cm_isAsSaid_102 : decode b_Cm_isAsSaid 102 = .ok (.iconst 1, 1) := by decide +kernel
theorem d_Cm_isAsSaid_103 : decode b_Cm_isAsSaid 103 = .ok (.goto 4, 3) := by decide +kernel
theorem d_Cm_isAsSaid_106 : decode b_Cm_isAsSaid 106 = .ok (.iconst 0, 1) := by decide +kernel
theorem d_Cm_isAsSaid_107 : decode b_Cm_isAsSaid 107 = .ok (.ireturn, 1) := by decide +kernel
theorem d_Cm_isAsSaid_108 : decode b_Cm_isAsSaid 108 = .ok (.iload_n 1, 1) := by decide +kernel
theorem d_Cm_isAsSaid_109 : decode b_Cm_isAsSaid 109 = .ok (.iconst 3, 1) := by decide +kernel
theorem d_Cm_isAsSaid_110 : decode b_Cm_isAsSaid 110 = .ok (.invokestatic 9, 3) := by decide +kernel
theorem d_Cm_isAsSaid_113 : decode b_Cm_isAsSaid 113 = .ok (.ireturn, 1) := by decide +kernel
theorem d_Cm_isAsSaid_114 : decode b_Cm_isAsSaid 114 = .ok (.iload_n 1, 1) := by decide +kernel
theorem d_Cm_isAsSaid_115 : decode b_Cm_isAsSaid 115 = .ok (.iconst 4, 1) := by decide +kernel
theorem d_Cm_isAsSaid_116 : decode b_Cm_isAsSaid 116 = .ok (.invokestatic 9, 3) := by decide +kernel
theorem d_Cm_isAsSaid_119 : decode b_Cm_isAsSaid 119 = .ok (.ifCond .eq 15, 3) := by decide +kernel
theorem d_Cm_isAsSaid_122 : decode b_Cm_isAsSaid 122 = .ok (.iload_n 2, 1) := by decide +kernel
theorem d_Cm_isAsSaid_123 : decode b_Cm_isAsSaid 123 = .ok (.iconst 4, 1) := by decide +kernel
theorem d_Cm_isAsSaid_124 : decode b_Cm_isAsSaid 124 = .ok (.invokestatic 9, 3) := by decide +kernel
theorem d_Cm_isAsSaid_127 : decode b_Cm_isAsSaid 127 = .ok (.ifCond .eq 7, 3) := by decide +kernel
theorem d_Cm_isAsSaid_130 : decode b_Cm_isAsSaid 130 = .ok (.iconst 1, 1) := by decide +kernel
theorem d_Cm_isAsSaid_131 : decode b_Cm_isAsSaid 131 = .ok (.goto 4, 3) := by decide +kernel
theorem d_Cm_isAsSaid_134 : decode b_Cm_isAsSaid 134 = .ok (.iconst 0, 1) := by decide +kernel
theorem d_Cm_isAsSaid_135 : decode b_Cm_isAsSaid 135 = .ok (.ireturn, 1) := by decide +kernel
theorem d_Cm_isAsSaid_136 : decode b_Cm_isAsSaid 136 = .ok (.iconst 0, 1) := by decide +kernel
theorem d_Cm_isAsSaid_137 : decode b_Cm_isAsSaid 137 = .ok (.ireturn, 1) := by decide +kernel
theorem d_Cm_become_0 : decode b_Cm_become 0 = .ok (.aload_n 0, 1) := by decide +kernel
theorem d_Cm_become_1 : decode b_Cm_become 1 = .ok (.iload_n 1, 1) := by decide +kernel
theorem d_Cm_become_2 : decode b_Cm_become 2 = .ok (.putfield 13, 3) := by decide +kernel
theorem d_Cm_become_5 : decode b_Cm_become 5 = .ok (.aload_n 0, 1) := by decide +kernel
theorem d_Cm_become_6 : decode b_Cm_become 6 = .ok (.iload_n 2, 1) := by decide +kernel
theorem d_Cm_become_7 : decode b_Cm_become 7 = .ok (.putfield 19, 3) := by decide +kernel
theorem d_Cm_become_10 : decode b_Cm_become 10 = .ok (.aload_n 0, 1) := by decide +kernel
theorem d_Cm_become_11 : decode b_Cm_become 11 = .ok (.iload_n 3, 1) := by decide +kernel
theorem d_Cm_become_12 : decode b_Cm_become 12 = .ok (.putfield 22, 3) := by decide +kernel
theorem d_Cm_become_15 : decode b_Cm_become 15 = .ok (.return_, 1) := by decide +kernel
theorem d_Cm_failsIn_0 : decode b_Cm_failsIn 0 = .ok (.aload_n 0, 1) := by decide +kernel
theorem d_Cm_failsIn_1 : decode b_Cm_failsIn 1 = .ok (.getfield 13, 3) := by decide +kernel
theorem d_Cm_failsIn_4 : decode b_Cm_failsIn 4 = .ok (.tableswitch 116 0 3 #[32, 53, 74, 99], 32) := by decide +kernel
theorem d_Cm_failsIn_36 : decode b_Cm_failsIn 36 = .ok (.iload_n 1, 1) := by decide +kernel
theorem d_Cm_failsIn_37 : decode b_Cm_failsIn 37 = .ok (.aload_n 0, 1) := by decide +kernel
theorem d_Cm_failsIn_38 : decode b_Cm_failsIn 38 = .ok (.getfield 19, 3) := by decide +kernel
theorem d_Cm_failsIn_41 : decode b_Cm_failsIn 41 = .ok (.invokestatic 25, 3) := by decide +kernel
theorem d_Cm_failsIn_44 : decode b_Cm_failsIn 44 = .ok (.aload_n 0, 1) := by decide +kernel
theorem d_Cm_failsIn_45 : decode b_Cm_failsIn 45 = .ok (.getfield 22, 3) := by decide +kernel
theorem d_Cm_failsIn_48 : decode b_Cm_failsIn 48 = .ok (.if_icmp .ne 7, 3) := by decide +kernel
theorem d_Cm_failsIn_51 : decode b_Cm_failsIn 51 = .ok (.iconst 1, 1) := by decide +kernel
theorem d_Cm_failsIn_52 : decode b_Cm_failsIn 52 = .ok (.goto 4, 3) := by decide +kernel
theorem d_Cm_failsIn_55 : decode b_Cm_failsIn 55 = .ok (.iconst 0, 1) := by decide +kernel
theorem d_Cm_failsIn_56 : decode b_Cm_failsIn 56 = .ok (.ireturn, 1) := by decide +kernel
theorem d_Cm_failsIn_57 : decode b_Cm_failsIn 57 = .ok (.iload_n 1, 1) := by decide +kernel
theorem d_Cm_failsIn_58 : decode b_Cm_failsIn 58 = .ok (.aload_n 0, 1) := by decide +kernel
theorem d_Cm_failsIn_59 : decode b_Cm_failsIn 59 = .ok (.getfield 19, 3) := by decide +kernel
theorem d_Cm_failsIn_62 : decode b_Cm_failsIn 62 = .ok (.invokestatic 31, 3) := by decide +kernel
theorem d_Cm_failsIn_65 : decode b_Cm_failsIn 65 = .ok (.aload_n 0, 1) := by decide +kernel
theorem d_Cm_failsIn_66 : decode b_Cm_failsIn 66 = .ok (.getfield 22, 3) := by decide +kernel
theorem d_Cm_failsIn_69 : decode b_Cm_failsIn 69 = .ok (.if_icmp .ne 7, 3) := by decide +kernel
theorem d_Cm_failsIn_72 : decode b_Cm_failsIn 72 = .ok (.iconst 1, 1) := by decide +kernel
theorem d_Cm_failsIn_73 : decode b_Cm_failsIn 73 = .ok (.goto 4, 3) := by decide +kernel
theorem d_Cm_failsIn_76 : decode b_Cm_failsIn 76 = .ok (.iconst 0, 1) := by decide +kernel
theorem d_Cm_failsIn_77 : decode b_Cm_failsIn 77 = .ok (.ireturn, 1) := by decide +kernel
theorem d_Cm_failsIn_78 : decode b_Cm_failsIn 78 = .ok (.iload_n 1, 1) := by decide +kernel
theorem d_Cm_failsIn_79 : decode b_Cm_failsIn 79 = .ok (.aload_n 0, 1) := by decide +kernel
theorem d_Cm_failsIn_80 : decode b_Cm_failsIn 80 = .ok (.getfield 19, 3) := by decide +kernel
theorem d_Cm_failsIn_83 : decode b_Cm_failsIn 83 = .ok (.invokestatic 31, 3) := by decide +kernel
theorem d_Cm_failsIn_86 : decode b_Cm_failsIn 86 = .ok (.iload_n 1, 1) := by decide +kernel
theorem d_Cm_failsIn_87 : decode b_Cm_failsIn 87 = .ok (.aload_n 0, 1) := by decide +kernel
theorem d_Cm_failsIn_88 : decode b_Cm_failsIn 88 = .ok (.getfield 22, 3) := by decide +kernel
theorem d_Cm_failsIn_91 : decode b_Cm_failsIn 91 = .ok (.invokestatic 31, 3) := by decide +kernel
theorem d_Cm_failsIn_94 : decode b_Cm_failsIn 94 = .ok (.if_icmp .ne 7, 3) := by decide +kernel
theorem d_Cm_failsIn_97 : decode b_Cm_failsIn 97 = .ok (.iconst 1, 1) := by decide +kernel
theorem d_Cm_failsIn_98 : decode b_Cm_failsIn 98 = .ok (.goto 4, 3) := by decide +kernel
theorem d_Cm_failsIn_101 : decode b_Cm_failsIn 101 = .ok (.iconst 0, 1) := by decide +kernel
theorem d_Cm_failsIn_102 : decode b_Cm_failsIn 102 = .ok (.ireturn, 1) := by decide +kernel
theorem d_Cm_failsIn_103 : decode b_Cm_failsIn 103 = .ok (.iload_n 1, 1) := by decide +kernel
theorem d_Cm_failsIn_104 : decode b_Cm_failsIn 104 = .ok (.invokestatic 34, 3) := by decide +kernel
theorem d_Cm_failsIn_107 : decode b_Cm_failsIn 107 = .ok (.aload_n 0, 1) := by decide +kernel
theorem d_Cm_failsIn_108 : decode b_Cm_failsIn 108 = .ok (.getfield 19, 3) := by decide +kernel
theorem d_Cm_failsIn_111 : decode b_Cm_failsIn 111 = .ok (.if_icmp .lt 7, 3) := by decide +kernel
theorem d_Cm_failsIn_114 : decode b_Cm_failsIn 114 = .ok (.iconst 1, 1) := by decide +kernel
theorem d_Cm_failsIn_115 : decode b_Cm_failsIn 115 = .ok (.goto 4, 3) := by decide +kernel
theorem d_Cm_failsIn_118 : decode b_Cm_failsIn 118 = .ok (.iconst 0, 1) := by decide +kernel
theorem d_Cm_failsIn_119 : decode b_Cm_failsIn 119 = .ok (.ireturn, 1) := by decide +kernel
theorem d_Cm_failsIn_120 : decode b_Cm_failsIn 120 = .ok (.iload_n 1, 1) := by decide +kernel
theorem d_Cm_failsIn_121 : decode b_Cm_failsIn 121 = .ok (.aload_n 0, 1) := by decide +kernel
theorem d_Cm_failsIn_122 : decode b_Cm_failsIn 122 = .ok (.getfield 19, 3) := by decide +kernel
theorem d_Cm_failsIn_125 : decode b_Cm_failsIn 125 = .ok (.invokestatic 25, 3) := by decide +kernel
theorem d_Cm_failsIn_128 : decode b_Cm_failsIn 128 = .ok (.iload_n 1, 1) := by decide +kernel
theorem d_Cm_failsIn_129 : decode b_Cm_failsIn 129 = .ok (.aload_n 0, 1) := by decide +kernel
theorem d_Cm_failsIn_130 : decode b_Cm_failsIn 130 = .ok (.getfield 22, 3) := by decide +kernel
theorem d_Cm_failsIn_133 : decode b_Cm_failsIn 133 = .ok (.invokestatic 25, 3) := by decide +kernel
theorem d_Cm_failsIn_136 : decode b_Cm_failsIn 136 = .ok (.if_icmp .le 7, 3) := by decide +kernel
theorem d_Cm_failsIn_139 : decode b_Cm_failsIn 139 = .ok (.iconst 1, 1) := by decide +kernel
theorem d_Cm_failsIn_140 : decode b_Cm_failsIn 140 = .ok (.goto 4, 3) := by decide +kernel
theorem d_Cm_failsIn_143 : decode b_Cm_failsIn 143 = .ok (.iconst 0, 1) := by decide +kernel
theorem d_Cm_failsIn_144 : decode b_Cm_failsIn 144 = .ok (.ireturn, 1) := by decide +kernel
theorem d_Pk_first_0 : decode b_Pk_first 0 = .ok (.iload_n 0, 1) := by decide +kernel
theorem d_Pk_first_1 : decode b_Pk_first 1 = .ok (.ireturn, 1) := by decide +kernel
theorem d_Pk_variable_0 : decode b_Pk_variable 0 = .ok (.iload_n 0, 1) := by decide +kernel
theorem d_Pk_variable_1 : decode b_Pk_variable 1 = .ok (.iconst 2, 1) := by decide +kernel
theorem d_Pk_variable_2 : decode b_Pk_variable 2 = .ok (.iload_n 1, 1) := by decide +kernel
theorem d_Pk_variable_3 : decode b_Pk_variable 3 = .ok (.imul, 1) := by decide +kernel
theorem d_Pk_variable_4 : decode b_Pk_variable 4 = .ok (.ishr, 1) := by decide +kernel
theorem d_Pk_variable_5 : decode b_Pk_variable 5 = .ok (.iconst 3, 1) := by decide +kernel
theorem d_Pk_variable_6 : decode b_Pk_variable 6 = .ok (.iand, 1) := by decide +kernel
theorem d_Pk_variable_7 : decode b_Pk_variable 7 = .ok (.ireturn, 1) := by decide +kernel
theorem d_Pk_withVariable_0 : decode b_Pk_withVariable 0 = .ok (.iload_n 0, 1) := by decide +kernel
theorem d_Pk_withVariable_1 : decode b_Pk_withVariable 1 = .ok (.iconst 3, 1) := by decide +kernel
theorem d_Pk_withVariable_2 : decode b_Pk_withVariable 2 = .ok (.iconst 2, 1) := by decide +kernel
theorem d_Pk_withVariable_3 : decode b_Pk_withVariable 3 = .ok (.iload_n 1, 1) := by decide +kernel
theorem d_Pk_withVariable_4 : decode b_Pk_withVariable 4 = .ok (.imul, 1) := by decide +kernel
theorem d_Pk_withVariable_5 : decode b_Pk_withVariable 5 = .ok (.ishl, 1) := by decide +kernel
theorem d_Pk_withVariable_6 : decode b_Pk_withVariable 6 = .ok (.iconst (-1), 1) := by decide +kernel
theorem d_Pk_withVariable_7 : decode b_Pk_withVariable 7 = .ok (.ixor, 1) := by decide +kernel
theorem d_Pk_withVariable_8 : decode b_Pk_withVariable 8 = .ok (.iand, 1) := by decide +kernel
theorem d_Pk_withVariable_9 : decode b_Pk_withVariable 9 = .ok (.iload_n 2, 1) := by decide +kernel
theorem d_Pk_withVariable_10 : decode b_Pk_withVariable 10 = .ok (.iconst 2, 1) := by decide +kernel
theorem d_Pk_withVariable_11 : decode b_Pk_withVariable 11 = .ok (.iload_n 1, 1) := by decide +kernel
theorem d_Pk_withVariable_12 : decode b_Pk_withVariable 12 = .ok (.imul, 1) := by decide +kernel
theorem d_Pk_withVariable_13 : decode b_Pk_withVariable 13 = .ok (.ishl, 1) := by decide +kernel
theorem d_Pk_withVariable_14 : decode b_Pk_withVariable 14 = .ok (.ior, 1) := by decide +kernel
theorem d_Pk_withVariable_15 : decode b_Pk_withVariable 15 = .ok (.ireturn, 1) := by decide +kernel
theorem d_Pk_place_0 : decode b_Pk_place 0 = .ok (.iload_n 0, 1) := by decide +kernel
theorem d_Pk_place_1 : decode b_Pk_place 1 = .ok (.bipush 8, 2) := by decide +kernel
theorem d_Pk_place_3 : decode b_Pk_place 3 = .ok (.iconst 3, 1) := by decide +kernel
theorem d_Pk_place_4 : decode b_Pk_place 4 = .ok (.iload_n 1, 1) := by decide +kernel
theorem d_Pk_place_5 : decode b_Pk_place 5 = .ok (.imul, 1) := by decide +kernel
theorem d_Pk_place_6 : decode b_Pk_place 6 = .ok (.iadd, 1) := by decide +kernel
theorem d_Pk_place_7 : decode b_Pk_place 7 = .ok (.ishr, 1) := by decide +kernel
theorem d_Pk_place_8 : decode b_Pk_place 8 = .ok (.bipush 7, 2) := by decide +kernel
theorem d_Pk_place_10 : decode b_Pk_place 10 = .ok (.iand, 1) := by decide +kernel
theorem d_Pk_place_11 : decode b_Pk_place 11 = .ok (.ireturn, 1) := by decide +kernel
theorem d_Pk_withPlace_0 : decode b_Pk_withPlace 0 = .ok (.bipush 8, 2) := by decide +kernel
theorem d_Pk_withPlace_2 : decode b_Pk_withPlace 2 = .ok (.iconst 3, 1) := by decide +kernel
theorem d_Pk_withPlace_3 : decode b_Pk_withPlace 3 = .ok (.iload_n 1, 1) := by decide +kernel
theorem d_Pk_withPlace_4 : decode b_Pk_withPlace 4 = .ok (.imul, 1) := by decide +kernel
theorem d_Pk_withPlace_5 : decode b_Pk_withPlace 5 = .ok (.iadd, 1) := by decide +kernel
theorem d_Pk_withPlace_6 : decode b_Pk_withPlace 6 = .ok (.istore_n 3, 1) := by decide +kernel
theorem d_Pk_withPlace_7 : decode b_Pk_withPlace 7 = .ok (.iload_n 0, 1) := by decide +kernel
theorem d_Pk_withPlace_8 : decode b_Pk_withPlace 8 = .ok (.bipush 7, 2) := by decide +kernel
theorem d_Pk_withPlace_10 : decode b_Pk_withPlace 10 = .ok (.iload_n 3, 1) := by decide +kernel
theorem d_Pk_withPlace_11 : decode b_Pk_withPlace 11 = .ok (.ishl, 1) := by decide +kernel
theorem d_Pk_withPlace_12 : decode b_Pk_withPlace 12 = .ok (.iconst (-1), 1) := by decide +kernel
theorem d_Pk_withPlace_13 : decode b_Pk_withPlace 13 = .ok (.ixor, 1) := by decide +kernel
theorem d_Pk_withPlace_14 : decode b_Pk_withPlace 14 = .ok (.iand, 1) := by decide +kernel
theorem d_Pk_withPlace_15 : decode b_Pk_withPlace 15 = .ok (.iload_n 2, 1) := by decide +kernel
theorem d_Pk_withPlace_16 : decode b_Pk_withPlace 16 = .ok (.iload_n 3, 1) := by decide +kernel
theorem d_Pk_withPlace_17 : decode b_Pk_withPlace 17 = .ok (.ishl, 1) := by decide +kernel
theorem d_Pk_withPlace_18 : decode b_Pk_withPlace 18 = .ok (.ior, 1) := by decide +kernel
theorem d_Pk_withPlace_19 : decode b_Pk_withPlace 19 = .ok (.ireturn, 1) := by decide +kernel
theorem d_Pk_channelLength_0 : decode b_Pk_channelLength 0 = .ok (.iload_n 0, 1) := by decide +kernel
theorem d_Pk_channelLength_1 : decode b_Pk_channelLength 1 = .ok (.bipush 17, 2) := by decide +kernel
theorem d_Pk_channelLength_3 : decode b_Pk_channelLength 3 = .ok (.ishr, 1) := by decide +kernel
theorem d_Pk_channelLength_4 : decode b_Pk_channelLength 4 = .ok (.iconst 3, 1) := by decide +kernel
theorem d_Pk_channelLength_5 : decode b_Pk_channelLength 5 = .ok (.iand, 1) := by decide +kernel
theorem d_Pk_channelLength_6 : decode b_Pk_channelLength 6 = .ok (.ireturn, 1) := by decide +kernel
theorem d_Pk_channelValue_0 : decode b_Pk_channelValue 0 = .ok (.iload_n 1, 1) := by decide +kernel
theorem d_Pk_channelValue_1 : decode b_Pk_channelValue 1 = .ok (.iload_n 0, 1) := by decide +kernel
theorem d_Pk_channelValue_2 : decode b_Pk_channelValue 2 = .ok (.invokestatic 11, 3) := by decide +kernel
theorem d_Pk_channelValue_5 : decode b_Pk_channelValue 5 = .ok (.if_icmp .ge 16, 3) := by decide +kernel
theorem d_Pk_channelValue_8 : decode b_Pk_channelValue 8 = .ok (.iload_n 0, 1) := by decide +kernel
theorem d_Pk_channelValue_9 : decode b_Pk_channelValue 9 = .ok (.bipush 19, 2) := by decide +kernel
theorem d_Pk_channelValue_11 : decode b_Pk_channelValue 11 = .ok (.iconst 2, 1) := by decide +kernel
theorem d_Pk_channelValue_12 : decode b_Pk_channelValue 12 = .ok (.iload_n 1, 1) := by decide +kernel
theorem d_Pk_channelValue_13 : decode b_Pk_channelValue 13 = .ok (.imul, 1) := by decide +kernel
theorem d_Pk_channelValue_14 : decode b_Pk_channelValue 14 = .ok (.iadd, 1) := by decide +kernel
theorem d_Pk_channelValue_15 : decode b_Pk_channelValue 15 = .ok (.ishr, 1) := by decide +kernel
theorem d_Pk_channelValue_16 : decode b_Pk_channelValue 16 = .ok (.iconst 3, 1) := by decide +kernel
theorem d_Pk_channelValue_17 : decode b_Pk_channelValue 17 = .ok (.iand, 1) := by decide +kernel
theorem d_Pk_channelValue_18 : decode b_Pk_channelValue 18 = .ok (.goto 5, 3) := by decide +kernel
theorem d_Pk_channelValue_21 : decode b_Pk_channelValue 21 = .ok (.bipush (-2), 2) := by decide +kernel
theorem d_Pk_channelValue_23 : decode b_Pk_channelValue 23 = .ok (.ireturn, 1) := by decide +kernel
theorem d_Pk_withSent_0 : decode b_Pk_withSent 0 = .ok (.iload_n 0, 1) := by decide +kernel
theorem d_Pk_withSent_1 : decode b_Pk_withSent 1 = .ok (.invokestatic 11, 3) := by decide +kernel
theorem d_Pk_withSent_4 : decode b_Pk_withSent 4 = .ok (.istore_n 2, 1) := by decide +kernel
theorem d_Pk_withSent_5 : decode b_Pk_withSent 5 = .ok (.iload_n 0, 1) := by decide +kernel
theorem d_Pk_withSent_6 : decode b_Pk_withSent 6 = .ok (.iload_n 1, 1) := by decide +kernel
theorem d_Pk_withSent_7 : decode b_Pk_withSent 7 = .ok (.bipush 19, 2) := by decide +kernel
theorem d_Pk_withSent_9 : decode b_Pk_withSent 9 = .ok (.iconst 2, 1) := by decide +kernel
theorem d_Pk_withSent_10 : decode b_Pk_withSent 10 = .ok (.iload_n 2, 1) := by decide +kernel
theorem d_Pk_withSent_11 : decode b_Pk_withSent 11 = .ok (.imul, 1) := by decide +kernel
theorem d_Pk_withSent_12 : decode b_Pk_withSent 12 = .ok (.iadd, 1) := by decide +kernel
theorem d_Pk_withSent_13 : decode b_Pk_withSent 13 = .ok (.ishl, 1) := by decide +kernel
theorem d_Pk_withSent_14 : decode b_Pk_withSent 14 = .ok (.ior, 1) := by decide +kernel
theorem d_Pk_withSent_15 : decode b_Pk_withSent 15 = .ok (.ldc 15, 2) := by decide +kernel
theorem d_Pk_withSent_17 : decode b_Pk_withSent 17 = .ok (.iadd, 1) := by decide +kernel
theorem d_Pk_withSent_18 : decode b_Pk_withSent 18 = .ok (.ireturn, 1) := by decide +kernel
theorem d_Pk_withoutFirst_0 : decode b_Pk_withoutFirst 0 = .ok (.iload_n 0, 1) := by decide +kernel
theorem d_Pk_withoutFirst_1 : decode b_Pk_withoutFirst 1 = .ok (.invokestatic 11, 3) := by decide +kernel
theorem d_Pk_withoutFirst_4 : decode b_Pk_withoutFirst 4 = .ok (.iconst 1, 1) := by decide +kernel
theorem d_Pk_withoutFirst_5 : decode b_Pk_withoutFirst 5 = .ok (.isub, 1) := by decide +kernel
theorem d_Pk_withoutFirst_6 : decode b_Pk_withoutFirst 6 = .ok (.istore_n 1, 1) := by decide +kernel
theorem d_Pk_withoutFirst_7 : decode b_Pk_withoutFirst 7 = .ok (.iload_n 0, 1) := by decide +kernel
theorem d_Pk_withoutFirst_8 : decode b_Pk_withoutFirst 8 = .ok (.bipush 21, 2) := by decide +kernel
theorem d_Pk_withoutFirst_10 : decode b_Pk_withoutFirst 10 = .ok (.ishr, 1) := by decide +kernel
theorem d_Pk_withoutFirst_11 : decode b_Pk_withoutFirst 11 = .ok (.istore_n 2, 1) := by decide +kernel
theorem d_Pk_withoutFirst_12 : decode b_Pk_withoutFirst 12 = .ok (.iload_n 0, 1) := by decide +kernel
theorem d_Pk_withoutFirst_13 : decode b_Pk_withoutFirst 13 = .ok (.ldc 16, 2) := by decide +kernel
theorem d_Pk_withoutFirst_15 : decode b_Pk_withoutFirst 15 = .ok (.iand, 1) := by decide +kernel
theorem d_Pk_withoutFirst_16 : decode b_Pk_withoutFirst 16 = .ok (.istore_n 3, 1) := by decide +kernel
theorem d_Pk_withoutFirst_17 : decode b_Pk_withoutFirst 17 = .ok (.iload_n 3, 1) := by decide +kernel
theorem d_Pk_withoutFirst_18 : decode b_Pk_withoutFirst 18 = .ok (.iload_n 1, 1) := by decide +kernel
theorem d_Pk_withoutFirst_19 : decode b_Pk_withoutFirst 19 = .ok (.bipush 17, 2) := by decide +kernel
theorem d_Pk_withoutFirst_21 : decode b_Pk_withoutFirst 21 = .ok (.ishl, 1) := by decide +kernel
theorem d_Pk_withoutFirst_22 : decode b_Pk_withoutFirst 22 = .ok (.ior, 1) := by decide +kernel
theorem d_Pk_withoutFirst_23 : decode b_Pk_withoutFirst 23 = .ok (.iload_n 2, 1) := by decide +kernel
theorem d_Pk_withoutFirst_24 : decode b_Pk_withoutFirst 24 = .ok (.bipush 19, 2) := by decide +kernel
theorem d_Pk_withoutFirst_26 : decode b_Pk_withoutFirst 26 = .ok (.ishl, 1) := by decide +kernel
theorem d_Pk_withoutFirst_27 : decode b_Pk_withoutFirst 27 = .ok (.ior, 1) := by decide +kernel
theorem d_Pk_withoutFirst_28 : decode b_Pk_withoutFirst 28 = .ok (.ireturn, 1) := by decide +kernel
theorem d_Pk_allAtLastPlace_0 : decode b_Pk_allAtLastPlace 0 = .ok (.iconst 1, 1) := by decide +kernel
theorem d_Pk_allAtLastPlace_1 : decode b_Pk_allAtLastPlace 1 = .ok (.istore_n 1, 1) := by decide +kernel
theorem d_Pk_allAtLastPlace_2 : decode b_Pk_allAtLastPlace 2 = .ok (.iconst 0, 1) := by decide +kernel
theorem d_Pk_allAtLastPlace_3 : decode b_Pk_allAtLastPlace 3 = .ok (.istore_n 2, 1) := by decide +kernel
theorem d_Pk_allAtLastPlace_4 : decode b_Pk_allAtLastPlace 4 = .ok (.iload_n 2, 1) := by decide +kernel
theorem d_Pk_allAtLastPlace_5 : decode b_Pk_allAtLastPlace 5 = .ok (.iconst 3, 1) := by decide +kernel
theorem d_Pk_allAtLastPlace_6 : decode b_Pk_allAtLastPlace 6 = .ok (.if_icmp .ge 29, 3) := by decide +kernel
theorem d_Pk_allAtLastPlace_9 : decode b_Pk_allAtLastPlace 9 = .ok (.iload_n 1, 1) := by decide +kernel
theorem d_Pk_allAtLastPlace_10 : decode b_Pk_allAtLastPlace 10 = .ok (.ifCond .eq 17, 3) := by decide +kernel
theorem d_Pk_allAtLastPlace_13 : decode b_Pk_allAtLastPlace 13 = .ok (.iload_n 0, 1) := by decide +kernel
theorem d_Pk_allAtLastPlace_14 : decode b_Pk_allAtLastPlace 14 = .ok (.iload_n 2, 1) := by decide +kernel
theorem d_Pk_allAtLastPlace_15 : decode b_Pk_allAtLastPlace 15 = .ok (.invokestatic 17, 3) := by decide +kernel
theorem d_Pk_allAtLastPlace_18 : decode b_Pk_allAtLastPlace 18 = .ok (.bipush 7, 2) := by decide +kernel
theorem d_Pk_allAtLastPlace_20 : decode b_Pk_allAtLastPlace 20 = .ok (.if_icmp .ne 7, 3) := by decide +kernel
theorem d_Pk_allAtLastPlace_23 : decode b_Pk_allAtLastPlace 23 = .ok (.iconst 1, 1) := by decide +kernel
theorem d_Pk_allAtLastPlace_24 : decode b_Pk_allAtLastPlace 24 = .ok (.goto 4, 3) := by decide +kernel
theorem d_Pk_allAtLastPlace_27 : decode b_Pk_allAtLastPlace 27 = .ok (.iconst 0, 1) := by decide +kernel
theorem d_Pk_allAtLastPlace_28 : decode b_Pk_allAtLastPlace 28 = .ok (.istore_n 1, 1) := by decide +kernel
theorem d_Pk_allAtLastPlace_29 : decode b_Pk_allAtLastPlace 29 = .ok (.iinc 2 1, 3) := by decide +kernel
theorem d_Pk_allAtLastPlace_32 : decode b_Pk_allAtLastPlace 32 = .ok (.goto (-28), 3) := by decide +kernel
theorem d_Pk_allAtLastPlace_35 : decode b_Pk_allAtLastPlace 35 = .ok (.iload_n 1, 1) := by decide +kernel
theorem d_Pk_allAtLastPlace_36 : decode b_Pk_allAtLastPlace 36 = .ok (.ireturn, 1) := by decide +kernel
theorem d_Pk_part_0 : decode b_Pk_part 0 = .ok (.iload_n 1, 1) := by decide +kernel
theorem d_Pk_part_1 : decode b_Pk_part 1 = .ok (.iconst 3, 1) := by decide +kernel
theorem d_Pk_part_2 : decode b_Pk_part 2 = .ok (.if_icmp .ge 9, 3) := by decide +kernel
theorem d_Pk_part_5 : decode b_Pk_part 5 = .ok (.iload_n 0, 1) := by decide +kernel
theorem d_Pk_part_6 : decode b_Pk_part 6 = .ok (.iload_n 1, 1) := by decide +kernel
theorem d_Pk_part_7 : decode b_Pk_part 7 = .ok (.invokestatic 17, 3) := by decide +kernel
theorem d_Pk_part_10 : decode b_Pk_part 10 = .ok (.ireturn, 1) := by decide +kernel
theorem d_Pk_part_11 : decode b_Pk_part 11 = .ok (.iload_n 1, 1) := by decide +kernel
theorem d_Pk_part_12 : decode b_Pk_part 12 = .ok (.bipush 7, 2) := by decide +kernel
theorem d_Pk_part_14 : decode b_Pk_part 14 = .ok (.if_icmp .ge 11, 3) := by decide +kernel
theorem d_Pk_part_17 : decode b_Pk_part 17 = .ok (.iload_n 0, 1) := by decide +kernel
theorem d_Pk_part_18 : decode b_Pk_part 18 = .ok (.iload_n 1, 1) := by decide +kernel
theorem d_Pk_part_19 : decode b_Pk_part 19 = .ok (.iconst 3, 1) := by decide +kernel
theorem d_Pk_part_20 : decode b_Pk_part 20 = .ok (.isub, 1) := by decide +kernel
theorem d_Pk_part_21 : decode b_Pk_part 21 = .ok (.invokestatic 21, 3) := by decide +kernel
theorem d_Pk_part_24 : decode b_Pk_part 24 = .ok (.ireturn, 1) := by decide +kernel
theorem d_Pk_part_25 : decode b_Pk_part 25 = .ok (.iload_n 1, 1) := by decide +kernel
theorem d_Pk_part_26 : decode b_Pk_part 26 = .ok (.bipush 7, 2) := by decide +kernel
theorem d_Pk_part_28 : decode b_Pk_part 28 = .ok (.if_icmp .ne 10, 3) := by decide +kernel
theorem d_Pk_part_31 : decode b_Pk_part 31 = .ok (.iload_n 0, 1) := by decide +kernel
theorem d_Pk_part_32 : decode b_Pk_part 32 = .ok (.invokestatic 11, 3) := by decide +kernel
theorem d_Pk_part_35 : decode b_Pk_part 35 = .ok (.goto 11, 3) := by decide +kernel
theorem d_Pk_part_38 : decode b_Pk_part 38 = .ok (.iload_n 0, 1) := by decide +kernel
theorem d_Pk_part_39 : decode b_Pk_part 39 = .ok (.iload_n 1, 1) := by decide +kernel
theorem d_Pk_part_40 : decode b_Pk_part 40 = .ok (.bipush 8, 2) := by decide +kernel
theorem d_Pk_part_42 : decode b_Pk_part 42 = .ok (.isub, 1) := by decide +kernel
theorem d_Pk_part_43 : decode b_Pk_part 43 = .ok (.invokestatic 24, 3) := by decide +kernel
theorem d_Pk_part_46 : decode b_Pk_part 46 = .ok (.ireturn, 1) := by decide +kernel
theorem d_Tr_init_0 : decode b_Tr_init 0 = .ok (.aload_n 0, 1) := by decide +kernel
theorem d_Tr_init_1 : decode b_Tr_init 1 = .ok (.invokespecial 3, 3) := by decide +kernel
theorem d_Tr_init_4 : decode b_Tr_init 4 = .ok (.return_, 1) := by decide +kernel
theorem d_Tr_isAsSaid_0 : decode b_Tr_isAsSaid 0 = .ok (.iload_n 0, 1) := by decide +kernel
theorem d_Tr_isAsSaid_1 : decode b_Tr_isAsSaid 1 = .ok (.iconst 3, 1) := by decide +kernel
theorem d_Tr_isAsSaid_2 : decode b_Tr_isAsSaid 2 = .ok (.invokestatic 9, 3) := by decide +kernel
theorem d_Tr_isAsSaid_5 : decode b_Tr_isAsSaid 5 = .ok (.ifCond .eq 35, 3) := by decide +kernel
theorem d_Tr_isAsSaid_8 : decode b_Tr_isAsSaid 8 = .ok (.iload_n 1, 1) := by decide +kernel
theorem d_Tr_isAsSaid_9 : decode b_Tr_isAsSaid 9 = .ok (.bipush 8, 2) := by decide +kernel
theorem d_Tr_isAsSaid_11 : decode b_Tr_isAsSaid 11 = .ok (.invokestatic 9, 3) := by decide +kernel
theorem d_Tr_isAsSaid_14 : decode b_Tr_isAsSaid 14 = .ok (.ifCond .eq 26, 3) := by decide +kernel
theorem d_Tr_isAsSaid_17 : decode b_Tr_isAsSaid 17 = .ok (.iload_n 2, 1) := by decide +kernel
theorem d_Tr_isAsSaid_18 : decode b_Tr_isAsSaid 18 = .ok (.bipush 8, 2) := by decide +kernel
theorem d_Tr_isAsSaid_20 : decode b_Tr_isAsSaid 20 = .ok (.invokestatic 9, 3) := by decide +kernel
theorem d_Tr_isAsSaid_23 : decode b_Tr_isAsSaid 23 = .ok (.ifCond .eq 17, 3) := by decide +kernel
theorem d_Tr_isAsSaid_26 : decode b_Tr_isAsSaid 26 = .ok (.iload_n 3, 1) := by decide +kernel
theorem d_Tr_isAsSaid_27 : decode b_Tr_isAsSaid 27 = .ok (.sipush 128, 3) := by decide +kernel
theorem d_Tr_isAsSaid_30 : decode b_Tr_isAsSaid 30 = .ok (.invokestatic 9, 3) := by decide +kernel
theorem d_Tr_isAsSaid_33 : decode b_Tr_isAsSaid 33 = .ok (.ifCond .eq 7, 3) := by decide +kernel
theorem d_Tr_isAsSaid_36 : decode b_Tr_isAsSaid 36 = .ok (.iconst 1, 1) := by decide +kernel
theorem d_Tr_isAsSaid_37 : decode b_Tr_isAsSaid 37 = .ok (.goto 4, 3) := by decide +kernel
theorem d_Tr_isAsSaid_40 : decode b_Tr_isAsSaid 40 = .ok (.iconst 0, 1) := by decide +kernel
theorem d_Tr_isAsSaid_41 : decode b_Tr_isAsSaid 41 = .ok (.ireturn, 1) := by decide +kernel
theorem d_Tr_become_0 : decode b_Tr_become 0 = .ok (.aload_n 0, 1) := by decide +kernel
theorem d_Tr_become_1 : decode b_Tr_become 1 = .ok (.iload_n 1, 1) := by decide +kernel
theorem d_Tr_become_2 : decode b_Tr_become 2 = .ok (.putfield 13, 3) := by decide +kernel
theorem d_Tr_become_5 : decode b_Tr_become 5 = .ok (.aload_n 0, 1) := by decide +kernel
theorem d_Tr_become_6 : decode b_Tr_become 6 = .ok (.iload_n 2, 1) := by decide +kernel
theorem d_Tr_become_7 : decode b_Tr_become 7 = .ok (.putfield 19, 3) := by decide +kernel
theorem d_Tr_become_10 : decode b_Tr_become 10 = .ok (.aload_n 0, 1) := by decide +kernel
theorem d_Tr_become_11 : decode b_Tr_become 11 = .ok (.iload_n 3, 1) := by decide +kernel
theorem d_Tr_become_12 : decode b_Tr_become 12 = .ok (.putfield 22, 3) := by decide +kernel
theorem d_Tr_become_15 : decode b_Tr_become 15 = .ok (.aload_n 0, 1) := by decide +kernel
theorem d_Tr_become_16 : decode b_Tr_become 16 = .ok (.iload 4, 2) := by decide +kernel
theorem d_Tr_become_18 : decode b_Tr_become 18 = .ok (.bipush 16, 2) := by decide +kernel
theorem d_Tr_become_20 : decode b_Tr_become 20 = .ok (.idiv, 1) := by decide +kernel
theorem d_Tr_become_21 : decode b_Tr_become 21 = .ok (.putfield 25, 3) := by decide +kernel
theorem d_Tr_become_24 : decode b_Tr_become 24 = .ok (.aload_n 0, 1) := by decide +kernel
theorem d_Tr_become_25 : decode b_Tr_become 25 = .ok (.iload 4, 2) := by decide +kernel
theorem d_Tr_become_27 : decode b_Tr_become 27 = .ok (.iconst 4, 1) := by decide +kernel
theorem d_Tr_become_28 : decode b_Tr_become 28 = .ok (.idiv, 1) := by decide +kernel
theorem d_Tr_become_29 : decode b_Tr_become 29 = .ok (.iconst 4, 1) := by decide +kernel
theorem d_Tr_become_30 : decode b_Tr_become 30 = .ok (.irem, 1) := by decide +kernel
theorem d_Tr_become_31 : decode b_Tr_become 31 = .ok (.putfield 28, 3) := by decide +kernel
theorem d_Tr_become_34 : decode b_Tr_become 34 = .ok (.aload_n 0, 1) := by decide +kernel
theorem d_Tr_become_35 : decode b_Tr_become 35 = .ok (.iload 4, 2) := by decide +kernel
theorem d_Tr_become_37 : decode b_Tr_become 37 = .ok (.iconst 4, 1) := by decide +kernel
theorem d_Tr_become_38 : decode b_Tr_become 38 = .ok (.irem, 1) := by decide +kernel
theorem d_Tr_become_39 : decode b_Tr_become 39 = .ok (.putfield 31, 3) := by decide +kernel
theorem d_Tr_become_42 : decode b_Tr_become 42 = .ok (.return_, 1) := by decide +kernel
theorem d_Tr_isOpenIn_0 : decode b_Tr_isOpenIn 0 = .ok (.iload_n 1, 1) := by decide +kernel
theorem d_Tr_isOpenIn_1 : decode b_Tr_isOpenIn 1 = .ok (.aload_n 0, 1) := by decide +kernel
theorem d_Tr_isOpenIn_2 : decode b_Tr_isOpenIn 2 = .ok (.getfield 13, 3) := by decide +kernel
theorem d_Tr_isOpenIn_5 : decode b_Tr_isOpenIn 5 = .ok (.invokestatic 34, 3) := by decide +kernel
theorem d_Tr_isOpenIn_8 : decode b_Tr_isOpenIn 8 = .ok (.aload_n 0, 1) := by decide +kernel
theorem d_Tr_isOpenIn_9 : decode b_Tr_isOpenIn 9 = .ok (.getfield 19, 3) := by decide +kernel
theorem d_Tr_isOpenIn_12 : decode b_Tr_isOpenIn 12 = .ok (.if_icmp .ne 15, 3) := by decide +kernel
theorem d_Tr_isOpenIn_15 : decode b_Tr_isOpenIn 15 = .ok (.aload_n 0, 1) := by decide +kernel
theorem d_Tr_isOpenIn_16 : decode b_Tr_isOpenIn 16 = .ok (.iload_n 1, 1) := by decide +kernel
theorem d_Tr_isOpenIn_17 : decode b_Tr_isOpenIn 17 = .ok (.invokevirtual 40, 3) := by decide +kernel
theorem d_Tr_isOpenIn_20 : decode b_Tr_isOpenIn 20 = .ok (.ifCond .eq 7, 3) := by decide +kernel
theorem d_Tr_isOpenIn_23 : decode b_Tr_isOpenIn 23 = .ok (.iconst 1, 1) := by decide +kernel
theorem d_Tr_isOpenIn_24 : decode b_Tr_isOpenIn 24 = .ok (.goto 4, 3) := by decide +kernel
theorem d_Tr_isOpenIn_27 : decode b_Tr_isOpenIn 27 = .ok (.iconst 0, 1) := by decide +kernel
theorem d_Tr_isOpenIn_28 : decode b_Tr_isOpenIn 28 = .ok (.ireturn, 1) := by decide +kernel
theorem d_Tr_allows_0 : decode b_Tr_allows 0 = .ok (.aload_n 0, 1) := by decide +kernel
theorem d_Tr_allows_1 : decode b_Tr_allows 1 = .ok (.getfield 25, 3) := by decide +kernel
theorem d_Tr_allows_4 : decode b_Tr_allows 4 = .ok (.tableswitch 113 1 7 #[44, 65, 113, 113, 113, 86, 100], 44) := by decide +kernel
theorem d_Tr_allows_48 : decode b_Tr_allows 48 = .ok (.iload_n 1, 1) := by decide +kernel
theorem d_Tr_allows_49 : decode b_Tr_allows 49 = .ok (.aload_n 0, 1) := by decide +kernel
theorem d_Tr_allows_50 : decode b_Tr_allows 50 = .ok (.getfield 28, 3) := by decide +kernel
theorem d_Tr_allows_53 : decode b_Tr_allows 53 = .ok (.invokestatic 44, 3) := by decide +kernel
theorem d_Tr_allows_56 : decode b_Tr_allows 56 = .ok (.aload_n 0, 1) := by decide +kernel
theorem d_Tr_allows_57 : decode b_Tr_allows 57 = .ok (.getfield 31, 3) := by decide +kernel
theorem d_Tr_allows_60 : decode b_Tr_allows 60 = .ok (.if_icmp .ne 7, 3) := by decide +kernel
theorem d_Tr_allows_63 : decode b_Tr_allows 63 = .ok (.iconst 1, 1) := by decide +kernel
theorem d_Tr_allows_64 : decode b_Tr_allows 64 = .ok (.goto 4, 3) := by decide +kernel
theorem d_Tr_allows_67 : decode b_Tr_allows 67 = .ok (.iconst 0, 1) := by decide +kernel
theorem d_Tr_allows_68 : decode b_Tr_allows 68 = .ok (.ireturn, 1) := by decide +kernel
theorem d_Tr_allows_69 : decode b_Tr_allows 69 = .ok (.iload_n 1, 1) := by decide +kernel
theorem d_Tr_allows_70 : decode b_Tr_allows 70 = .ok (.aload_n 0, 1) := by decide +kernel
theorem d_Tr_allows_71 : decode b_Tr_allows 71 = .ok (.getfield 28, 3) := by decide +kernel
theorem d_Tr_allows_74 : decode b_Tr_allows 74 = .ok (.invokestatic 44, 3) := by decide +kernel
theorem d_Tr_allows_77 : decode b_Tr_allows 77 = .ok (.aload_n 0, 1) := by decide +kernel
theorem d_Tr_allows_78 : decode b_Tr_allows 78 = .ok (.getfield 31, 3) := by decide +kernel
theorem d_Tr_allows_81 : decode b_Tr_allows 81 = .ok (.if_icmp .eq 7, 3) := by decide +kernel
theorem d_Tr_allows_84 : decode b_Tr_allows 84 = .ok (.iconst 1, 1) := by decide +kernel
theorem d_Tr_allows_85 : decode b_Tr_allows 85 = .ok (.goto 4, 3) := by decide +kernel
theorem d_Tr_allows_88 : decode b_Tr_allows 88 = .ok (.iconst 0, 1) := by decide +kernel
theorem d_Tr_allows_89 : decode b_Tr_allows 89 = .ok (.ireturn, 1) := by decide +kernel
theorem d_Tr_allows_90 : decode b_Tr_allows 90 = .ok (.iload_n 1, 1) := by decide +kernel
theorem d_Tr_allows_91 : decode b_Tr_allows 91 = .ok (.invokestatic 47, 3) := by decide +kernel
theorem d_Tr_allows_94 : decode b_Tr_allows 94 = .ok (.iconst 2, 1) := by decide +kernel
theorem d_Tr_allows_95 : decode b_Tr_allows 95 = .ok (.if_icmp .ge 7, 3) := by decide +kernel
theorem d_Tr_allows_98 : decode b_Tr_allows 98 = .ok (.iconst 1, 1) := by decide +kernel
theorem d_Tr_allows_99 : decode b_Tr_allows 99 = .ok (.goto 4, 3) := by decide +kernel
theorem d_Tr_allows_102 : decode b_Tr_allows 102 = .ok (.iconst 0, 1) := by decide +kernel
theorem d_Tr_allows_103 : decode b_Tr_allows 103 = .ok (.ireturn, 1) := by decide +kernel
theorem d_Tr_allows_104 : decode b_Tr_allows 104 = .ok (.iload_n 1, 1) := by decide +kernel
theorem d_Tr_allows_105 : decode b_Tr_allows 105 = .ok (.invokestatic 47, 3) := by decide +kernel
theorem d_Tr_allows_108 : decode b_Tr_allows 108 = .ok (.ifCond .le 7, 3) := by decide +kernel
theorem d_Tr_allows_111 : decode b_Tr_allows 111 = .ok (.iconst 1, 1) := by decide +kernel
theorem d_Tr_allows_112 : decode b_Tr_allows 112 = .ok (.goto 4, 3) := by decide +kernel
theorem d_Tr_allows_115 : decode b_Tr_allows 115 = .ok (.iconst 0, 1) := by decide +kernel
theorem d_Tr_allows_116 : decode b_Tr_allows 116 = .ok (.ireturn, 1) := by decide +kernel
theorem d_Tr_allows_117 : decode b_Tr_allows 117 = .ok (.iconst 1, 1) := by decide +kernel
theorem d_Tr_allows_118 : decode b_Tr_allows 118 = .ok (.ireturn, 1) := by decide +kernel
theorem d_Tr_leadsFrom_0 : decode b_Tr_leadsFrom 0 = .ok (.aload_n 0, 1) := by decide +kernel
theorem d_Tr_leadsFrom_1 : decode b_Tr_leadsFrom 1 = .ok (.iload_n 1, 1) := by decide +kernel
theorem d_Tr_leadsFrom_2 : decode b_Tr_leadsFrom 2 = .ok (.invokevirtual 51, 3) := by decide +kernel
theorem d_Tr_leadsFrom_5 : decode b_Tr_leadsFrom 5 = .ok (.aload_n 0, 1) := by decide +kernel
theorem d_Tr_leadsFrom_6 : decode b_Tr_leadsFrom 6 = .ok (.getfield 13, 3) := by decide +kernel
theorem d_Tr_leadsFrom_9 : decode b_Tr_leadsFrom 9 = .ok (.aload_n 0, 1) := by decide +kernel
theorem d_Tr_leadsFrom_10 : decode b_Tr_leadsFrom 10 = .ok (.getfield 22, 3) := by decide +kernel
theorem d_Tr_leadsFrom_13 : decode b_Tr_leadsFrom 13 = .ok (.invokestatic 54, 3) := by decide +kernel
theorem d_Tr_leadsFrom_16 : decode b_Tr_leadsFrom 16 = .ok (.ireturn, 1) := by decide +kernel
theorem d_Tr_withEffect_0 : decode b_Tr_withEffect 0 = .ok (.iload_n 1, 1) := by decide +kernel
theorem d_Tr_withEffect_1 : decode b_Tr_withEffect 1 = .ok (.aload_n 0, 1) := by decide +kernel
theorem d_Tr_withEffect_2 : decode b_Tr_withEffect 2 = .ok (.getfield 28, 3) := by decide +kernel
theorem d_Tr_withEffect_5 : decode b_Tr_withEffect 5 = .ok (.invokestatic 44, 3) := by decide +kernel
theorem d_Tr_withEffect_8 : decode b_Tr_withEffect 8 = .ok (.istore_n 2, 1) := by decide +kernel
theorem d_Tr_withEffect_9 : decode b_Tr_withEffect 9 = .ok (.aload_n 0, 1) := by decide +kernel
theorem d_Tr_withEffect_10 : decode b_Tr_withEffect 10 = .ok (.getfield 25, 3) := by decide +kernel
theorem d_Tr_withEffect_13 : decode b_Tr_withEffect 13 = .ok (.tableswitch 105 3 7 #[35, 48, 65, 82, 88], 35) := by decide +kernel
theorem d_Tr_withEffect_48 : decode b_Tr_withEffect 48 = .ok (.iload_n 1, 1) := by decide +kernel
theorem d_Tr_withEffect_49 : decode b_Tr_withEffect 49 = .ok (.aload_n 0, 1) := by decide +kernel
theorem d_Tr_withEffect_50 : decode b_Tr_withEffect 50 = .ok (.getfield 28, 3) := by decide +kernel
theorem d_Tr_withEffect_53 : decode b_Tr_withEffect 53 = .ok (.aload_n 0, 1) := by decide +kernel
theorem d_Tr_withEffect_54 : decode b_Tr_withEffect 54 = .ok (.getfield 31, 3) := by decide +kernel
theorem d_Tr_withEffect_57 : decode b_Tr_withEffect 57 = .ok (.invokestatic 58, 3) := by decide +kernel
theorem d_Tr_withEffect_60 : decode b_Tr_withEffect 60 = .ok (.ireturn, 1) := by decide +kernel
theorem d_Tr_withEffect_61 : decode b_Tr_withEffect 61 = .ok (.iload_n 1, 1) := by decide +kernel
theorem d_Tr_withEffect_62 : decode b_Tr_withEffect 62 = .ok (.aload_n 0, 1) := by decide +kernel
theorem d_Tr_withEffect_63 : decode b_Tr_withEffect 63 = .ok (.getfield 28, 3) := by decide +kernel
theorem d_Tr_withEffect_66 : decode b_Tr_withEffect 66 = .ok (.iload_n 2, 1) := by decide +kernel
theorem d_Tr_withEffect_67 : decode b_Tr_withEffect 67 = .ok (.aload_n 0, 1) := by decide +kernel
theorem d_Tr_withEffect_68 : decode b_Tr_withEffect 68 = .ok (.getfield 31, 3) := by decide +kernel
theorem d_Tr_withEffect_71 : decode b_Tr_withEffect 71 = .ok (.iadd, 1) := by decide +kernel
theorem d_Tr_withEffect_72 : decode b_Tr_withEffect 72 = .ok (.iconst 4, 1) := by decide +kernel
theorem d_Tr_withEffect_73 : decode b_Tr_withEffect 73 = .ok (.irem, 1) := by decide +kernel
theorem d_Tr_withEffect_74 : decode b_Tr_withEffect 74 = .ok (.invokestatic 58, 3) := by decide +kernel
theorem d_Tr_withEffect_77 : decode b_Tr_withEffect 77 = .ok (.ireturn, 1) := by decide +kernel
theorem d_Tr_withEffect_78 : decode b_Tr_withEffect 78 = .ok (.iload_n 1, 1) := by decide +kernel
theorem d_Tr_withEffect_79 : decode b_Tr_withEffect 79 = .ok (.aload_n 0, 1) := by decide +kernel
theorem d_Tr_withEffect_80 : decode b_Tr_withEffect 80 = .ok (.getfield 28, 3) := by decide +kernel
theorem d_Tr_withEffect_83 : decode b_Tr_withEffect 83 = .ok (.iload_n 1, 1) := by decide +kernel
theorem d_Tr_withEffect_84 : decode b_Tr_withEffect 84 = .ok (.aload_n 0, 1) := by decide +kernel
theorem d_Tr_withEffect_85 : decode b_Tr_withEffect 85 = .ok (.getfield 31, 3) := by decide +kernel
theorem d_Tr_withEffect_88 : decode b_Tr_withEffect 88 = .ok (.invokestatic 44, 3) := by decide +kernel
theorem d_Tr_withEffect_91 : decode b_Tr_withEffect 91 = .ok (.invokestatic 58, 3) := by decide +kernel
theorem d_Tr_withEffect_94 : decode b_Tr_withEffect 94 = .ok (.ireturn, 1) := by decide +kernel
theorem d_Tr_withEffect_95 : decode b_Tr_withEffect 95 = .ok (.iload_n 1, 1) := by decide +kernel
theorem d_Tr_withEffect_96 : decode b_Tr_withEffect 96 = .ok (.iload_n 2, 1) := by decide +kernel
theorem d_Tr_withEffect_97 : decode b_Tr_withEffect 97 = .ok (.invokestatic 61, 3) := by decide +kernel
theorem d_Tr_withEffect_100 : decode b_Tr_withEffect 100 = .ok (.ireturn, 1) := by decide +kernel
theorem d_Tr_withEffect_101 : decode b_Tr_withEffect 101 = .ok (.iload_n 1, 1) := by decide +kernel
theorem d_Tr_withEffect_102 : decode b_Tr_withEffect 102 = .ok (.invokestatic 64, 3) := by decide +kernel
theorem d_Tr_withEffect_105 : decode b_Tr_withEffect 105 = .ok (.aload_n 0, 1) := by decide +kernel
theorem d_Tr_withEffect_106 : decode b_Tr_withEffect 106 = .ok (.getfield 28, 3) := by decide +kernel
theorem d_Tr_withEffect_109 : decode b_Tr_withEffect 109 = .ok (.iload_n 1, 1) := by decide +kernel
theorem d_Tr_withEffect_110 : decode b_Tr_withEffect 110 = .ok (.iconst 0, 1) := by decide +kernel
theorem d_Tr_withEffect_111 : decode b_Tr_withEffect 111 = .ok (.invokestatic 67, 3) := by decide +kernel
theorem d_Tr_withEffect_114 : decode b_Tr_withEffect 114 = .ok (.invokestatic 58, 3) := by decide +kernel
theorem d_Tr_withEffect_117 : decode b_Tr_withEffect 117 = .ok (.ireturn, 1) := by decide +kernel
theorem d_Tr_withEffect_118 : decode b_Tr_withEffect 118 = .ok (.iload_n 1, 1) := by decide +kernel
theorem d_Tr_withEffect_119 : decode b_Tr_withEffect 119 = .ok (.ireturn, 1) := by decide +kernel
