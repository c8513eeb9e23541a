theorem d_Av_init_0 : decode b_Av_init 0 = .ok (.aload_n 0, 1) := by decide +kernel
theorem d_Av_init_1 : decode b_Av_init 1 = .ok (.invokespecial 3, 3) := by decide +kernel
theorem d_Av_init_4 : decode b_Av_init 4 = .ok (.aload_n 0, 1) := by decide +kernel
theorem d_Av_init_5 : decode b_Av_init 5 = .ok (.sipush 300, 3) := by decide +kernel
theorem d_Av_init_8 : decode b_Av_init 8 = .ok (.newarray .boolean, 2) := by decide +kernel
theorem d_Av_init_10 : decode b_Av_init 10 = .ok (.putfield 9, 3) := by decide +kernel
theorem d_Av_init_13 : decode b_Av_init 13 = .ok (.aload_n 0, 1) := by decide +kernel
theorem d_Av_init_14 : decode b_Av_init 14 = .ok (.sipush 300, 3) := by decide +kernel
theorem d_Av_init_17 : decode b_Av_init 17 = .ok (.newarray .int, 2) := by decide +kernel
theorem d_Av_init_19 : decode b_Av_init 19 = .ok (.putfield 15, 3) := by decide +kernel
theorem d_Av_init_22 : decode b_Av_init 22 = .ok (.aload_n 0, 1) := by decide +kernel
theorem d_Av_init_23 : decode b_Av_init 23 = .ok (.sipush 300, 3) := by decide +kernel
theorem d_Av_init_26 : decode b_Av_init 26 = .ok (.newarray .int, 2) := by decide +kernel
theorem d_Av_init_28 : decode b_Av_init 28 = .ok (.putfield 19, 3) := by decide +kernel
theorem d_Av_init_31 : decode b_Av_init 31 = .ok (.return_, 1) := by decide +kernel
theorem d_Av_find_0 : decode b_Av_find 0 = .ok (.aload_n 0, 1) := by decide +kernel
theorem d_Av_find_1 : decode b_Av_find 1 = .ok (.iconst 0, 1) := by decide +kernel
theorem d_Av_find_2 : decode b_Av_find 2 = .ok (.putfield 22, 3) := by decide +kernel
theorem d_Av_find_5 : decode b_Av_find 5 = .ok (.iconst 0, 1) := by decide +kernel
theorem d_Av_find_6 : decode b_Av_find 6 = .ok (.istore_n 3, 1) := by decide +kernel
theorem d_Av_find_7 : decode b_Av_find 7 = .ok (.iload_n 3, 1) := by decide +kernel
theorem d_Av_find_8 : decode b_Av_find 8 = .ok (.aload_n 1, 1) := by decide +kernel
theorem d_Av_find_9 : decode b_Av_find 9 = .ok (.invokevirtual 26, 3) := by decide +kernel
theorem d_Av_find_12 : decode b_Av_find 12 = .ok (.if_icmp .ge 44, 3) := by decide +kernel
theorem d_Av_find_15 : decode b_Av_find 15 = .ok (.aload_n 0, 1) := by decide +kernel
theorem d_Av_find_16 : decode b_Av_find 16 = .ok (.getfield 9, 3) := by decide +kernel
theorem d_Av_find_19 : decode b_Av_find 19 = .ok (.iload_n 3, 1) := by decide +kernel
theorem d_Av_find_20 : decode b_Av_find 20 = .ok (.iconst 0, 1) := by decide +kernel
theorem d_Av_find_21 : decode b_Av_find 21 = .ok (.bastore, 1) := by decide +kernel
theorem d_Av_find_22 : decode b_Av_find 22 = .ok (.aload_n 0, 1) := by decide +kernel
theorem d_Av_find_23 : decode b_Av_find 23 = .ok (.getfield 15, 3) := by decide +kernel
theorem d_Av_find_26 : decode b_Av_find 26 = .ok (.iload_n 3, 1) := by decide +kernel
theorem d_Av_find_27 : decode b_Av_find 27 = .ok (.aload_n 1, 1) := by decide +kernel
theorem d_Av_find_28 : decode b_Av_find 28 = .ok (.iload_n 3, 1) := by decide +kernel
theorem d_Av_find_29 : decode b_Av_find 29 = .ok (.invokevirtual 32, 3) := by decide +kernel
theorem d_Av_find_32 : decode b_Av_find 32 = .ok (.iastore, 1) := by decide +kernel
theorem d_Av_find_33 : decode b_Av_find 33 = .ok (.aload_n 2, 1) := by decide +kernel
theorem d_Av_find_34 : decode b_Av_find 34 = .ok (.aload_n 1, 1) := by decide +kernel
theorem d_Av_find_35 : decode b_Av_find 35 = .ok (.iload_n 3, 1) := by decide +kernel
theorem d_Av_find_36 : decode b_Av_find 36 = .ok (.invokevirtual 36, 3) := by decide +kernel
theorem d_Av_find_39 : decode b_Av_find 39 = .ok (.invokevirtual 39, 3) := by decide +kernel
theorem d_Av_find_42 : decode b_Av_find 42 = .ok (.ifCond .eq 8, 3) := by decide +kernel
theorem d_Av_find_45 : decode b_Av_find 45 = .ok (.aload_n 0, 1) := by decide +kernel
theorem d_Av_find_46 : decode b_Av_find 46 = .ok (.iload_n 3, 1) := by decide +kernel
theorem d_Av_find_47 : decode b_Av_find 47 = .ok (.invokevirtual 45, 3) := by decide +kernel
theorem d_Av_find_50 : decode b_Av_find 50 = .ok (.iinc 3 1, 3) := by decide +kernel
theorem d_Av_find_53 : decode b_Av_find 53 = .ok (.goto (-46), 3) := by decide +kernel
theorem d_Av_find_56 : decode b_Av_find 56 = .ok (.iconst 0, 1) := by decide +kernel
theorem d_Av_find_57 : decode b_Av_find 57 = .ok (.istore_n 3, 1) := by decide +kernel
theorem d_Av_find_58 : decode b_Av_find 58 = .ok (.iload_n 3, 1) := by decide +kernel
theorem d_Av_find_59 : decode b_Av_find 59 = .ok (.aload_n 0, 1) := by decide +kernel
theorem d_Av_find_60 : decode b_Av_find 60 = .ok (.getfield 22, 3) := by decide +kernel
theorem d_Av_find_63 : decode b_Av_find 63 = .ok (.if_icmp .ge 27, 3) := by decide +kernel
theorem d_Av_find_66 : decode b_Av_find 66 = .ok (.iload_n 3, 1) := by decide +kernel
theorem d_Av_find_67 : decode b_Av_find 67 = .ok (.sipush 300, 3) := by decide +kernel
theorem d_Av_find_70 : decode b_Av_find 70 = .ok (.if_icmp .ge 20, 3) := by decide +kernel
theorem d_Av_find_73 : decode b_Av_find 73 = .ok (.aload_n 0, 1) := by decide +kernel
theorem d_Av_find_74 : decode b_Av_find 74 = .ok (.aload_n 0, 1) := by decide +kernel
theorem d_Av_find_75 : decode b_Av_find 75 = .ok (.getfield 19, 3) := by decide +kernel
theorem d_Av_find_78 : decode b_Av_find 78 = .ok (.iload_n 3, 1) := by decide +kernel
theorem d_Av_find_79 : decode b_Av_find 79 = .ok (.iaload, 1) := by decide +kernel
theorem d_Av_find_80 : decode b_Av_find 80 = .ok (.aload_n 1, 1) := by decide +kernel
theorem d_Av_find_81 : decode b_Av_find 81 = .ok (.invokevirtual 49, 3) := by decide +kernel
theorem d_Av_find_84 : decode b_Av_find 84 = .ok (.iinc 3 1, 3) := by decide +kernel
theorem d_Av_find_87 : decode b_Av_find 87 = .ok (.goto (-29), 3) := by decide +kernel
theorem d_Av_find_90 : decode b_Av_find 90 = .ok (.return_, 1) := by decide +kernel
theorem d_Av_ruleOut_0 : decode b_Av_ruleOut 0 = .ok (.aload_n 0, 1) := by decide +kernel
theorem d_Av_ruleOut_1 : decode b_Av_ruleOut 1 = .ok (.getfield 9, 3) := by decide +kernel
theorem d_Av_ruleOut_4 : decode b_Av_ruleOut 4 = .ok (.iload_n 1, 1) := by decide +kernel
theorem d_Av_ruleOut_5 : decode b_Av_ruleOut 5 = .ok (.baload, 1) := by decide +kernel
theorem d_Av_ruleOut_6 : decode b_Av_ruleOut 6 = .ok (.ifCond .ne 30, 3) := by decide +kernel
theorem d_Av_ruleOut_9 : decode b_Av_ruleOut 9 = .ok (.aload_n 0, 1) := by decide +kernel
theorem d_Av_ruleOut_10 : decode b_Av_ruleOut 10 = .ok (.getfield 9, 3) := by decide +kernel
theorem d_Av_ruleOut_13 : decode b_Av_ruleOut 13 = .ok (.iload_n 1, 1) := by decide +kernel
theorem d_Av_ruleOut_14 : decode b_Av_ruleOut 14 = .ok (.iconst 1, 1) := by decide +kernel
theorem d_Av_ruleOut_15 : decode b_Av_ruleOut 15 = .ok (.bastore, 1) := by decide +kernel
theorem d_Av_ruleOut_16 : decode b_Av_ruleOut 16 = .ok (.aload_n 0, 1) := by decide +kernel
theorem d_Av_ruleOut_17 : decode b_Av_ruleOut 17 = .ok (.getfield 19, 3) := by decide +kernel
theorem d_Av_ruleOut_20 : decode b_Av_ruleOut 20 = .ok (.aload_n 0, 1) := by decide +kernel
theorem d_Av_ruleOut_21 : decode b_Av_ruleOut 21 = .ok (.getfield 22, 3) := by decide +kernel
theorem d_Av_ruleOut_24 : decode b_Av_ruleOut 24 = .ok (.iload_n 1, 1) := by decide +kernel
theorem d_Av_ruleOut_25 : decode b_Av_ruleOut 25 = .ok (.iastore, 1) := by decide +kernel
theorem d_Av_ruleOut_26 : decode b_Av_ruleOut 26 = .ok (.aload_n 0, 1) := by decide +kernel
theorem d_Av_ruleOut_27 : decode b_Av_ruleOut 27 = .ok (.dup, 1) := by decide +kernel
theorem d_Av_ruleOut_28 : decode b_Av_ruleOut 28 = .ok (.getfield 22, 3) := by decide +kernel
theorem d_Av_ruleOut_31 : decode b_Av_ruleOut 31 = .ok (.iconst 1, 1) := by decide +kernel
theorem d_Av_ruleOut_32 : decode b_Av_ruleOut 32 = .ok (.iadd, 1) := by decide +kernel
theorem d_Av_ruleOut_33 : decode b_Av_ruleOut 33 = .ok (.putfield 22, 3) := by decide +kernel
theorem d_Av_ruleOut_36 : decode b_Av_ruleOut 36 = .ok (.return_, 1) := by decide +kernel
theorem d_Av_closeWaysInto_0 : decode b_Av_closeWaysInto 0 = .ok (.aload_n 2, 1) := by decide +kernel
theorem d_Av_closeWaysInto_1 : decode b_Av_closeWaysInto 1 = .ok (.iload_n 1, 1) := by decide +kernel
theorem d_Av_closeWaysInto_2 : decode b_Av_closeWaysInto 2 = .ok (.invokevirtual 53, 3) := by decide +kernel
theorem d_Av_closeWaysInto_5 : decode b_Av_closeWaysInto 5 = .ok (.istore_n 3, 1) := by decide +kernel
theorem d_Av_closeWaysInto_6 : decode b_Av_closeWaysInto 6 = .ok (.iconst 0, 1) := by decide +kernel
theorem d_Av_closeWaysInto_7 : decode b_Av_closeWaysInto 7 = .ok (.istore 4, 2) := by decide +kernel
theorem d_Av_closeWaysInto_9 : decode b_Av_closeWaysInto 9 = .ok (.iload 4, 2) := by decide +kernel
theorem d_Av_closeWaysInto_11 : decode b_Av_closeWaysInto 11 = .ok (.sipush 7200, 3) := by decide +kernel
theorem d_Av_closeWaysInto_14 : decode b_Av_closeWaysInto 14 = .ok (.if_icmp .ge 54, 3) := by decide +kernel
theorem d_Av_closeWaysInto_17 : decode b_Av_closeWaysInto 17 = .ok (.iload_n 3, 1) := by decide +kernel
theorem d_Av_closeWaysInto_18 : decode b_Av_closeWaysInto 18 = .ok (.bipush (-2), 2) := by decide +kernel
theorem d_Av_closeWaysInto_20 : decode b_Av_closeWaysInto 20 = .ok (.if_icmp .eq 48, 3) := by decide +kernel
theorem d_Av_closeWaysInto_23 : decode b_Av_closeWaysInto 23 = .ok (.iload_n 3, 1) := by decide +kernel
theorem d_Av_closeWaysInto_24 : decode b_Av_closeWaysInto 24 = .ok (.bipush 24, 2) := by decide +kernel
theorem d_Av_closeWaysInto_26 : decode b_Av_closeWaysInto 26 = .ok (.idiv, 1) := by decide +kernel
theorem d_Av_closeWaysInto_27 : decode b_Av_closeWaysInto 27 = .ok (.istore 5, 2) := by decide +kernel
theorem d_Av_closeWaysInto_29 : decode b_Av_closeWaysInto 29 = .ok (.aload_n 0, 1) := by decide +kernel
theorem d_Av_closeWaysInto_30 : decode b_Av_closeWaysInto 30 = .ok (.getfield 15, 3) := by decide +kernel
theorem d_Av_closeWaysInto_33 : decode b_Av_closeWaysInto 33 = .ok (.iload 5, 2) := by decide +kernel
theorem d_Av_closeWaysInto_35 : decode b_Av_closeWaysInto 35 = .ok (.dup2, 1) := by decide +kernel
theorem d_Av_closeWaysInto_36 : decode b_Av_closeWaysInto 36 = .ok (.iaload, 1) := by decide +kernel
theorem d_Av_closeWaysInto_37 : decode b_Av_closeWaysInto 37 = .ok (.iconst 1, 1) := by decide +kernel
theorem d_Av_closeWaysInto_38 : decode b_Av_closeWaysInto 38 = .ok (.isub, 1) := by decide +kernel
theorem d_Av_closeWaysInto_39 : decode b_Av_closeWaysInto 39 = .ok (.iastore, 1) := by decide +kernel
theorem d_Av_closeWaysInto_40 : decode b_Av_closeWaysInto 40 = .ok (.aload_n 0, 1) := by decide +kernel
theorem d_Av_closeWaysInto_41 : decode b_Av_closeWaysInto 41 = .ok (.getfield 15, 3) := by decide +kernel
theorem d_Av_closeWaysInto_44 : decode b_Av_closeWaysInto 44 = .ok (.iload 5, 2) := by decide +kernel
theorem d_Av_closeWaysInto_46 : decode b_Av_closeWaysInto 46 = .ok (.iaload, 1) := by decide +kernel
theorem d_Av_closeWaysInto_47 : decode b_Av_closeWaysInto 47 = .ok (.ifCond .ne 9, 3) := by decide +kernel
theorem d_Av_closeWaysInto_50 : decode b_Av_closeWaysInto 50 = .ok (.aload_n 0, 1) := by decide +kernel
theorem d_Av_closeWaysInto_51 : decode b_Av_closeWaysInto 51 = .ok (.iload 5, 2) := by decide +kernel
theorem d_Av_closeWaysInto_53 : decode b_Av_closeWaysInto 53 = .ok (.invokevirtual 45, 3) := by decide +kernel
theorem d_Av_closeWaysInto_56 : decode b_Av_closeWaysInto 56 = .ok (.aload_n 2, 1) := by decide +kernel
theorem d_Av_closeWaysInto_57 : decode b_Av_closeWaysInto 57 = .ok (.iload_n 3, 1) := by decide +kernel
theorem d_Av_closeWaysInto_58 : decode b_Av_closeWaysInto 58 = .ok (.invokevirtual 56, 3) := by decide +kernel
theorem d_Av_closeWaysInto_61 : decode b_Av_closeWaysInto 61 = .ok (.istore_n 3, 1) := by decide +kernel
theorem d_Av_closeWaysInto_62 : decode b_Av_closeWaysInto 62 = .ok (.iinc 4 1, 3) := by decide +kernel
theorem d_Av_closeWaysInto_65 : decode b_Av_closeWaysInto 65 = .ok (.goto (-56), 3) := by decide +kernel
theorem d_Av_closeWaysInto_68 : decode b_Av_closeWaysInto 68 = .ok (.return_, 1) := by decide +kernel
theorem d_Av_least_0 : decode b_Av_least 0 = .ok (.iconst 0, 1) := by decide +kernel
theorem d_Av_least_1 : decode b_Av_least 1 = .ok (.istore_n 2, 1) := by decide +kernel
theorem d_Av_least_2 : decode b_Av_least 2 = .ok (.iload_n 2, 1) := by decide +kernel
theorem d_Av_least_3 : decode b_Av_least 3 = .ok (.aload_n 1, 1) := by decide +kernel
theorem d_Av_least_4 : decode b_Av_least 4 = .ok (.invokevirtual 26, 3) := by decide +kernel
theorem d_Av_least_7 : decode b_Av_least 7 = .ok (.if_icmp .ge 20, 3) := by decide +kernel
theorem d_Av_least_10 : decode b_Av_least 10 = .ok (.aload_n 0, 1) := by decide +kernel
theorem d_Av_least_11 : decode b_Av_least 11 = .ok (.getfield 9, 3) := by decide +kernel
theorem d_Av_least_14 : decode b_Av_least 14 = .ok (.iload_n 2, 1) := by decide +kernel
theorem d_Av_least_15 : decode b_Av_least 15 = .ok (.baload, 1) := by decide +kernel
theorem d_Av_least_16 : decode b_Av_least 16 = .ok (.ifCond .ne 5, 3) := by decide +kernel
theorem d_Av_least_19 : decode b_Av_least 19 = .ok (.iload_n 2, 1) := by decide +kernel
theorem d_Av_least_20 : decode b_Av_least 20 = .ok (.ireturn, 1) := by decide +kernel
theorem d_Av_least_21 : decode b_Av_least 21 = .ok (.iinc 2 1, 3) := by decide +kernel
theorem d_Av_least_24 : decode b_Av_least 24 = .ok (.goto (-22), 3) := by decide +kernel
theorem d_Av_least_27 : decode b_Av_least 27 = .ok (.bipush (-2), 2) := by decide +kernel
theorem d_Av_least_29 : decode b_Av_least 29 = .ok (.ireturn, 1) := by decide +kernel
theorem d_Av_howMany_0 : decode b_Av_howMany 0 = .ok (.iconst 0, 1) := by decide +kernel
theorem d_Av_howMany_1 : decode b_Av_howMany 1 = .ok (.istore_n 2, 1) := by decide +kernel
theorem d_Av_howMany_2 : decode b_Av_howMany 2 = .ok (.iconst 0, 1) := by decide +kernel
theorem d_Av_howMany_3 : decode b_Av_howMany 3 = .ok (.istore_n 3, 1) := by decide +kernel
theorem d_Av_howMany_4 : decode b_Av_howMany 4 = .ok (.iload_n 3, 1) := by decide +kernel
theorem d_Av_howMany_5 : decode b_Av_howMany 5 = .ok (.aload_n 1, 1) := by decide +kernel
theorem d_Av_howMany_6 : decode b_Av_howMany 6 = .ok (.invokevirtual 26, 3) := by decide +kernel
theorem d_Av_howMany_9 : decode b_Av_howMany 9 = .ok (.if_icmp .ge 21, 3) := by decide +kernel
theorem d_Av_howMany_12 : decode b_Av_howMany 12 = .ok (.aload_n 0, 1) := by decide +kernel
theorem d_Av_howMany_13 : decode b_Av_howMany 13 = .ok (.getfield 9, 3) := by decide +kernel
theorem d_Av_howMany_16 : decode b_Av_howMany 16 = .ok (.iload_n 3, 1) := by decide +kernel
theorem d_Av_howMany_17 : decode b_Av_howMany 17 = .ok (.baload, 1) := by decide +kernel
theorem d_Av_howMany_18 : decode b_Av_howMany 18 = .ok (.ifCond .ne 6, 3) := by decide +kernel
theorem d_Av_howMany_21 : decode b_Av_howMany 21 = .ok (.iinc 2 1, 3) := by decide +kernel
theorem d_Av_howMany_24 : decode b_Av_howMany 24 = .ok (.iinc 3 1, 3) := by decide +kernel
theorem d_Av_howMany_27 : decode b_Av_howMany 27 = .ok (.goto (-23), 3) := by decide +kernel
theorem d_Av_howMany_30 : decode b_Av_howMany 30 = .ok (.iload_n 2, 1) := by decide +kernel
theorem d_Av_howMany_31 : decode b_Av_howMany 31 = .ok (.ireturn, 1) := by decide +kernel
theorem d_Sp_init_0 : decode b_Sp_init 0 = .ok (.aload_n 0, 1) := by decide +kernel
theorem d_Sp_init_1 : decode b_Sp_init 1 = .ok (.invokespecial 3, 3) := by decide +kernel
theorem d_Sp_init_4 : decode b_Sp_init 4 = .ok (.aload_n 0, 1) := by decide +kernel
theorem d_Sp_init_5 : decode b_Sp_init 5 = .ok (.sipush 300, 3) := by decide +kernel
theorem d_Sp_init_8 : decode b_Sp_init 8 = .ok (.newarray .int, 2) := by decide +kernel
theorem d_Sp_init_10 : decode b_Sp_init 10 = .ok (.putfield 9, 3) := by decide +kernel
theorem d_Sp_init_13 : decode b_Sp_init 13 = .ok (.aload_n 0, 1) := by decide +kernel
theorem d_Sp_init_14 : decode b_Sp_init 14 = .ok (.sipush 300, 3) := by decide +kernel
theorem d_Sp_init_17 : decode b_Sp_init 17 = .ok (.newarray .int, 2) := by decide +kernel
theorem d_Sp_init_19 : decode b_Sp_init 19 = .ok (.putfield 15, 3) := by decide +kernel
theorem d_Sp_init_22 : decode b_Sp_init 22 = .ok (.aload_n 0, 1) := by decide +kernel
theorem d_Sp_init_23 : decode b_Sp_init 23 = .ok (.sipush 300, 3) := by decide +kernel
theorem d_Sp_init_26 : decode b_Sp_init 26 = .ok (.newarray .int, 2) := by decide +kernel
theorem d_Sp_init_28 : decode b_Sp_init 28 = .ok (.putfield 18, 3) := by decide +kernel
theorem d_Sp_init_31 : decode b_Sp_init 31 = .ok (.aload_n 0, 1) := by decide +kernel
theorem d_Sp_init_32 : decode b_Sp_init 32 = .ok (.sipush 300, 3) := by decide +kernel
theorem d_Sp_init_35 : decode b_Sp_init 35 = .ok (.newarray .int, 2) := by decide +kernel
theorem d_Sp_init_37 : decode b_Sp_init 37 = .ok (.putfield 21, 3) := by decide +kernel
theorem d_Sp_init_40 : decode b_Sp_init 40 = .ok (.aload_n 0, 1) := by decide +kernel
theorem d_Sp_init_41 : decode b_Sp_init 41 = .ok (.sipush 300, 3) := by decide +kernel
theorem d_Sp_init_44 : decode b_Sp_init 44 = .ok (.newarray .int, 2) := by decide +kernel
theorem d_Sp_init_46 : decode b_Sp_init 46 = .ok (.putfield 24, 3) := by decide +kernel
theorem d_Sp_init_49 : decode b_Sp_init 49 = .ok (.aload_n 0, 1) := by decide +kernel
theorem d_Sp_init_50 : decode b_Sp_init 50 = .ok (.sipush 7200, 3) := by decide +kernel
theorem d_Sp_init_53 : decode b_Sp_init 53 = .ok (.newarray .int, 2) := by decide +kernel
theorem d_Sp_init_55 : decode b_Sp_init 55 = .ok (.putfield 27, 3) := by decide +kernel
theorem d_Sp_init_58 : decode b_Sp_init 58 = .ok (.aload_n 0, 1) := by decide +kernel
theorem d_Sp_init_59 : decode b_Sp_init 59 = .ok (.sipush 300, 3) := by decide +kernel
theorem d_Sp_init_62 : decode b_Sp_init 62 = .ok (.newarray .int, 2) := by decide +kernel
theorem d_Sp_init_64 : decode b_Sp_init 64 = .ok (.putfield 30, 3) := by decide +kernel
theorem d_Sp_init_67 : decode b_Sp_init 67 = .ok (.aload_n 0, 1) := by decide +kernel
theorem d_Sp_init_68 : decode b_Sp_init 68 = .ok (.sipush 7200, 3) := by decide +kernel
theorem d_Sp_init_71 : decode b_Sp_init 71 = .ok (.newarray .int, 2) := by decide +kernel
theorem d_Sp_init_73 : decode b_Sp_init 73 = .ok (.putfield 33, 3) := by decide +kernel
theorem d_Sp_init_76 : decode b_Sp_init 76 = .ok (.aload_n 0, 1) := by decide +kernel
theorem d_Sp_init_77 : decode b_Sp_init 77 = .ok (.sipush 1024, 3) := by decide +kernel
theorem d_Sp_init_80 : decode b_Sp_init 80 = .ok (.newarray .int, 2) := by decide +kernel
theorem d_Sp_init_82 : decode b_Sp_init 82 = .ok (.putfield 36, 3) := by decide +kernel
theorem d_Sp_init_85 : decode b_Sp_init 85 = .ok (.return_, 1) := by decide +kernel
theorem d_Sp_forget_0 : decode b_Sp_forget 0 = .ok (.aload_n 0, 1) := by decide +kernel
theorem d_Sp_forget_1 : decode b_Sp_forget 1 = .ok (.iconst 0, 1) := by decide +kernel
theorem d_Sp_forget_2 : decode b_Sp_forget 2 = .ok (.putfield 39, 3) := by decide +kernel
theorem d_Sp_forget_5 : decode b_Sp_forget 5 = .ok (.return_, 1) := by decide +kernel
theorem d_Sp_isThere_0 : decode b_Sp_isThere 0 = .ok (.aload_n 0, 1) := by decide +kernel
theorem d_Sp_isThere_1 : decode b_Sp_isThere 1 = .ok (.getfield 39, 3) := by decide +kernel
theorem d_Sp_isThere_4 : decode b_Sp_isThere 4 = .ok (.ifCond .le 7, 3) := by decide +kernel
theorem d_Sp_isThere_7 : decode b_Sp_isThere 7 = .ok (.iconst 1, 1) := by decide +kernel
theorem d_Sp_isThere_8 : decode b_Sp_isThere 8 = .ok (.goto 4, 3) := by decide +kernel
theorem d_Sp_isThere_11 : decode b_Sp_isThere 11 = .ok (.iconst 0, 1) := by decide +kernel
theorem d_Sp_isThere_12 : decode b_Sp_isThere 12 = .ok (.ireturn, 1) := by decide +kernel
theorem d_Sp_has_0 : decode b_Sp_has 0 = .ok (.iload_n 1, 1) := by decide +kernel
theorem d_Sp_has_1 : decode b_Sp_has 1 = .ok (.aload_n 0, 1) := by decide +kernel
theorem d_Sp_has_2 : decode b_Sp_has 2 = .ok (.getfield 39, 3) := by decide +kernel
theorem d_Sp_has_5 : decode b_Sp_has 5 = .ok (.invokestatic 43, 3) := by decide +kernel
theorem d_Sp_has_8 : decode b_Sp_has 8 = .ok (.ireturn, 1) := by decide +kernel
theorem d_Sp_size_0 : decode b_Sp_size 0 = .ok (.aload_n 0, 1) := by decide +kernel
theorem d_Sp_size_1 : decode b_Sp_size 1 = .ok (.getfield 39, 3) := by decide +kernel
theorem d_Sp_size_4 : decode b_Sp_size 4 = .ok (.ireturn, 1) := by decide +kernel
theorem d_Sp_packed_0 : decode b_Sp_packed 0 = .ok (.aload_n 0, 1) := by decide +kernel
theorem d_Sp_packed_1 : decode b_Sp_packed 1 = .ok (.getfield 9, 3) := by decide +kernel
theorem d_Sp_packed_4 : decode b_Sp_packed 4 = .ok (.iload_n 1, 1) := by decide +kernel
theorem d_Sp_packed_5 : decode b_Sp_packed 5 = .ok (.iaload, 1) := by decide +kernel
theorem d_Sp_packed_6 : decode b_Sp_packed 6 = .ok (.ireturn, 1) := by decide +kernel
theorem d_Sp_openIn_0 : decode b_Sp_openIn 0 = .ok (.aload_n 0, 1) := by decide +kernel
theorem d_Sp_openIn_1 : decode b_Sp_openIn 1 = .ok (.getfield 24, 3) := by decide +kernel
theorem d_Sp_openIn_4 : decode b_Sp_openIn 4 = .ok (.iload_n 1, 1) := by decide +kernel
theorem d_Sp_openIn_5 : decode b_Sp_openIn 5 = .ok (.iaload, 1) := by decide +kernel
theorem d_Sp_openIn_6 : decode b_Sp_openIn 6 = .ok (.ireturn, 1) := by decide +kernel
theorem d_Sp_wayLength_0 : decode b_Sp_wayLength 0 = .ok (.aload_n 0, 1) := by decide +kernel
theorem d_Sp_wayLength_1 : decode b_Sp_wayLength 1 = .ok (.getfield 21, 3) := by decide +kernel
theorem d_Sp_wayLength_4 : decode b_Sp_wayLength 4 = .ok (.iload_n 1, 1) := by decide +kernel
theorem d_Sp_wayLength_5 : decode b_Sp_wayLength 5 = .ok (.iaload, 1) := by decide +kernel
theorem d_Sp_wayLength_6 : decode b_Sp_wayLength 6 = .ok (.ireturn, 1) := by decide +kernel
theorem d_Sp_lastPairInto_0 : decode b_Sp_lastPairInto 0 = .ok (.aload_n 0, 1) := by decide +kernel
theorem d_Sp_lastPairInto_1 : decode b_Sp_lastPairInto 1 = .ok (.getfield 30, 3) := by decide +kernel
theorem d_Sp_lastPairInto_4 : decode b_Sp_lastPairInto 4 = .ok (.iload_n 1, 1) := by decide +kernel
theorem d_Sp_lastPairInto_5 : decode b_Sp_lastPairInto 5 = .ok (.iaload, 1) := by decide +kernel
theorem d_Sp_lastPairInto_6 : decode b_Sp_lastPairInto 6 = .ok (.ireturn, 1) := by decide +kernel
theorem d_Sp_pairBefore_0 : decode b_Sp_pairBefore 0 = .ok (.aload_n 0, 1) := by decide +kernel
theorem d_Sp_pairBefore_1 : decode b_Sp_pairBefore 1 = .ok (.getfield 33, 3) := by decide +kernel
theorem d_Sp_pairBefore_4 : decode b_Sp_pairBefore 4 = .ok (.iload_n 1, 1) := by decide +kernel
theorem d_Sp_pairBefore_5 : decode b_Sp_pairBefore 5 = .ok (.iaload, 1) := by decide +kernel
theorem d_Sp_pairBefore_6 : decode b_Sp_pairBefore 6 = .ok (.ireturn, 1) := by decide +kernel
theorem d_Sp_make_0 : decode b_Sp_make 0 = .ok (.aload_n 0, 1) := by decide +kernel
theorem d_Sp_make_1 : decode b_Sp_make 1 = .ok (.getfield 36, 3) := by decide +kernel
theorem d_Sp_make_4 : decode b_Sp_make 4 = .ok (.iconst 0, 1) := by decide +kernel
theorem d_Sp_make_5 : decode b_Sp_make 5 = .ok (.invokestatic 47, 3) := by decide +kernel
theorem d_Sp_make_8 : decode b_Sp_make 8 = .ok (.aload_n 0, 1) := by decide +kernel
theorem d_Sp_make_9 : decode b_Sp_make 9 = .ok (.iconst 0, 1) := by decide +kernel
theorem d_Sp_make_10 : decode b_Sp_make 10 = .ok (.putfield 39, 3) := by decide +kernel
theorem d_Sp_make_13 : decode b_Sp_make 13 = .ok (.aload_n 0, 1) := by decide +kernel
theorem d_Sp_make_14 : decode b_Sp_make 14 = .ok (.iload_n 1, 1) := by decide +kernel
theorem d_Sp_make_15 : decode b_Sp_make 15 = .ok (.iconst 0, 1) := by decide +kernel
theorem d_Sp_make_16 : decode b_Sp_make 16 = .ok (.bipush (-2), 2) := by decide +kernel
theorem d_Sp_make_18 : decode b_Sp_make 18 = .ok (.iconst 0, 1) := by decide +kernel
theorem d_Sp_make_19 : decode b_Sp_make 19 = .ok (.invokevirtual 53, 3) := by decide +kernel
theorem d_Sp_make_22 : decode b_Sp_make 22 = .ok (.iconst 0, 1) := by decide +kernel
theorem d_Sp_make_23 : decode b_Sp_make 23 = .ok (.istore 4, 2) := by decide +kernel
theorem d_Sp_make_25 : decode b_Sp_make 25 = .ok (.iload 4, 2) := by decide +kernel
theorem d_Sp_make_27 : decode b_Sp_make 27 = .ok (.aload_n 0, 1) := by decide +kernel
theorem d_Sp_make_28 : decode b_Sp_make 28 = .ok (.getfield 39, 3) := by decide +kernel
theorem d_Sp_make_31 : decode b_Sp_make 31 = .ok (.if_icmp .ge 34, 3) := by decide +kernel
theorem d_Sp_make_34 : decode b_Sp_make 34 = .ok (.iload 4, 2) := by decide +kernel
theorem d_Sp_make_36 : decode b_Sp_make 36 = .ok (.sipush 300, 3) := by decide +kernel
theorem d_Sp_make_39 : decode b_Sp_make 39 = .ok (.if_icmp .ge 26, 3) := by decide +kernel
theorem d_Sp_make_42 : decode b_Sp_make 42 = .ok (.aload_n 0, 1) := by decide +kernel
theorem d_Sp_make_43 : decode b_Sp_make 43 = .ok (.iload 4, 2) := by decide +kernel
theorem d_Sp_make_45 : decode b_Sp_make 45 = .ok (.aload_n 2, 1) := by decide +kernel
theorem d_Sp_make_46 : decode b_Sp_make 46 = .ok (.iload_n 3, 1) := by decide +kernel
theorem d_Sp_make_47 : decode b_Sp_make 47 = .ok (.invokevirtual 57, 3) := by decide +kernel
theorem d_Sp_make_50 : decode b_Sp_make 50 = .ok (.ifCond .ne 9, 3) := by decide +kernel
theorem d_Sp_make_53 : decode b_Sp_make 53 = .ok (.aload_n 0, 1) := by decide +kernel
theorem d_Sp_make_54 : decode b_Sp_make 54 = .ok (.invokevirtual 61, 3) := by decide +kernel
theorem d_Sp_make_57 : decode b_Sp_make 57 = .ok (.iconst 0, 1) := by decide +kernel
theorem d_Sp_make_58 : decode b_Sp_make 58 = .ok (.ireturn, 1) := by decide +kernel
theorem d_Sp_make_59 : decode b_Sp_make 59 = .ok (.iinc 4 1, 3) := by decide +kernel
theorem d_Sp_make_62 : decode b_Sp_make 62 = .ok (.goto (-37), 3) := by decide +kernel
theorem d_Sp_make_65 : decode b_Sp_make 65 = .ok (.iconst 1, 1) := by decide +kernel
theorem d_Sp_make_66 : decode b_Sp_make 66 = .ok (.ireturn, 1) := by decide +kernel
theorem d_Sp_goOnFrom_0 : decode b_Sp_goOnFrom 0 = .ok (.iconst 0, 1) := by decide +kernel
theorem d_Sp_goOnFrom_1 : decode b_Sp_goOnFrom 1 = .ok (.istore 4, 2) := by decide +kernel
theorem d_Sp_goOnFrom_3 : decode b_Sp_goOnFrom 3 = .ok (.iload 4, 2) := by decide +kernel
theorem d_Sp_goOnFrom_5 : decode b_Sp_goOnFrom 5 = .ok (.bipush 24, 2) := by decide +kernel
theorem d_Sp_goOnFrom_7 : decode b_Sp_goOnFrom 7 = .ok (.if_icmp .ge 85, 3) := by decide +kernel
theorem d_Sp_goOnFrom_10 : decode b_Sp_goOnFrom 10 = .ok (.aload_n 0, 1) := by decide +kernel
theorem d_Sp_goOnFrom_11 : decode b_Sp_goOnFrom 11 = .ok (.getfield 27, 3) := by decide +kernel
theorem d_Sp_goOnFrom_14 : decode b_Sp_goOnFrom 14 = .ok (.iload_n 1, 1) := by decide +kernel
theorem d_Sp_goOnFrom_15 : decode b_Sp_goOnFrom 15 = .ok (.bipush 24, 2) := by decide +kernel
theorem d_Sp_goOnFrom_17 : decode b_Sp_goOnFrom 17 = .ok (.imul, 1) := by decide +kernel
theorem d_Sp_goOnFrom_18 : decode b_Sp_goOnFrom 18 = .ok (.iload 4, 2) := by decide +kernel
theorem d_Sp_goOnFrom_20 : decode b_Sp_goOnFrom 20 = .ok (.iadd, 1) := by decide +kernel
theorem d_Sp_goOnFrom_21 : decode b_Sp_goOnFrom 21 = .ok (.bipush (-2), 2) := by decide +kernel
theorem d_Sp_goOnFrom_23 : decode b_Sp_goOnFrom 23 = .ok (.iastore, 1) := by decide +kernel
theorem d_Sp_goOnFrom_24 : decode b_Sp_goOnFrom 24 = .ok (.iload 4, 2) := by decide +kernel
theorem d_Sp_goOnFrom_26 : decode b_Sp_goOnFrom 26 = .ok (.iload_n 3, 1) := by decide +kernel
theorem d_Sp_goOnFrom_27 : decode b_Sp_goOnFrom 27 = .ok (.if_icmp .ge 59, 3) := by decide +kernel
theorem d_Sp_goOnFrom_30 : decode b_Sp_goOnFrom 30 = .ok (.aload_n 2, 1) := by decide +kernel
theorem d_Sp_goOnFrom_31 : decode b_Sp_goOnFrom 31 = .ok (.iload 4, 2) := by decide +kernel
theorem d_Sp_goOnFrom_33 : decode b_Sp_goOnFrom 33 = .ok (.aaload, 1) := by decide +kernel
theorem d_Sp_goOnFrom_34 : decode b_Sp_goOnFrom 34 = .ok (.aload_n 0, 1) := by decide +kernel
theorem d_Sp_goOnFrom_35 : decode b_Sp_goOnFrom 35 = .ok (.getfield 9, 3) := by decide +kernel
theorem d_Sp_goOnFrom_38 : decode b_Sp_goOnFrom 38 = .ok (.iload_n 1, 1) := by decide +kernel
theorem d_Sp_goOnFrom_39 : decode b_Sp_goOnFrom 39 = .ok (.iaload, 1) := by decide +kernel
theorem d_Sp_goOnFrom_40 : decode b_Sp_goOnFrom 40 = .ok (.invokevirtual 64, 3) := by decide +kernel
theorem d_Sp_goOnFrom_43 : decode b_Sp_goOnFrom 43 = .ok (.ifCond .eq 43, 3) := by decide +kernel
theorem d_Sp_goOnFrom_46 : decode b_Sp_goOnFrom 46 = .ok (.aload_n 0, 1) := by decide +kernel
theorem d_Sp_goOnFrom_47 : decode b_Sp_goOnFrom 47 = .ok (.aload_n 2, 1) := by decide +kernel
theorem d_Sp_goOnFrom_48 : decode b_Sp_goOnFrom 48 = .ok (.iload 4, 2) := by decide +kernel
theorem d_Sp_goOnFrom_50 : decode b_Sp_goOnFrom 50 = .ok (.aaload, 1) := by decide +kernel
theorem d_Sp_goOnFrom_51 : decode b_Sp_goOnFrom 51 = .ok (.aload_n 0, 1) := by decide +kernel
theorem d_Sp_goOnFrom_52 : decode b_Sp_goOnFrom 52 = .ok (.getfield 9, 3) := by decide +kernel
theorem d_Sp_goOnFrom_55 : decode b_Sp_goOnFrom 55 = .ok (.iload_n 1, 1) := by decide +kernel
theorem d_Sp_goOnFrom_56 : decode b_Sp_goOnFrom 56 = .ok (.iaload, 1) := by decide +kernel
theorem d_Sp_goOnFrom_57 : decode b_Sp_goOnFrom 57 = .ok (.invokevirtual 70, 3) := by decide +kernel
theorem d_Sp_goOnFrom_60 : decode b_Sp_goOnFrom 60 = .ok (.iload_n 1, 1) := by decide +kernel
theorem d_Sp_goOnFrom_61 : decode b_Sp_goOnFrom 61 = .ok (.iload 4, 2) := by decide +kernel
theorem d_Sp_goOnFrom_63 : decode b_Sp_goOnFrom 63 = .ok (.invokevirtual 74, 3) := by decide +kernel
theorem d_Sp_goOnFrom_66 : decode b_Sp_goOnFrom 66 = .ok (.istore 5, 2) := by decide +kernel
theorem d_Sp_goOnFrom_68 : decode b_Sp_goOnFrom 68 = .ok (.iload 5, 2) := by decide +kernel
theorem d_Sp_goOnFrom_70 : decode b_Sp_goOnFrom 70 = .ok (.bipush (-2), 2) := by decide +kernel
theorem d_Sp_goOnFrom_72 : decode b_Sp_goOnFrom 72 = .ok (.if_icmp .ne 5, 3) := by decide +kernel
theorem d_Sp_goOnFrom_75 : decode b_Sp_goOnFrom 75 = .ok (.iconst 0, 1) := by decide +kernel
theorem d_Sp_goOnFrom_76 : decode b_Sp_goOnFrom 76 = .ok (.ireturn, 1) := by decide +kernel
theorem d_Sp_goOnFrom_77 : decode b_Sp_goOnFrom 77 = .ok (.aload_n 0, 1) := by decide +kernel
theorem d_Sp_goOnFrom_78 : decode b_Sp_goOnFrom 78 = .ok (.iload_n 1, 1) := by decide +kernel
theorem d_Sp_goOnFrom_79 : decode b_Sp_goOnFrom 79 = .ok (.iload 4, 2) := by decide +kernel
theorem d_Sp_goOnFrom_81 : decode b_Sp_goOnFrom 81 = .ok (.iload 5, 2) := by decide +kernel
theorem d_Sp_goOnFrom_83 : decode b_Sp_goOnFrom 83 = .ok (.invokevirtual 78, 3) := by decide +kernel
theorem d_Sp_goOnFrom_86 : decode b_Sp_goOnFrom 86 = .ok (.iinc 4 1, 3) := by decide +kernel
theorem d_Sp_goOnFrom_89 : decode b_Sp_goOnFrom 89 = .ok (.goto (-86), 3) := by decide +kernel
theorem d_Sp_goOnFrom_92 : decode b_Sp_goOnFrom 92 = .ok (.iconst 1, 1) := by decide +kernel
theorem d_Sp_goOnFrom_93 : decode b_Sp_goOnFrom 93 = .ok (.ireturn, 1) := by decide +kernel
theorem d_Sp_numberFor_0 : decode b_Sp_numberFor 0 = .ok (.aload_n 0, 1) := by decide +kernel
theorem d_Sp_numberFor_1 : decode b_Sp_numberFor 1 = .ok (.iload_n 1, 1) := by decide +kernel
theorem d_Sp_numberFor_2 : decode b_Sp_numberFor 2 = .ok (.invokevirtual 82, 3) := by decide +kernel
theorem d_Sp_numberFor_5 : decode b_Sp_numberFor 5 = .ok (.istore 4, 2) := by decide +kernel
theorem d_Sp_numberFor_7 : decode b_Sp_numberFor 7 = .ok (.iload 4, 2) := by decide +kernel
theorem d_Sp_numberFor_9 : decode b_Sp_numberFor 9 = .ok (.bipush (-2), 2) := by decide +kernel
theorem d_Sp_numberFor_11 : decode b_Sp_numberFor 11 = .ok (.if_icmp .eq 6, 3) := by decide +kernel
theorem d_Sp_numberFor_14 : decode b_Sp_numberFor 14 = .ok (.iload 4, 2) := by decide +kernel
theorem d_Sp_numberFor_16 : decode b_Sp_numberFor 16 = .ok (.ireturn, 1) := by decide +kernel
theorem d_Sp_numberFor_17 : decode b_Sp_numberFor 17 = .ok (.aload_n 0, 1) := by decide +kernel
theorem d_Sp_numberFor_18 : decode b_Sp_numberFor 18 = .ok (.getfield 39, 3) := by decide +kernel
theorem d_Sp_numberFor_21 : decode b_Sp_numberFor 21 = .ok (.sipush 300, 3) := by decide +kernel
theorem d_Sp_numberFor_24 : decode b_Sp_numberFor 24 = .ok (.if_icmp .ne 6, 3) := by decide +kernel
theorem d_Sp_numberFor_27 : decode b_Sp_numberFor 27 = .ok (.bipush (-2), 2) := by decide +kernel
theorem d_Sp_numberFor_29 : decode b_Sp_numberFor 29 = .ok (.ireturn, 1) := by decide +kernel
theorem d_Sp_numberFor_30 : decode b_Sp_numberFor 30 = .ok (.aload_n 0, 1) := by decide +kernel
theorem d_Sp_numberFor_31 : decode b_Sp_numberFor 31 = .ok (.iload_n 1, 1) := by decide +kernel
theorem d_Sp_numberFor_32 : decode b_Sp_numberFor 32 = .ok (.iload_n 2, 1) := by decide +kernel
theorem d_Sp_numberFor_33 : decode b_Sp_numberFor 33 = .ok (.iload_n 3, 1) := by decide +kernel
theorem d_Sp_numberFor_34 : decode b_Sp_numberFor 34 = .ok (.aload_n 0, 1) := by decide +kernel
theorem d_Sp_numberFor_35 : decode b_Sp_numberFor 35 = .ok (.getfield 21, 3) := by decide +kernel
theorem d_Sp_numberFor_38 : decode b_Sp_numberFor 38 = .ok (.iload_n 2, 1) := by decide +kernel
theorem d_Sp_numberFor_39 : decode b_Sp_numberFor 39 = .ok (.iaload, 1) := by decide +kernel
theorem d_Sp_numberFor_40 : decode b_Sp_numberFor 40 = .ok (.iconst 1, 1) := by decide +kernel
theorem d_Sp_numberFor_41 : decode b_Sp_numberFor 41 = .ok (.iadd, 1) := by decide +kernel
theorem d_Sp_numberFor_42 : decode b_Sp_numberFor 42 = .ok (.invokevirtual 53, 3) := by decide +kernel
theorem d_Sp_numberFor_45 : decode b_Sp_numberFor 45 = .ok (.aload_n 0, 1) := by decide +kernel
theorem d_Sp_numberFor_46 : decode b_Sp_numberFor 46 = .ok (.getfield 39, 3) := by decide +kernel
theorem d_Sp_numberFor_49 : decode b_Sp_numberFor 49 = .ok (.iconst 1, 1) := by decide +kernel
theorem d_Sp_numberFor_50 : decode b_Sp_numberFor 50 = .ok (.isub, 1) := by decide +kernel
theorem d_Sp_numberFor_51 : decode b_Sp_numberFor 51 = .ok (.ireturn, 1) := by decide +kernel
theorem d_Sp_append_0 : decode b_Sp_append 0 = .ok (.aload_n 0, 1) := by decide +kernel
theorem d_Sp_append_1 : decode b_Sp_append 1 = .ok (.getfield 9, 3) := by decide +kernel
theorem d_Sp_append_4 : decode b_Sp_append 4 = .ok (.aload_n 0, 1) := by decide +kernel
theorem d_Sp_append_5 : decode b_Sp_append 5 = .ok (.getfield 39, 3) := by decide +kernel
theorem d_Sp_append_8 : decode b_Sp_append 8 = .ok (.iload_n 1, 1) := by decide +kernel
theorem d_Sp_append_9 : decode b_Sp_append 9 = .ok (.iastore, 1) := by decide +kernel
theorem d_Sp_append_10 : decode b_Sp_append 10 = .ok (.aload_n 0, 1) := by decide +kernel
theorem d_Sp_append_11 : decode b_Sp_append 11 = .ok (.getfield 15, 3) := by decide +kernel
theorem d_Sp_append_14 : decode b_Sp_append 14 = .ok (.aload_n 0, 1) := by decide +kernel
theorem d_Sp_append_15 : decode b_Sp_append 15 = .ok (.getfield 39, 3) := by decide +kernel
theorem d_Sp_append_18 : decode b_Sp_append 18 = .ok (.iload_n 2, 1) := by decide +kernel
theorem d_Sp_append_19 : decode b_Sp_append 19 = .ok (.iastore, 1) := by decide +kernel
theorem d_Sp_append_20 : decode b_Sp_append 20 = .ok (.aload_n 0, 1) := by decide +kernel
theorem d_Sp_append_21 : decode b_Sp_append 21 = .ok (.getfield 18, 3) := by decide +kernel
theorem d_Sp_append_24 : decode b_Sp_append 24 = .ok (.aload_n 0, 1) := by decide +kernel
theorem d_Sp_append_25 : decode b_Sp_append 25 = .ok (.getfield 39, 3) := by decide +kernel
theorem d_Sp_append_28 : decode b_Sp_append 28 = .ok (.iload_n 3, 1) := by decide +kernel
theorem d_Sp_append_29 : decode b_Sp_append 29 = .ok (.iastore, 1) := by decide +kernel
theorem d_Sp_append_30 : decode b_Sp_append 30 = .ok (.aload_n 0, 1) := by decide +kernel
theorem d_Sp_append_31 : decode b_Sp_append 31 = .ok (.getfield 21, 3) := by decide +kernel
theorem d_Sp_append_34 : decode b_Sp_append 34 = .ok (.aload_n 0, 1) := by decide +kernel
theorem d_Sp_append_35 : decode b_Sp_append 35 = .ok (.getfield 39, 3) := by decide +kernel
theorem d_Sp_append_38 : decode b_Sp_append 38 = .ok (.iload 4, 2) := by decide +kernel
theorem d_Sp_append_40 : decode b_Sp_append 40 = .ok (.iastore, 1) := by decide +kernel
theorem d_Sp_append_41 : decode b_Sp_append 41 = .ok (.aload_n 0, 1) := by decide +kernel
theorem d_Sp_append_42 : decode b_Sp_append 42 = .ok (.getfield 24, 3) := by decide +kernel
theorem d_Sp_append_45 : decode b_Sp_append 45 = .ok (.aload_n 0, 1) := by decide +kernel
theorem d_Sp_append_46 : decode b_Sp_append 46 = .ok (.getfield 39, 3) := by decide +kernel
theorem d_Sp_append_49 : decode b_Sp_append 49 = .ok (.iconst 0, 1) := by decide +kernel
theorem d_Sp_append_50 : decode b_Sp_append 50 = .ok (.iastore, 1) := by decide +kernel
theorem d_Sp_append_51 : decode b_Sp_append 51 = .ok (.aload_n 0, 1) := by decide +kernel
theorem d_Sp_append_52 : decode b_Sp_append 52 = .ok (.getfield 30, 3) := by decide +kernel
theorem d_Sp_append_55 : decode b_Sp_append 55 = .ok (.aload_n 0, 1) := by decide +kernel
theorem d_Sp_append_56 : decode b_Sp_append 56 = .ok (.getfield 39, 3) := by decide +kernel
theorem d_Sp_append_59 : decode b_Sp_append 59 = .ok (.bipush (-2), 2) := by decide +kernel
theorem d_Sp_append_61 : decode b_Sp_append 61 = .ok (.iastore, 1) := by decide +kernel
theorem d_Sp_append_62 : decode b_Sp_append 62 = .ok (.aload_n 0, 1) := by decide +kernel
theorem d_Sp_append_63 : decode b_Sp_append 63 = .ok (.dup, 1) := by decide +kernel
theorem d_Sp_append_64 : decode b_Sp_append 64 = .ok (.getfield 39, 3) := by decide +kernel
theorem d_Sp_append_67 : decode b_Sp_append 67 = .ok (.iconst 1, 1) := by decide +kernel
theorem d_Sp_append_68 : decode b_Sp_append 68 = .ok (.iadd, 1) := by decide +kernel
theorem d_Sp_append_69 : decode b_Sp_append 69 = .ok (.putfield 39, 3) := by decide +kernel
theorem d_Sp_append_72 : decode b_Sp_append 72 = .ok (.aload_n 0, 1) := by decide +kernel
theorem d_Sp_append_73 : decode b_Sp_append 73 = .ok (.iload_n 1, 1) := by decide +kernel
theorem d_Sp_append_74 : decode b_Sp_append 74 = .ok (.aload_n 0, 1) := by decide +kernel
theorem d_Sp_append_75 : decode b_Sp_append 75 = .ok (.getfield 39, 3) := by decide +kernel
theorem d_Sp_append_78 : decode b_Sp_append 78 = .ok (.invokevirtual 85, 3) := by decide +kernel
theorem d_Sp_append_81 : decode b_Sp_append 81 = .ok (.return_, 1) := by decide +kernel
theorem d_Sp_join_0 : decode b_Sp_join 0 = .ok (.iload_n 1, 1) := by decide +kernel
theorem d_Sp_join_1 : decode b_Sp_join 1 = .ok (.bipush 24, 2) := by decide +kernel
theorem d_Sp_join_3 : decode b_Sp_join 3 = .ok (.imul, 1) := by decide +kernel
theorem d_Sp_join_4 : decode b_Sp_join 4 = .ok (.iload_n 2, 1) := by decide +kernel
theorem d_Sp_join_5 : decode b_Sp_join 5 = .ok (.iadd, 1) := by decide +kernel
theorem d_Sp_join_6 : decode b_Sp_join 6 = .ok (.istore 4, 2) := by decide +kernel
theorem d_Sp_join_8 : decode b_Sp_join 8 = .ok (.aload_n 0, 1) := by decide +kernel
theorem d_Sp_join_9 : decode b_Sp_join 9 = .ok (.getfield 27, 3) := by decide +kernel
theorem d_Sp_join_12 : decode b_Sp_join 12 = .ok (.iload 4, 2) := by decide +kernel
theorem d_Sp_join_14 : decode b_Sp_join 14 = .ok (.iload_n 3, 1) := by decide +kernel
theorem d_Sp_join_15 : decode b_Sp_join 15 = .ok (.iastore, 1) := by decide +kernel
theorem d_Sp_join_16 : decode b_Sp_join 16 = .ok (.aload_n 0, 1) := by decide +kernel
theorem d_Sp_join_17 : decode b_Sp_join 17 = .ok (.getfield 33, 3) := by decide +kernel
theorem d_Sp_join_20 : decode b_Sp_join 20 = .ok (.iload 4, 2) := by decide +kernel
theorem d_Sp_join_22 : decode b_Sp_join 22 = .ok (.aload_n 0, 1) := by decide +kernel
theorem d_Sp_join_23 : decode b_Sp_join 23 = .ok (.getfield 30, 3) := by decide +kernel
theorem d_Sp_join_26 : decode b_Sp_join 26 = .ok (.iload_n 3, 1) := by decide +kernel
theorem d_Sp_join_27 : decode b_Sp_join 27 = .ok (.iaload, 1) := by decide +kernel
theorem d_Sp_join_28 : decode b_Sp_join 28 = .ok (.iastore, 1) := by decide +kernel
theorem d_Sp_join_29 : decode b_Sp_join 29 = .ok (.aload_n 0, 1) := by decide +kernel
theorem d_Sp_join_30 : decode b_Sp_join 30 = .ok (.getfield 30, 3) := by decide +kernel
theorem d_Sp_join_33 : decode b_Sp_join 33 = .ok (.iload_n 3, 1) := by decide +kernel
theorem d_Sp_join_34 : decode b_Sp_join 34 = .ok (.iload 4, 2) := by decide +kernel
theorem d_Sp_join_36 : decode b_Sp_join 36 = .ok (.iastore, 1) := by decide +kernel
theorem d_Sp_join_37 : decode b_Sp_join 37 = .ok (.aload_n 0, 1) := by decide +kernel
theorem d_Sp_join_38 : decode b_Sp_join 38 = .ok (.getfield 24, 3) := by decide +kernel
theorem d_Sp_join_41 : decode b_Sp_join 41 = .ok (.iload_n 1, 1) := by decide +kernel
theorem d_Sp_join_42 : decode b_Sp_join 42 = .ok (.dup2, 1) := by decide +kernel
theorem d_Sp_join_43 : decode b_Sp_join 43 = .ok (.iaload, 1) := by decide +kernel
theorem d_Sp_join_44 : decode b_Sp_join 44 = .ok (.iconst 1, 1) := by decide +kernel
theorem d_Sp_join_45 : decode b_Sp_join 45 = .ok (.iadd, 1) := by decide +kernel
theorem d_Sp_join_46 : decode b_Sp_join 46 = .ok (.iastore, 1) := by decide +kernel
theorem d_Sp_join_47 : decode b_Sp_join 47 = .ok (.return_, 1) := by decide +kernel
theorem d_Sp_putIntoSlot_0 : decode b_Sp_putIntoSlot 0 = .ok (.iconst 0, 1) := by decide +kernel
theorem d_Sp_putIntoSlot_1 : decode b_Sp_putIntoSlot 1 = .ok (.istore_n 3, 1) := by decide +kernel
theorem d_Sp_putIntoSlot_2 : decode b_Sp_putIntoSlot 2 = .ok (.iload_n 3, 1) := by decide +kernel
theorem d_Sp_putIntoSlot_3 : decode b_Sp_putIntoSlot 3 = .ok (.sipush 1024, 3) := by decide +kernel
theorem d_Sp_putIntoSlot_6 : decode b_Sp_putIntoSlot 6 = .ok (.if_icmp .ge 35, 3) := by decide +kernel
theorem d_Sp_putIntoSlot_9 : decode b_Sp_putIntoSlot 9 = .ok (.iload_n 1, 1) := by decide +kernel
theorem d_Sp_putIntoSlot_10 : decode b_Sp_putIntoSlot 10 = .ok (.iload_n 3, 1) := by decide +kernel
theorem d_Sp_putIntoSlot_11 : decode b_Sp_putIntoSlot 11 = .ok (.invokestatic 89, 3) := by decide +kernel
theorem d_Sp_putIntoSlot_14 : decode b_Sp_putIntoSlot 14 = .ok (.istore 4, 2) := by decide +kernel
theorem d_Sp_putIntoSlot_16 : decode b_Sp_putIntoSlot 16 = .ok (.aload_n 0, 1) := by decide +kernel
theorem d_Sp_putIntoSlot_17 : decode b_Sp_putIntoSlot 17 = .ok (.getfield 36, 3) := by decide +kernel
theorem d_Sp_putIntoSlot_20 : decode b_Sp_putIntoSlot 20 = .ok (.iload 4, 2) := by decide +kernel
theorem d_Sp_putIntoSlot_22 : decode b_Sp_putIntoSlot 22 = .ok (.iaload, 1) := by decide +kernel
theorem d_Sp_putIntoSlot_23 : decode b_Sp_putIntoSlot 23 = .ok (.ifCond .ne 12, 3) := by decide +kernel
theorem d_Sp_putIntoSlot_26 : decode b_Sp_putIntoSlot 26 = .ok (.aload_n 0, 1) := by decide +kernel
theorem d_Sp_putIntoSlot_27 : decode b_Sp_putIntoSlot 27 = .ok (.getfield 36, 3) := by decide +kernel
theorem d_Sp_putIntoSlot_30 : decode b_Sp_putIntoSlot 30 = .ok (.iload 4, 2) := by decide +kernel
theorem d_Sp_putIntoSlot_32 : decode b_Sp_putIntoSlot 32 = .ok (.iload_n 2, 1) := by decide +kernel
theorem d_Sp_putIntoSlot_33 : decode b_Sp_putIntoSlot 33 = .ok (.iastore, 1) := by decide +kernel
theorem d_Sp_putIntoSlot_34 : decode b_Sp_putIntoSlot 34 = .ok (.return_, 1) := by decide +kernel
theorem d_Sp_putIntoSlot_35 : decode b_Sp_putIntoSlot 35 = .ok (.iinc 3 1, 3) := by decide +kernel
theorem d_Sp_putIntoSlot_38 : decode b_Sp_putIntoSlot 38 = .ok (.goto (-36), 3) := by decide +kernel
theorem d_Sp_putIntoSlot_41 : decode b_Sp_putIntoSlot 41 = .ok (.return_, 1) := by decide +kernel
theorem d_Sp_numberOf_0 : decode b_Sp_numberOf 0 = .ok (.aload_n 0, 1) := by decide +kernel
theorem d_Sp_numberOf_1 : decode b_Sp_numberOf 1 = .ok (.getfield 39, 3) := by decide +kernel
theorem d_Sp_numberOf_4 : decode b_Sp_numberOf 4 = .ok (.ifCond .ne 6, 3) := by decide +kernel
theorem d_Sp_numberOf_7 : decode b_Sp_numberOf 7 = .ok (.bipush (-2), 2) := by decide +kernel
theorem d_Sp_numberOf_9 : decode b_Sp_numberOf 9 = .ok (.ireturn, 1) := by decide +kernel
theorem d_Sp_numberOf_10 : decode b_Sp_numberOf 10 = .ok (.iconst 0, 1) := by decide +kernel
theorem d_Sp_numberOf_11 : decode b_Sp_numberOf 11 = .ok (.istore_n 2, 1) := by decide +kernel
theorem d_Sp_numberOf_12 : decode b_Sp_numberOf 12 = .ok (.iload_n 2, 1) := by decide +kernel
theorem d_Sp_numberOf_13 : decode b_Sp_numberOf 13 = .ok (.sipush 1024, 3) := by decide +kernel
theorem d_Sp_numberOf_16 : decode b_Sp_numberOf 16 = .ok (.if_icmp .ge 41, 3) := by decide +kernel
theorem d_Sp_numberOf_19 : decode b_Sp_numberOf 19 = .ok (.aload_n 0, 1) := by decide +kernel
theorem d_Sp_numberOf_20 : decode b_Sp_numberOf 20 = .ok (.getfield 36, 3) := by decide +kernel
theorem d_Sp_numberOf_23 : decode b_Sp_numberOf 23 = .ok (.iload_n 1, 1) := by decide +kernel
theorem d_Sp_numberOf_24 : decode b_Sp_numberOf 24 = .ok (.iload_n 2, 1) := by decide +kernel
theorem d_Sp_numberOf_25 : decode b_Sp_numberOf 25 = .ok (.invokestatic 89, 3) := by decide +kernel
theorem d_Sp_numberOf_28 : decode b_Sp_numberOf 28 = .ok (.iaload, 1) := by decide +kernel
theorem d_Sp_numberOf_29 : decode b_Sp_numberOf 29 = .ok (.iconst 1, 1) := by decide +kernel
theorem d_Sp_numberOf_30 : decode b_Sp_numberOf 30 = .ok (.isub, 1) := by decide +kernel
theorem d_Sp_numberOf_31 : decode b_Sp_numberOf 31 = .ok (.istore_n 3, 1) := by decide +kernel
theorem d_Sp_numberOf_32 : decode b_Sp_numberOf 32 = .ok (.iload_n 3, 1) := by decide +kernel
theorem d_Sp_numberOf_33 : decode b_Sp_numberOf 33 = .ok (.ifCond .ge 6, 3) := by decide +kernel
theorem d_Sp_numberOf_36 : decode b_Sp_numberOf 36 = .ok (.bipush (-2), 2) := by decide +kernel
theorem d_Sp_numberOf_38 : decode b_Sp_numberOf 38 = .ok (.ireturn, 1) := by decide +kernel
theorem d_Sp_numberOf_39 : decode b_Sp_numberOf 39 = .ok (.aload_n 0, 1) := by decide +kernel
theorem d_Sp_numberOf_40 : decode b_Sp_numberOf 40 = .ok (.getfield 9, 3) := by decide +kernel
theorem d_Sp_numberOf_43 : decode b_Sp_numberOf 43 = .ok (.iload_n 3, 1) := by decide +kernel
theorem d_Sp_numberOf_44 : decode b_Sp_numberOf 44 = .ok (.iaload, 1) := by decide +kernel
theorem d_Sp_numberOf_45 : decode b_Sp_numberOf 45 = .ok (.iload_n 1, 1) := by decide +kernel
theorem d_Sp_numberOf_46 : decode b_Sp_numberOf 46 = .ok (.if_icmp .ne 5, 3) := by decide +kernel
theorem d_Sp_numberOf_49 : decode b_Sp_numberOf 49 = .ok (.iload_n 3, 1) := by decide +kernel
theorem d_Sp_numberOf_50 : decode b_Sp_numberOf 50 = .ok (.ireturn, 1) := by decide +kernel
theorem d_Sp_numberOf_51 : decode b_Sp_numberOf 51 = .ok (.iinc 2 1, 3) := by decide +kernel
theorem d_Sp_numberOf_54 : decode b_Sp_numberOf 54 = .ok (.goto (-42), 3) := by decide +kernel
theorem d_Sp_numberOf_57 : decode b_Sp_numberOf 57 = .ok (.bipush (-2), 2) := by decide +kernel
theorem d_Sp_numberOf_59 : decode b_Sp_numberOf 59 = .ok (.ireturn, 1) := by decide +kernel
theorem d_Sp_slotFor_0 : decode b_Sp_slotFor 0 = .ok (.iload_n 0, 1) := by decide +kernel
theorem d_Sp_slotFor_1 : decode b_Sp_slotFor 1 = .ok (.ldc 93, 2) := by decide +kernel
theorem d_Sp_slotFor_3 : decode b_Sp_slotFor 3 = .ok (.imul, 1) := by decide +kernel
theorem d_Sp_slotFor_4 : decode b_Sp_slotFor 4 = .ok (.bipush 22, 2) := by decide +kernel
theorem d_Sp_slotFor_6 : decode b_Sp_slotFor 6 = .ok (.iushr, 1) := by decide +kernel
theorem d_Sp_slotFor_7 : decode b_Sp_slotFor 7 = .ok (.iload_n 1, 1) := by decide +kernel
theorem d_Sp_slotFor_8 : decode b_Sp_slotFor 8 = .ok (.iadd, 1) := by decide +kernel
theorem d_Sp_slotFor_9 : decode b_Sp_slotFor 9 = .ok (.sipush 1024, 3) := by decide +kernel
theorem d_Sp_slotFor_12 : decode b_Sp_slotFor 12 = .ok (.irem, 1) := by decide +kernel
theorem d_Sp_slotFor_13 : decode b_Sp_slotFor 13 = .ok (.ireturn, 1) := by decide +kernel
theorem d_Sp_wayStep_0 : decode b_Sp_wayStep 0 = .ok (.iload_n 2, 1) := by decide +kernel
theorem d_Sp_wayStep_1 : decode b_Sp_wayStep 1 = .ok (.aload_n 0, 1) := by decide +kernel
theorem d_Sp_wayStep_2 : decode b_Sp_wayStep 2 = .ok (.getfield 21, 3) := by decide +kernel
theorem d_Sp_wayStep_5 : decode b_Sp_wayStep 5 = .ok (.iload_n 1, 1) := by decide +kernel
theorem d_Sp_wayStep_6 : decode b_Sp_wayStep 6 = .ok (.iaload, 1) := by decide +kernel
theorem d_Sp_wayStep_7 : decode b_Sp_wayStep 7 = .ok (.invokestatic 43, 3) := by decide +kernel
theorem d_Sp_wayStep_10 : decode b_Sp_wayStep 10 = .ok (.ifCond .ne 6, 3) := by decide +kernel
theorem d_Sp_wayStep_13 : decode b_Sp_wayStep 13 = .ok (.bipush (-2), 2) := by decide +kernel
theorem d_Sp_wayStep_15 : decode b_Sp_wayStep 15 = .ok (.ireturn, 1) := by decide +kernel
theorem d_Sp_wayStep_16 : decode b_Sp_wayStep 16 = .ok (.iload_n 1, 1) := by decide +kernel
theorem d_Sp_wayStep_17 : decode b_Sp_wayStep 17 = .ok (.istore_n 3, 1) := by decide +kernel
theorem d_Sp_wayStep_18 : decode b_Sp_wayStep 18 = .ok (.aload_n 0, 1) := by decide +kernel
theorem d_Sp_wayStep_19 : decode b_Sp_wayStep 19 = .ok (.getfield 21, 3) := by decide +kernel
theorem d_Sp_wayStep_22 : decode b_Sp_wayStep 22 = .ok (.iload_n 1, 1) := by decide +kernel
theorem d_Sp_wayStep_23 : decode b_Sp_wayStep 23 = .ok (.iaload, 1) := by decide +kernel
theorem d_Sp_wayStep_24 : decode b_Sp_wayStep 24 = .ok (.iconst 1, 1) := by decide +kernel
theorem d_Sp_wayStep_25 : decode b_Sp_wayStep 25 = .ok (.isub, 1) := by decide +kernel
theorem d_Sp_wayStep_26 : decode b_Sp_wayStep 26 = .ok (.istore 4, 2) := by decide +kernel
theorem d_Sp_wayStep_28 : decode b_Sp_wayStep 28 = .ok (.iload 4, 2) := by decide +kernel
theorem d_Sp_wayStep_30 : decode b_Sp_wayStep 30 = .ok (.iload_n 2, 1) := by decide +kernel
theorem d_Sp_wayStep_31 : decode b_Sp_wayStep 31 = .ok (.if_icmp .le 16, 3) := by decide +kernel
theorem d_Sp_wayStep_34 : decode b_Sp_wayStep 34 = .ok (.aload_n 0, 1) := by decide +kernel
theorem d_Sp_wayStep_35 : decode b_Sp_wayStep 35 = .ok (.getfield 15, 3) := by decide +kernel
theorem d_Sp_wayStep_38 : decode b_Sp_wayStep 38 = .ok (.iload_n 3, 1) := by decide +kernel
theorem d_Sp_wayStep_39 : decode b_Sp_wayStep 39 = .ok (.iaload, 1) := by decide +kernel
theorem d_Sp_wayStep_40 : decode b_Sp_wayStep 40 = .ok (.istore_n 3, 1) := by decide +kernel
theorem d_Sp_wayStep_41 : decode b_Sp_wayStep 41 = .ok (.iinc 4 (-1), 3) := by decide +kernel
theorem d_Sp_wayStep_44 : decode b_Sp_wayStep 44 = .ok (.goto (-16), 3) := by decide +kernel
theorem d_Sp_wayStep_47 : decode b_Sp_wayStep 47 = .ok (.aload_n 0, 1) := by decide +kernel
theorem d_Sp_wayStep_48 : decode b_Sp_wayStep 48 = .ok (.getfield 18, 3) := by decide +kernel
theorem d_Sp_wayStep_51 : decode b_Sp_wayStep 51 = .ok (.iload_n 3, 1) := by decide +kernel
theorem d_Sp_wayStep_52 : decode b_Sp_wayStep 52 = .ok (.iaload, 1) := by decide +kernel
theorem d_Sp_wayStep_53 : decode b_Sp_wayStep 53 = .ok (.ireturn, 1) := by decide +kernel
theorem d_Sp_longestWay_0 : decode b_Sp_longestWay 0 = .ok (.iconst 0, 1) := by decide +kernel
theorem d_Sp_longestWay_1 : decode b_Sp_longestWay 1 = .ok (.istore_n 1, 1) := by decide +kernel
theorem d_Sp_longestWay_2 : decode b_Sp_longestWay 2 = .ok (.iconst 0, 1) := by decide +kernel
theorem d_Sp_longestWay_3 : decode b_Sp_longestWay 3 = .ok (.istore_n 2, 1) := by decide +kernel
theorem d_Sp_longestWay_4 : decode b_Sp_longestWay 4 = .ok (.iload_n 2, 1) := by decide +kernel
theorem d_Sp_longestWay_5 : decode b_Sp_longestWay 5 = .ok (.aload_n 0, 1) := by decide +kernel
theorem d_Sp_longestWay_6 : decode b_Sp_longestWay 6 = .ok (.getfield 39, 3) := by decide +kernel
theorem d_Sp_longestWay_9 : decode b_Sp_longestWay 9 = .ok (.if_icmp .ge 20, 3) := by decide +kernel
theorem d_Sp_longestWay_12 : decode b_Sp_longestWay 12 = .ok (.iload_n 1, 1) := by decide +kernel
theorem d_Sp_longestWay_13 : decode b_Sp_longestWay 13 = .ok (.aload_n 0, 1) := by decide +kernel
theorem d_Sp_longestWay_14 : decode b_Sp_longestWay 14 = .ok (.getfield 21, 3) := by decide +kernel
theorem d_Sp_longestWay_17 : decode b_Sp_longestWay 17 = .ok (.iload_n 2, 1) := by decide +kernel
theorem d_Sp_longestWay_18 : decode b_Sp_longestWay 18 = .ok (.iaload, 1) := by decide +kernel
theorem d_Sp_longestWay_19 : decode b_Sp_longestWay 19 = .ok (.invokestatic 94, 3) := by decide +kernel
theorem d_Sp_longestWay_22 : decode b_Sp_longestWay 22 = .ok (.istore_n 1, 1) := by decide +kernel
theorem d_Sp_longestWay_23 : decode b_Sp_longestWay 23 = .ok (.iinc 2 1, 3) := by decide +kernel
theorem d_Sp_longestWay_26 : decode b_Sp_longestWay 26 = .ok (.goto (-22), 3) := by decide +kernel
theorem d_Sp_longestWay_29 : decode b_Sp_longestWay 29 = .ok (.iload_n 1, 1) := by decide +kernel
theorem d_Sp_longestWay_30 : decode b_Sp_longestWay 30 = .ok (.ireturn, 1) := by decide +kernel
theorem d_Sp_pairs_0 : decode b_Sp_pairs 0 = .ok (.iconst 0, 1) := by decide +kernel
theorem d_Sp_pairs_1 : decode b_Sp_pairs 1 = .ok (.istore_n 1, 1) := by decide +kernel
theorem d_Sp_pairs_2 : decode b_Sp_pairs 2 = .ok (.iconst 0, 1) := by decide +kernel
theorem d_Sp_pairs_3 : decode b_Sp_pairs 3 = .ok (.istore_n 2, 1) := by decide +kernel
theorem d_Sp_pairs_4 : decode b_Sp_pairs 4 = .ok (.iload_n 2, 1) := by decide +kernel
theorem d_Sp_pairs_5 : decode b_Sp_pairs 5 = .ok (.aload_n 0, 1) := by decide +kernel
theorem d_Sp_pairs_6 : decode b_Sp_pairs 6 = .ok (.getfield 39, 3) := by decide +kernel
theorem d_Sp_pairs_9 : decode b_Sp_pairs 9 = .ok (.if_icmp .ge 18, 3) := by decide +kernel
theorem d_Sp_pairs_12 : decode b_Sp_pairs 12 = .ok (.iload_n 1, 1) := by decide +kernel
theorem d_Sp_pairs_13 : decode b_Sp_pairs 13 = .ok (.aload_n 0, 1) := by decide +kernel
theorem d_Sp_pairs_14 : decode b_Sp_pairs 14 = .ok (.getfield 24, 3) := by decide +kernel
theorem d_Sp_pairs_17 : decode b_Sp_pairs 17 = .ok (.iload_n 2, 1) := by decide +kernel
theorem d_Sp_pairs_18 : decode b_Sp_pairs 18 = .ok (.iaload, 1) := by decide +kernel
theorem d_Sp_pairs_19 : decode b_Sp_pairs 19 = .ok (.iadd, 1) := by decide +kernel
theorem d_Sp_pairs_20 : decode b_Sp_pairs 20 = .ok (.istore_n 1, 1) := by decide +kernel
theorem d_Sp_pairs_21 : decode b_Sp_pairs 21 = .ok (.iinc 2 1, 3) := by decide +kernel
theorem d_Sp_pairs_24 : decode b_Sp_pairs 24 = .ok (.goto (-20), 3) := by decide +kernel
theorem d_Sp_pairs_27 : decode b_Sp_pairs 27 = .ok (.iload_n 1, 1) := by decide +kernel
theorem d_Sp_pairs_28 : decode b_Sp_pairs 28 = .ok (.ireturn, 1) := by decide +kernel
theorem d_Sp_statesWhereOpen_0 : decode b_Sp_statesWhereOpen 0 = .ok (.iconst 0, 1) := by decide +kernel
theorem d_Sp_statesWhereOpen_1 : decode b_Sp_statesWhereOpen 1 = .ok (.istore_n 2, 1) := by decide +kernel
theorem d_Sp_statesWhereOpen_2 : decode b_Sp_statesWhereOpen 2 = .ok (.iconst 0, 1) := by decide +kernel
theorem d_Sp_statesWhereOpen_3 : decode b_Sp_statesWhereOpen 3 = .ok (.istore_n 3, 1) := by decide +kernel
theorem d_Sp_statesWhereOpen_4 : decode b_Sp_statesWhereOpen 4 = .ok (.iload_n 3, 1) := by decide +kernel
theorem d_Sp_statesWhereOpen_5 : decode b_Sp_statesWhereOpen 5 = .ok (.aload_n 0, 1) := by decide +kernel
theorem d_Sp_statesWhereOpen_6 : decode b_Sp_statesWhereOpen 6 = .ok (.getfield 39, 3) := by decide +kernel
theorem d_Sp_statesWhereOpen_9 : decode b_Sp_statesWhereOpen 9 = .ok (.if_icmp .ge 28, 3) := by decide +kernel
theorem d_Sp_statesWhereOpen_12 : decode b_Sp_statesWhereOpen 12 = .ok (.aload_n 0, 1) := by decide +kernel
theorem d_Sp_statesWhereOpen_13 : decode b_Sp_statesWhereOpen 13 = .ok (.getfield 27, 3) := by decide +kernel
theorem d_Sp_statesWhereOpen_16 : decode b_Sp_statesWhereOpen 16 = .ok (.iload_n 3, 1) := by decide +kernel
theorem d_Sp_statesWhereOpen_17 : decode b_Sp_statesWhereOpen 17 = .ok (.bipush 24, 2) := by decide +kernel
theorem d_Sp_statesWhereOpen_19 : decode b_Sp_statesWhereOpen 19 = .ok (.imul, 1) := by decide +kernel
theorem d_Sp_statesWhereOpen_20 : decode b_Sp_statesWhereOpen 20 = .ok (.iload_n 1, 1) := by decide +kernel
theorem d_Sp_statesWhereOpen_21 : decode b_Sp_statesWhereOpen 21 = .ok (.iadd, 1) := by decide +kernel
theorem d_Sp_statesWhereOpen_22 : decode b_Sp_statesWhereOpen 22 = .ok (.iaload, 1) := by decide +kernel
theorem d_Sp_statesWhereOpen_23 : decode b_Sp_statesWhereOpen 23 = .ok (.bipush (-2), 2) := by decide +kernel
theorem d_Sp_statesWhereOpen_25 : decode b_Sp_statesWhereOpen 25 = .ok (.if_icmp .eq 6, 3) := by decide +kernel
theorem d_Sp_statesWhereOpen_28 : decode b_Sp_statesWhereOpen 28 = .ok (.iinc 2 1, 3) := by decide +kernel
theorem d_Sp_statesWhereOpen_31 : decode b_Sp_statesWhereOpen 31 = .ok (.iinc 3 1, 3) := by decide +kernel
theorem d_Sp_statesWhereOpen_34 : decode b_Sp_statesWhereOpen 34 = .ok (.goto (-30), 3) := by decide +kernel
theorem d_Sp_statesWhereOpen_37 : decode b_Sp_statesWhereOpen 37 = .ok (.iload_n 2, 1) := by decide +kernel
theorem d_Sp_statesWhereOpen_38 : decode b_Sp_statesWhereOpen 38 = .ok (.ireturn, 1) := by decide +kernel
theorem d_Sp_firstNext_0 : decode b_Sp_firstNext 0 = .ok (.iconst 0, 1) := by decide +kernel
theorem d_Sp_firstNext_1 : decode b_Sp_firstNext 1 = .ok (.istore_n 2, 1) := by decide +kernel
theorem d_Sp_firstNext_2 : decode b_Sp_firstNext 2 = .ok (.iload_n 2, 1) := by decide +kernel
theorem d_Sp_firstNext_3 : decode b_Sp_firstNext 3 = .ok (.bipush 24, 2) := by decide +kernel
theorem d_Sp_firstNext_5 : decode b_Sp_firstNext 5 = .ok (.if_icmp .ge 29, 3) := by decide +kernel
theorem d_Sp_firstNext_8 : decode b_Sp_firstNext 8 = .ok (.aload_n 0, 1) := by decide +kernel
theorem d_Sp_firstNext_9 : decode b_Sp_firstNext 9 = .ok (.getfield 27, 3) := by decide +kernel
theorem d_Sp_firstNext_12 : decode b_Sp_firstNext 12 = .ok (.iload_n 1, 1) := by decide +kernel
theorem d_Sp_firstNext_13 : decode b_Sp_firstNext 13 = .ok (.bipush 24, 2) := by decide +kernel
theorem d_Sp_firstNext_15 : decode b_Sp_firstNext 15 = .ok (.imul, 1) := by decide +kernel
theorem d_Sp_firstNext_16 : decode b_Sp_firstNext 16 = .ok (.iload_n 2, 1) := by decide +kernel
theorem d_Sp_firstNext_17 : decode b_Sp_firstNext 17 = .ok (.iadd, 1) := by decide +kernel
theorem d_Sp_firstNext_18 : decode b_Sp_firstNext 18 = .ok (.iaload, 1) := by decide +kernel
theorem d_Sp_firstNext_19 : decode b_Sp_firstNext 19 = .ok (.istore_n 3, 1) := by decide +kernel
theorem d_Sp_firstNext_20 : decode b_Sp_firstNext 20 = .ok (.iload_n 3, 1) := by decide +kernel
theorem d_Sp_firstNext_21 : decode b_Sp_firstNext 21 = .ok (.bipush (-2), 2) := by decide +kernel
theorem d_Sp_firstNext_23 : decode b_Sp_firstNext 23 = .ok (.if_icmp .eq 5, 3) := by decide +kernel
theorem d_Sp_firstNext_26 : decode b_Sp_firstNext 26 = .ok (.iload_n 3, 1) := by decide +kernel
theorem d_Sp_firstNext_27 : decode b_Sp_firstNext 27 = .ok (.ireturn, 1) := by decide +kernel
theorem d_Sp_firstNext_28 : decode b_Sp_firstNext 28 = .ok (.iinc 2 1, 3) := by decide +kernel
theorem d_Sp_firstNext_31 : decode b_Sp_firstNext 31 = .ok (.goto (-29), 3) := by decide +kernel
theorem d_Sp_firstNext_34 : decode b_Sp_firstNext 34 = .ok (.bipush (-2), 2) := by decide +kernel
theorem d_Sp_firstNext_36 : decode b_Sp_firstNext 36 = .ok (.ireturn, 1) := by decide +kernel
theorem d_Sp_differentNext_0 : decode b_Sp_differentNext 0 = .ok (.iconst 0, 1) := by decide +kernel
theorem d_Sp_differentNext_1 : decode b_Sp_differentNext 1 = .ok (.istore_n 2, 1) := by decide +kernel
theorem d_Sp_differentNext_2 : decode b_Sp_differentNext 2 = .ok (.iconst 0, 1) := by decide +kernel
theorem d_Sp_differentNext_3 : decode b_Sp_differentNext 3 = .ok (.istore_n 3, 1) := by decide +kernel
theorem d_Sp_differentNext_4 : decode b_Sp_differentNext 4 = .ok (.iload_n 3, 1) := by decide +kernel
theorem d_Sp_differentNext_5 : decode b_Sp_differentNext 5 = .ok (.bipush 24, 2) := by decide +kernel
theorem d_Sp_differentNext_7 : decode b_Sp_differentNext 7 = .ok (.if_icmp .ge 21, 3) := by decide +kernel
theorem d_Sp_differentNext_10 : decode b_Sp_differentNext 10 = .ok (.aload_n 0, 1) := by decide +kernel
theorem d_Sp_differentNext_11 : decode b_Sp_differentNext 11 = .ok (.iload_n 1, 1) := by decide +kernel
theorem d_Sp_differentNext_12 : decode b_Sp_differentNext 12 = .ok (.iload_n 3, 1) := by decide +kernel
theorem d_Sp_differentNext_13 : decode b_Sp_differentNext 13 = .ok (.invokevirtual 99, 3) := by decide +kernel
theorem d_Sp_differentNext_16 : decode b_Sp_differentNext 16 = .ok (.ifCond .eq 6, 3) := by decide +kernel
theorem d_Sp_differentNext_19 : decode b_Sp_differentNext 19 = .ok (.iinc 2 1, 3) := by decide +kernel
theorem d_Sp_differentNext_22 : decode b_Sp_differentNext 22 = .ok (.iinc 3 1, 3) := by decide +kernel
theorem d_Sp_differentNext_25 : decode b_Sp_differentNext 25 = .ok (.goto (-21), 3) := by decide +kernel
theorem d_Sp_differentNext_28 : decode b_Sp_differentNext 28 = .ok (.iload_n 2, 1) := by decide +kernel
theorem d_Sp_differentNext_29 : decode b_Sp_differentNext 29 = .ok (.ireturn, 1) := by decide +kernel
theorem d_Sp_isNewNext_0 : decode b_Sp_isNewNext 0 = .ok (.iload_n 1, 1) := by decide +kernel
theorem d_Sp_isNewNext_1 : decode b_Sp_isNewNext 1 = .ok (.bipush 24, 2) := by decide +kernel
theorem d_Sp_isNewNext_3 : decode b_Sp_isNewNext 3 = .ok (.imul, 1) := by decide +kernel
theorem d_Sp_isNewNext_4 : decode b_Sp_isNewNext 4 = .ok (.istore_n 3, 1) := by decide +kernel
theorem d_Sp_isNewNext_5 : decode b_Sp_isNewNext 5 = .ok (.iconst 0, 1) := by decide +kernel
theorem d_Sp_isNewNext_6 : decode b_Sp_isNewNext 6 = .ok (.istore 4, 2) := by decide +kernel
theorem d_Sp_isNewNext_8 : decode b_Sp_isNewNext 8 = .ok (.iload 4, 2) := by decide +kernel
theorem d_Sp_isNewNext_10 : decode b_Sp_isNewNext 10 = .ok (.iload_n 2, 1) := by decide +kernel
theorem d_Sp_isNewNext_11 : decode b_Sp_isNewNext 11 = .ok (.if_icmp .ge 31, 3) := by decide +kernel
theorem d_Sp_isNewNext_14 : decode b_Sp_isNewNext 14 = .ok (.aload_n 0, 1) := by decide +kernel
theorem d_Sp_isNewNext_15 : decode b_Sp_isNewNext 15 = .ok (.getfield 27, 3) := by decide +kernel
theorem d_Sp_isNewNext_18 : decode b_Sp_isNewNext 18 = .ok (.iload_n 3, 1) := by decide +kernel
theorem d_Sp_isNewNext_19 : decode b_Sp_isNewNext 19 = .ok (.iload 4, 2) := by decide +kernel
theorem d_Sp_isNewNext_21 : decode b_Sp_isNewNext 21 = .ok (.iadd, 1) := by decide +kernel
theorem d_Sp_isNewNext_22 : decode b_Sp_isNewNext 22 = .ok (.iaload, 1) := by decide +kernel
theorem d_Sp_isNewNext_23 : decode b_Sp_isNewNext 23 = .ok (.aload_n 0, 1) := by decide +kernel
theorem d_Sp_isNewNext_24 : decode b_Sp_isNewNext 24 = .ok (.getfield 27, 3) := by decide +kernel
theorem d_Sp_isNewNext_27 : decode b_Sp_isNewNext 27 = .ok (.iload_n 3, 1) := by decide +kernel
theorem d_Sp_isNewNext_28 : decode b_Sp_isNewNext 28 = .ok (.iload_n 2, 1) := by decide +kernel
theorem d_Sp_isNewNext_29 : decode b_Sp_isNewNext 29 = .ok (.iadd, 1) := by decide +kernel
theorem d_Sp_isNewNext_30 : decode b_Sp_isNewNext 30 = .ok (.iaload, 1) := by decide +kernel
theorem d_Sp_isNewNext_31 : decode b_Sp_isNewNext 31 = .ok (.if_icmp .ne 5, 3) := by decide +kernel
theorem d_Sp_isNewNext_34 : decode b_Sp_isNewNext 34 = .ok (.iconst 0, 1) := by decide +kernel
theorem d_Sp_isNewNext_35 : decode b_Sp_isNewNext 35 = .ok (.ireturn, 1) := by decide +kernel
theorem d_Sp_isNewNext_36 : decode b_Sp_isNewNext 36 = .ok (.iinc 4 1, 3) := by decide +kernel
theorem d_Sp_isNewNext_39 : decode b_Sp_isNewNext 39 = .ok (.goto (-31), 3) := by decide +kernel
theorem d_Sp_isNewNext_42 : decode b_Sp_isNewNext 42 = .ok (.aload_n 0, 1) := by decide +kernel
theorem d_Sp_isNewNext_43 : decode b_Sp_isNewNext 43 = .ok (.getfield 27, 3) := by decide +kernel
theorem d_Sp_isNewNext_46 : decode b_Sp_isNewNext 46 = .ok (.iload_n 3, 1) := by decide +kernel
theorem d_Sp_isNewNext_47 : decode b_Sp_isNewNext 47 = .ok (.iload_n 2, 1) := by decide +kernel
theorem d_Sp_isNewNext_48 : decode b_Sp_isNewNext 48 = .ok (.iadd, 1) := by decide +kernel
theorem d_Sp_isNewNext_49 : decode b_Sp_isNewNext 49 = .ok (.iaload, 1) := by decide +kernel
theorem d_Sp_isNewNext_50 : decode b_Sp_isNewNext 50 = .ok (.bipush (-2), 2) := by decide +kernel
theorem d_Sp_isNewNext_52 : decode b_Sp_isNewNext 52 = .ok (.if_icmp .eq 7, 3) := by decide +kernel
theorem d_Sp_isNewNext_55 : decode b_Sp_isNewNext 55 = .ok (.iconst 1, 1) := by decide +kernel
theorem d_Sp_isNewNext_56 : decode b_Sp_isNewNext 56 = .ok (.goto 4, 3) := by decide +kernel
theorem d_Sp_isNewNext_59 : decode b_Sp_isNewNext 59 = .ok (.iconst 0, 1) := by decide +kernel
theorem d_Sp_isNewNext_60 : decode b_Sp_isNewNext 60 = .ok (.ireturn, 1) := by decide +kernel
theorem d_Sp_leastFailing_0 : decode b_Sp_leastFailing 0 = .ok (.iconst 0, 1) := by decide +kernel
theorem d_Sp_leastFailing_1 : decode b_Sp_leastFailing 1 = .ok (.istore_n 2, 1) := by decide +kernel
theorem d_Sp_leastFailing_2 : decode b_Sp_leastFailing 2 = .ok (.iload_n 2, 1) := by decide +kernel
theorem d_Sp_leastFailing_3 : decode b_Sp_leastFailing 3 = .ok (.aload_n 0, 1) := by decide +kernel
theorem d_Sp_leastFailing_4 : decode b_Sp_leastFailing 4 = .ok (.getfield 39, 3) := by decide +kernel
theorem d_Sp_leastFailing_7 : decode b_Sp_leastFailing 7 = .ok (.if_icmp .ge 24, 3) := by decide +kernel
theorem d_Sp_leastFailing_10 : decode b_Sp_leastFailing 10 = .ok (.aload_n 1, 1) := by decide +kernel
theorem d_Sp_leastFailing_11 : decode b_Sp_leastFailing 11 = .ok (.aload_n 0, 1) := by decide +kernel
theorem d_Sp_leastFailing_12 : decode b_Sp_leastFailing 12 = .ok (.getfield 9, 3) := by decide +kernel
theorem d_Sp_leastFailing_15 : decode b_Sp_leastFailing 15 = .ok (.iload_n 2, 1) := by decide +kernel
theorem d_Sp_leastFailing_16 : decode b_Sp_leastFailing 16 = .ok (.iaload, 1) := by decide +kernel
theorem d_Sp_leastFailing_17 : decode b_Sp_leastFailing 17 = .ok (.invokevirtual 102, 3) := by decide +kernel
theorem d_Sp_leastFailing_20 : decode b_Sp_leastFailing 20 = .ok (.ifCond .eq 5, 3) := by decide +kernel
theorem d_Sp_leastFailing_23 : decode b_Sp_leastFailing 23 = .ok (.iload_n 2, 1) := by decide +kernel
theorem d_Sp_leastFailing_24 : decode b_Sp_leastFailing 24 = .ok (.ireturn, 1) := by decide +kernel
theorem d_Sp_leastFailing_25 : decode b_Sp_leastFailing 25 = .ok (.iinc 2 1, 3) := by decide +kernel
theorem d_Sp_leastFailing_28 : decode b_Sp_leastFailing 28 = .ok (.goto (-26), 3) := by decide +kernel
theorem d_Sp_leastFailing_31 : decode b_Sp_leastFailing 31 = .ok (.bipush (-2), 2) := by decide +kernel
theorem d_Sp_leastFailing_33 : decode b_Sp_leastFailing 33 = .ok (.ireturn, 1) := by decide +kernel
theorem d_Sp_leastStuck_0 : decode b_Sp_leastStuck 0 = .ok (.iconst 0, 1) := by decide +kernel
theorem d_Sp_leastStuck_1 : decode b_Sp_leastStuck 1 = .ok (.istore_n 2, 1) := by decide +kernel
theorem d_Sp_leastStuck_2 : decode b_Sp_leastStuck 2 = .ok (.iload_n 2, 1) := by decide +kernel
theorem d_Sp_leastStuck_3 : decode b_Sp_leastStuck 3 = .ok (.aload_n 0, 1) := by decide +kernel
theorem d_Sp_leastStuck_4 : decode b_Sp_leastStuck 4 = .ok (.getfield 39, 3) := by decide +kernel
theorem d_Sp_leastStuck_7 : decode b_Sp_leastStuck 7 = .ok (.if_icmp .ge 33, 3) := by decide +kernel
theorem d_Sp_leastStuck_10 : decode b_Sp_leastStuck 10 = .ok (.aload_n 0, 1) := by decide +kernel
theorem d_Sp_leastStuck_11 : decode b_Sp_leastStuck 11 = .ok (.getfield 24, 3) := by decide +kernel
theorem d_Sp_leastStuck_14 : decode b_Sp_leastStuck 14 = .ok (.iload_n 2, 1) := by decide +kernel
theorem d_Sp_leastStuck_15 : decode b_Sp_leastStuck 15 = .ok (.iaload, 1) := by decide +kernel
theorem d_Sp_leastStuck_16 : decode b_Sp_leastStuck 16 = .ok (.ifCond .ne 18, 3) := by decide +kernel
theorem d_Sp_leastStuck_19 : decode b_Sp_leastStuck 19 = .ok (.aload_n 0, 1) := by decide +kernel
theorem d_Sp_leastStuck_20 : decode b_Sp_leastStuck 20 = .ok (.getfield 9, 3) := by decide +kernel
theorem d_Sp_leastStuck_23 : decode b_Sp_leastStuck 23 = .ok (.iload_n 2, 1) := by decide +kernel
theorem d_Sp_leastStuck_24 : decode b_Sp_leastStuck 24 = .ok (.iaload, 1) := by decide +kernel
theorem d_Sp_leastStuck_25 : decode b_Sp_leastStuck 25 = .ok (.invokestatic 107, 3) := by decide +kernel
theorem d_Sp_leastStuck_28 : decode b_Sp_leastStuck 28 = .ok (.iload_n 1, 1) := by decide +kernel
theorem d_Sp_leastStuck_29 : decode b_Sp_leastStuck 29 = .ok (.if_icmp .ne 5, 3) := by decide +kernel
theorem d_Sp_leastStuck_32 : decode b_Sp_leastStuck 32 = .ok (.iload_n 2, 1) := by decide +kernel
theorem d_Sp_leastStuck_33 : decode b_Sp_leastStuck 33 = .ok (.ireturn, 1) := by decide +kernel
theorem d_Sp_leastStuck_34 : decode b_Sp_leastStuck 34 = .ok (.iinc 2 1, 3) := by decide +kernel
theorem d_Sp_leastStuck_37 : decode b_Sp_leastStuck 37 = .ok (.goto (-35), 3) := by decide +kernel
theorem d_Sp_leastStuck_40 : decode b_Sp_leastStuck 40 = .ok (.bipush (-2), 2) := by decide +kernel
theorem d_Sp_leastStuck_42 : decode b_Sp_leastStuck 42 = .ok (.ireturn, 1) := by decide +kernel
theorem d_Sp_stuckStates_0 : decode b_Sp_stuckStates 0 = .ok (.iconst 0, 1) := by decide +kernel
theorem d_Sp_stuckStates_1 : decode b_Sp_stuckStates 1 = .ok (.istore_n 2, 1) := by decide +kernel
theorem d_Sp_stuckStates_2 : decode b_Sp_stuckStates 2 = .ok (.iconst 0, 1) := by decide +kernel
theorem d_Sp_stuckStates_3 : decode b_Sp_stuckStates 3 = .ok (.istore_n 3, 1) := by decide +kernel
theorem d_Sp_stuckStates_4 : decode b_Sp_stuckStates 4 = .ok (.iload_n 3, 1) := by decide +kernel
theorem d_Sp_stuckStates_5 : decode b_Sp_stuckStates 5 = .ok (.aload_n 0, 1) := by decide +kernel
theorem d_Sp_stuckStates_6 : decode b_Sp_stuckStates 6 = .ok (.getfield 39, 3) := by decide +kernel
theorem d_Sp_stuckStates_9 : decode b_Sp_stuckStates 9 = .ok (.if_icmp .ge 37, 3) := by decide +kernel
theorem d_Sp_stuckStates_12 : decode b_Sp_stuckStates 12 = .ok (.aload_n 0, 1) := by decide +kernel
theorem d_Sp_stuckStates_13 : decode b_Sp_stuckStates 13 = .ok (.getfield 24, 3) := by decide +kernel
theorem d_Sp_stuckStates_16 : decode b_Sp_stuckStates 16 = .ok (.iload_n 3, 1) := by decide +kernel
theorem d_Sp_stuckStates_17 : decode b_Sp_stuckStates 17 = .ok (.iaload, 1) := by decide +kernel
theorem d_Sp_stuckStates_18 : decode b_Sp_stuckStates 18 = .ok (.ifCond .ne 22, 3) := by decide +kernel
theorem d_Sp_stuckStates_21 : decode b_Sp_stuckStates 21 = .ok (.iload_n 1, 1) := by decide +kernel
theorem d_Sp_stuckStates_22 : decode b_Sp_stuckStates 22 = .ok (.ifCond .eq 15, 3) := by decide +kernel
theorem d_Sp_stuckStates_25 : decode b_Sp_stuckStates 25 = .ok (.aload_n 0, 1) := by decide +kernel
theorem d_Sp_stuckStates_26 : decode b_Sp_stuckStates 26 = .ok (.getfield 9, 3) := by decide +kernel
theorem d_Sp_stuckStates_29 : decode b_Sp_stuckStates 29 = .ok (.iload_n 3, 1) := by decide +kernel
theorem d_Sp_stuckStates_30 : decode b_Sp_stuckStates 30 = .ok (.iaload, 1) := by decide +kernel
theorem d_Sp_stuckStates_31 : decode b_Sp_stuckStates 31 = .ok (.invokestatic 107, 3) := by decide +kernel
theorem d_Sp_stuckStates_34 : decode b_Sp_stuckStates 34 = .ok (.ifCond .eq 6, 3) := by decide +kernel
theorem d_Sp_stuckStates_37 : decode b_Sp_stuckStates 37 = .ok (.iinc 2 1, 3) := by decide +kernel
theorem d_Sp_stuckStates_40 : decode b_Sp_stuckStates 40 = .ok (.iinc 3 1, 3) := by decide +kernel
theorem d_Sp_stuckStates_43 : decode b_Sp_stuckStates 43 = .ok (.goto (-39), 3) := by decide +kernel
theorem d_Sp_stuckStates_46 : decode b_Sp_stuckStates 46 = .ok (.iload_n 2, 1) := by decide +kernel
theorem d_Sp_stuckStates_47 : decode b_Sp_stuckStates 47 = .ok (.ireturn, 1) := by decide +kernel
theorem d_Ar_fill_0 : decode b_Ar_fill 0 = .ok (.iconst 0, 1) := by decide +kernel
theorem d_Ar_fill_1 : decode b_Ar_fill 1 = .ok (.istore_n 2, 1) := by decide +kernel
theorem d_Ar_fill_2 : decode b_Ar_fill 2 = .ok (.aload_n 0, 1) := by decide +kernel
theorem d_Ar_fill_3 : decode b_Ar_fill 3 = .ok (.arraylength, 1) := by decide +kernel
theorem d_Ar_fill_4 : decode b_Ar_fill 4 = .ok (.istore_n 3, 1) := by decide +kernel
theorem d_Ar_fill_5 : decode b_Ar_fill 5 = .ok (.iload_n 2, 1) := by decide +kernel
theorem d_Ar_fill_6 : decode b_Ar_fill 6 = .ok (.iload_n 3, 1) := by decide +kernel
theorem d_Ar_fill_7 : decode b_Ar_fill 7 = .ok (.if_icmp .ge 13, 3) := by decide +kernel
theorem d_Ar_fill_10 : decode b_Ar_fill 10 = .ok (.aload_n 0, 1) := by decide +kernel
theorem d_Ar_fill_11 : decode b_Ar_fill 11 = .ok (.iload_n 2, 1) := by decide +kernel
theorem d_Ar_fill_12 : decode b_Ar_fill 12 = .ok (.iload_n 1, 1) := by decide +kernel
theorem d_Ar_fill_13 : decode b_Ar_fill 13 = .ok (.iastore, 1) := by decide +kernel
theorem d_Ar_fill_14 : decode b_Ar_fill 14 = .ok (.iinc 2 1, 3) := by decide +kernel
theorem d_Ar_fill_17 : decode b_Ar_fill 17 = .ok (.goto (-12), 3) := by decide +kernel
theorem d_Ar_fill_20 : decode b_Ar_fill 20 = .ok (.return_, 1) := by decide +kernel
