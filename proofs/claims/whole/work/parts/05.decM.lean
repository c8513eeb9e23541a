theorem d_Mo_init_0 : decode b_Mo_init 0 = .ok (.aload_n 0, 1) := by decide +kernel
theorem d_Mo_init_1 : decode b_Mo_init 1 = .ok (.invokespecial 1, 3) := by decide +kernel
theorem d_Mo_init_4 : decode b_Mo_init 4 = .ok (.aload_n 0, 1) := by decide +kernel
theorem d_Mo_init_5 : decode b_Mo_init 5 = .ok (.bipush 24, 2) := by decide +kernel
theorem d_Mo_init_7 : decode b_Mo_init 7 = .ok (.newarray .int, 2) := by decide +kernel
theorem d_Mo_init_9 : decode b_Mo_init 9 = .ok (.putfield 7, 3) := by decide +kernel
theorem d_Mo_init_12 : decode b_Mo_init 12 = .ok (.aload_n 0, 1) := by decide +kernel
theorem d_Mo_init_13 : decode b_Mo_init 13 = .ok (.bipush 24, 2) := by decide +kernel
theorem d_Mo_init_15 : decode b_Mo_init 15 = .ok (.newarray .int, 2) := by decide +kernel
theorem d_Mo_init_17 : decode b_Mo_init 17 = .ok (.putfield 13, 3) := by decide +kernel
theorem d_Mo_init_20 : decode b_Mo_init 20 = .ok (.aload_n 0, 1) := by decide +kernel
theorem d_Mo_init_21 : decode b_Mo_init 21 = .ok (.bipush 24, 2) := by decide +kernel
theorem d_Mo_init_23 : decode b_Mo_init 23 = .ok (.newarray .int, 2) := by decide +kernel
theorem d_Mo_init_25 : decode b_Mo_init 25 = .ok (.putfield 16, 3) := by decide +kernel
theorem d_Mo_init_28 : decode b_Mo_init 28 = .ok (.aload_n 0, 1) := by decide +kernel
theorem d_Mo_init_29 : decode b_Mo_init 29 = .ok (.bipush 24, 2) := by decide +kernel
theorem d_Mo_init_31 : decode b_Mo_init 31 = .ok (.newarray .int, 2) := by decide +kernel
theorem d_Mo_init_33 : decode b_Mo_init 33 = .ok (.putfield 19, 3) := by decide +kernel
theorem d_Mo_init_36 : decode b_Mo_init 36 = .ok (.aload_n 0, 1) := by decide +kernel
theorem d_Mo_init_37 : decode b_Mo_init 37 = .ok (.bipush 6, 2) := by decide +kernel
theorem d_Mo_init_39 : decode b_Mo_init 39 = .ok (.newarray .int, 2) := by decide +kernel
theorem d_Mo_init_41 : decode b_Mo_init 41 = .ok (.putfield 22, 3) := by decide +kernel
theorem d_Mo_init_44 : decode b_Mo_init 44 = .ok (.aload_n 0, 1) := by decide +kernel
theorem d_Mo_init_45 : decode b_Mo_init 45 = .ok (.bipush 6, 2) := by decide +kernel
theorem d_Mo_init_47 : decode b_Mo_init 47 = .ok (.newarray .int, 2) := by decide +kernel
theorem d_Mo_init_49 : decode b_Mo_init 49 = .ok (.putfield 25, 3) := by decide +kernel
theorem d_Mo_init_52 : decode b_Mo_init 52 = .ok (.aload_n 0, 1) := by decide +kernel
theorem d_Mo_init_53 : decode b_Mo_init 53 = .ok (.bipush 6, 2) := by decide +kernel
theorem d_Mo_init_55 : decode b_Mo_init 55 = .ok (.newarray .int, 2) := by decide +kernel
theorem d_Mo_init_57 : decode b_Mo_init 57 = .ok (.putfield 28, 3) := by decide +kernel
theorem d_Mo_init_60 : decode b_Mo_init 60 = .ok (.aload_n 0, 1) := by decide +kernel
theorem d_Mo_init_61 : decode b_Mo_init 61 = .ok (.sipush 301, 3) := by decide +kernel
theorem d_Mo_init_64 : decode b_Mo_init 64 = .ok (.newarray .int, 2) := by decide +kernel
theorem d_Mo_init_66 : decode b_Mo_init 66 = .ok (.putfield 31, 3) := by decide +kernel
theorem d_Mo_init_69 : decode b_Mo_init 69 = .ok (.aload_n 0, 1) := by decide +kernel
theorem d_Mo_init_70 : decode b_Mo_init 70 = .ok (.sipush 301, 3) := by decide +kernel
theorem d_Mo_init_73 : decode b_Mo_init 73 = .ok (.newarray .int, 2) := by decide +kernel
theorem d_Mo_init_75 : decode b_Mo_init 75 = .ok (.putfield 34, 3) := by decide +kernel
theorem d_Mo_init_78 : decode b_Mo_init 78 = .ok (.aload_n 0, 1) := by decide +kernel
theorem d_Mo_init_79 : decode b_Mo_init 79 = .ok (.sipush 301, 3) := by decide +kernel
theorem d_Mo_init_82 : decode b_Mo_init 82 = .ok (.newarray .int, 2) := by decide +kernel
theorem d_Mo_init_84 : decode b_Mo_init 84 = .ok (.putfield 37, 3) := by decide +kernel
theorem d_Mo_init_87 : decode b_Mo_init 87 = .ok (.aload_n 0, 1) := by decide +kernel
theorem d_Mo_init_88 : decode b_Mo_init 88 = .ok (.sipush 301, 3) := by decide +kernel
theorem d_Mo_init_91 : decode b_Mo_init 91 = .ok (.newarray .int, 2) := by decide +kernel
theorem d_Mo_init_93 : decode b_Mo_init 93 = .ok (.putfield 40, 3) := by decide +kernel
theorem d_Mo_init_96 : decode b_Mo_init 96 = .ok (.aload_n 0, 1) := by decide +kernel
theorem d_Mo_init_97 : decode b_Mo_init 97 = .ok (.sipush 300, 3) := by decide +kernel
theorem d_Mo_init_100 : decode b_Mo_init 100 = .ok (.newarray .boolean, 2) := by decide +kernel
theorem d_Mo_init_102 : decode b_Mo_init 102 = .ok (.putfield 43, 3) := by decide +kernel
theorem d_Mo_init_105 : decode b_Mo_init 105 = .ok (.aload_n 0, 1) := by decide +kernel
theorem d_Mo_init_106 : decode b_Mo_init 106 = .ok (.aload_n 0, 1) := by decide +kernel
theorem d_Mo_init_107 : decode b_Mo_init 107 = .ok (.invokevirtual 47, 3) := by decide +kernel
theorem d_Mo_init_110 : decode b_Mo_init 110 = .ok (.putfield 50, 3) := by decide +kernel
theorem d_Mo_init_113 : decode b_Mo_init 113 = .ok (.return_, 1) := by decide +kernel
theorem d_Mo_in_0 : decode b_Mo_in 0 = .ok (.iload_n 0, 1) := by decide +kernel
theorem d_Mo_in_1 : decode b_Mo_in 1 = .ok (.iload_n 1, 1) := by decide +kernel
theorem d_Mo_in_2 : decode b_Mo_in 2 = .ok (.if_icmp .lt 12, 3) := by decide +kernel
theorem d_Mo_in_5 : decode b_Mo_in 5 = .ok (.iload_n 0, 1) := by decide +kernel
theorem d_Mo_in_6 : decode b_Mo_in 6 = .ok (.iload_n 2, 1) := by decide +kernel
theorem d_Mo_in_7 : decode b_Mo_in 7 = .ok (.if_icmp .gt 7, 3) := by decide +kernel
theorem d_Mo_in_10 : decode b_Mo_in 10 = .ok (.iconst 1, 1) := by decide +kernel
theorem d_Mo_in_11 : decode b_Mo_in 11 = .ok (.goto 4, 3) := by decide +kernel
theorem d_Mo_in_14 : decode b_Mo_in 14 = .ok (.iconst 0, 1) := by decide +kernel
theorem d_Mo_in_15 : decode b_Mo_in 15 = .ok (.ireturn, 1) := by decide +kernel
theorem d_Mo_first_0 : decode b_Mo_first 0 = .ok (.aload_n 0, 1) := by decide +kernel
theorem d_Mo_first_1 : decode b_Mo_first 1 = .ok (.getfield 54, 3) := by decide +kernel
theorem d_Mo_first_4 : decode b_Mo_first 4 = .ok (.bipush 9, 2) := by decide +kernel
theorem d_Mo_first_6 : decode b_Mo_first 6 = .ok (.ishl, 1) := by decide +kernel
theorem d_Mo_first_7 : decode b_Mo_first 7 = .ok (.ireturn, 1) := by decide +kernel
theorem d_Mo_placeOf_0 : decode b_Mo_placeOf 0 = .ok (.iload_n 0, 1) := by decide +kernel
theorem d_Mo_placeOf_1 : decode b_Mo_placeOf 1 = .ok (.iconst 3, 1) := by decide +kernel
theorem d_Mo_placeOf_2 : decode b_Mo_placeOf 2 = .ok (.iload_n 1, 1) := by decide +kernel
theorem d_Mo_placeOf_3 : decode b_Mo_placeOf 3 = .ok (.imul, 1) := by decide +kernel
theorem d_Mo_placeOf_4 : decode b_Mo_placeOf 4 = .ok (.ishr, 1) := by decide +kernel
theorem d_Mo_placeOf_5 : decode b_Mo_placeOf 5 = .ok (.bipush 7, 2) := by decide +kernel
theorem d_Mo_placeOf_7 : decode b_Mo_placeOf 7 = .ok (.iand, 1) := by decide +kernel
theorem d_Mo_placeOf_8 : decode b_Mo_placeOf 8 = .ok (.ireturn, 1) := by decide +kernel
theorem d_Mo_valueOf_0 : decode b_Mo_valueOf 0 = .ok (.iload_n 0, 1) := by decide +kernel
theorem d_Mo_valueOf_1 : decode b_Mo_valueOf 1 = .ok (.bipush 9, 2) := by decide +kernel
theorem d_Mo_valueOf_3 : decode b_Mo_valueOf 3 = .ok (.iconst 2, 1) := by decide +kernel
theorem d_Mo_valueOf_4 : decode b_Mo_valueOf 4 = .ok (.iload_n 1, 1) := by decide +kernel
theorem d_Mo_valueOf_5 : decode b_Mo_valueOf 5 = .ok (.imul, 1) := by decide +kernel
theorem d_Mo_valueOf_6 : decode b_Mo_valueOf 6 = .ok (.iadd, 1) := by decide +kernel
theorem d_Mo_valueOf_7 : decode b_Mo_valueOf 7 = .ok (.ishr, 1) := by decide +kernel
theorem d_Mo_valueOf_8 : decode b_Mo_valueOf 8 = .ok (.iconst 3, 1) := by decide +kernel
theorem d_Mo_valueOf_9 : decode b_Mo_valueOf 9 = .ok (.iand, 1) := by decide +kernel
theorem d_Mo_valueOf_10 : decode b_Mo_valueOf 10 = .ok (.ireturn, 1) := by decide +kernel
theorem d_Mo_sent_0 : decode b_Mo_sent 0 = .ok (.iload_n 0, 1) := by decide +kernel
theorem d_Mo_sent_1 : decode b_Mo_sent 1 = .ok (.bipush 17, 2) := by decide +kernel
theorem d_Mo_sent_3 : decode b_Mo_sent 3 = .ok (.ishr, 1) := by decide +kernel
theorem d_Mo_sent_4 : decode b_Mo_sent 4 = .ok (.iconst 3, 1) := by decide +kernel
theorem d_Mo_sent_5 : decode b_Mo_sent 5 = .ok (.iand, 1) := by decide +kernel
theorem d_Mo_sent_6 : decode b_Mo_sent 6 = .ok (.ireturn, 1) := by decide +kernel
theorem d_Mo_inChannel_0 : decode b_Mo_inChannel 0 = .ok (.iload_n 0, 1) := by decide +kernel
theorem d_Mo_inChannel_1 : decode b_Mo_inChannel 1 = .ok (.bipush 19, 2) := by decide +kernel
theorem d_Mo_inChannel_3 : decode b_Mo_inChannel 3 = .ok (.iconst 2, 1) := by decide +kernel
theorem d_Mo_inChannel_4 : decode b_Mo_inChannel 4 = .ok (.iload_n 1, 1) := by decide +kernel
theorem d_Mo_inChannel_5 : decode b_Mo_inChannel 5 = .ok (.imul, 1) := by decide +kernel
theorem d_Mo_inChannel_6 : decode b_Mo_inChannel 6 = .ok (.iadd, 1) := by decide +kernel
theorem d_Mo_inChannel_7 : decode b_Mo_inChannel 7 = .ok (.ishr, 1) := by decide +kernel
theorem d_Mo_inChannel_8 : decode b_Mo_inChannel 8 = .ok (.iconst 3, 1) := by decide +kernel
theorem d_Mo_inChannel_9 : decode b_Mo_inChannel 9 = .ok (.iand, 1) := by decide +kernel
theorem d_Mo_inChannel_10 : decode b_Mo_inChannel 10 = .ok (.ireturn, 1) := by decide +kernel
theorem d_Mo_with_0 : decode b_Mo_with 0 = .ok (.iload_n 0, 1) := by decide +kernel
theorem d_Mo_with_1 : decode b_Mo_with 1 = .ok (.iconst 3, 1) := by decide +kernel
theorem d_Mo_with_2 : decode b_Mo_with 2 = .ok (.bipush 9, 2) := by decide +kernel
theorem d_Mo_with_4 : decode b_Mo_with 4 = .ok (.iconst 2, 1) := by decide +kernel
theorem d_Mo_with_5 : decode b_Mo_with 5 = .ok (.iload_n 1, 1) := by decide +kernel
theorem d_Mo_with_6 : decode b_Mo_with 6 = .ok (.imul, 1) := by decide +kernel
theorem d_Mo_with_7 : decode b_Mo_with 7 = .ok (.iadd, 1) := by decide +kernel
theorem d_Mo_with_8 : decode b_Mo_with 8 = .ok (.ishl, 1) := by decide +kernel
theorem d_Mo_with_9 : decode b_Mo_with 9 = .ok (.iconst (-1), 1) := by decide +kernel
theorem d_Mo_with_10 : decode b_Mo_with 10 = .ok (.ixor, 1) := by decide +kernel
theorem d_Mo_with_11 : decode b_Mo_with 11 = .ok (.iand, 1) := by decide +kernel
theorem d_Mo_with_12 : decode b_Mo_with 12 = .ok (.iload_n 2, 1) := by decide +kernel
theorem d_Mo_with_13 : decode b_Mo_with 13 = .ok (.bipush 9, 2) := by decide +kernel
theorem d_Mo_with_15 : decode b_Mo_with 15 = .ok (.iconst 2, 1) := by decide +kernel
theorem d_Mo_with_16 : decode b_Mo_with 16 = .ok (.iload_n 1, 1) := by decide +kernel
theorem d_Mo_with_17 : decode b_Mo_with 17 = .ok (.imul, 1) := by decide +kernel
theorem d_Mo_with_18 : decode b_Mo_with 18 = .ok (.iadd, 1) := by decide +kernel
theorem d_Mo_with_19 : decode b_Mo_with 19 = .ok (.ishl, 1) := by decide +kernel
theorem d_Mo_with_20 : decode b_Mo_with 20 = .ok (.ior, 1) := by decide +kernel
theorem d_Mo_with_21 : decode b_Mo_with 21 = .ok (.ireturn, 1) := by decide +kernel
theorem d_Mo_isOpen_0 : decode b_Mo_isOpen 0 = .ok (.aload_n 0, 1) := by decide +kernel
theorem d_Mo_isOpen_1 : decode b_Mo_isOpen 1 = .ok (.getfield 19, 3) := by decide +kernel
theorem d_Mo_isOpen_4 : decode b_Mo_isOpen 4 = .ok (.iload_n 2, 1) := by decide +kernel
theorem d_Mo_isOpen_5 : decode b_Mo_isOpen 5 = .ok (.iaload, 1) := by decide +kernel
theorem d_Mo_isOpen_6 : decode b_Mo_isOpen 6 = .ok (.bipush 16, 2) := by decide +kernel
theorem d_Mo_isOpen_8 : decode b_Mo_isOpen 8 = .ok (.idiv, 1) := by decide +kernel
theorem d_Mo_isOpen_9 : decode b_Mo_isOpen 9 = .ok (.istore_n 3, 1) := by decide +kernel
theorem d_Mo_isOpen_10 : decode b_Mo_isOpen 10 = .ok (.aload_n 0, 1) := by decide +kernel
theorem d_Mo_isOpen_11 : decode b_Mo_isOpen 11 = .ok (.getfield 19, 3) := by decide +kernel
theorem d_Mo_isOpen_14 : decode b_Mo_isOpen 14 = .ok (.iload_n 2, 1) := by decide +kernel
theorem d_Mo_isOpen_15 : decode b_Mo_isOpen 15 = .ok (.iaload, 1) := by decide +kernel
theorem d_Mo_isOpen_16 : decode b_Mo_isOpen 16 = .ok (.iconst 4, 1) := by decide +kernel
theorem d_Mo_isOpen_17 : decode b_Mo_isOpen 17 = .ok (.idiv, 1) := by decide +kernel
theorem d_Mo_isOpen_18 : decode b_Mo_isOpen 18 = .ok (.iconst 4, 1) := by decide +kernel
theorem d_Mo_isOpen_19 : decode b_Mo_isOpen 19 = .ok (.irem, 1) := by decide +kernel
theorem d_Mo_isOpen_20 : decode b_Mo_isOpen 20 = .ok (.istore 4, 2) := by decide +kernel
theorem d_Mo_isOpen_22 : decode b_Mo_isOpen 22 = .ok (.aload_n 0, 1) := by decide +kernel
theorem d_Mo_isOpen_23 : decode b_Mo_isOpen 23 = .ok (.getfield 19, 3) := by decide +kernel
theorem d_Mo_isOpen_26 : decode b_Mo_isOpen 26 = .ok (.iload_n 2, 1) := by decide +kernel
theorem d_Mo_isOpen_27 : decode b_Mo_isOpen 27 = .ok (.iaload, 1) := by decide +kernel
theorem d_Mo_isOpen_28 : decode b_Mo_isOpen 28 = .ok (.iconst 4, 1) := by decide +kernel
theorem d_Mo_isOpen_29 : decode b_Mo_isOpen 29 = .ok (.irem, 1) := by decide +kernel
theorem d_Mo_isOpen_30 : decode b_Mo_isOpen 30 = .ok (.istore 5, 2) := by decide +kernel
theorem d_Mo_isOpen_32 : decode b_Mo_isOpen 32 = .ok (.iload_n 1, 1) := by decide +kernel
theorem d_Mo_isOpen_33 : decode b_Mo_isOpen 33 = .ok (.aload_n 0, 1) := by decide +kernel
theorem d_Mo_isOpen_34 : decode b_Mo_isOpen 34 = .ok (.getfield 7, 3) := by decide +kernel
theorem d_Mo_isOpen_37 : decode b_Mo_isOpen 37 = .ok (.iload_n 2, 1) := by decide +kernel
theorem d_Mo_isOpen_38 : decode b_Mo_isOpen 38 = .ok (.iaload, 1) := by decide +kernel
theorem d_Mo_isOpen_39 : decode b_Mo_isOpen 39 = .ok (.invokestatic 57, 3) := by decide +kernel
theorem d_Mo_isOpen_42 : decode b_Mo_isOpen 42 = .ok (.aload_n 0, 1) := by decide +kernel
theorem d_Mo_isOpen_43 : decode b_Mo_isOpen 43 = .ok (.getfield 13, 3) := by decide +kernel
theorem d_Mo_isOpen_46 : decode b_Mo_isOpen 46 = .ok (.iload_n 2, 1) := by decide +kernel
theorem d_Mo_isOpen_47 : decode b_Mo_isOpen 47 = .ok (.iaload, 1) := by decide +kernel
theorem d_Mo_isOpen_48 : decode b_Mo_isOpen 48 = .ok (.if_icmp .eq 5, 3) := by decide +kernel
theorem d_Mo_isOpen_51 : decode b_Mo_isOpen 51 = .ok (.iconst 0, 1) := by decide +kernel
theorem d_Mo_isOpen_52 : decode b_Mo_isOpen 52 = .ok (.ireturn, 1) := by decide +kernel
theorem d_Mo_isOpen_53 : decode b_Mo_isOpen 53 = .ok (.iload_n 3, 1) := by decide +kernel
theorem d_Mo_isOpen_54 : decode b_Mo_isOpen 54 = .ok (.iconst 1, 1) := by decide +kernel
theorem d_Mo_isOpen_55 : decode b_Mo_isOpen 55 = .ok (.if_icmp .eq 8, 3) := by decide +kernel
theorem d_Mo_isOpen_58 : decode b_Mo_isOpen 58 = .ok (.iload_n 3, 1) := by decide +kernel
theorem d_Mo_isOpen_59 : decode b_Mo_isOpen 59 = .ok (.iconst 2, 1) := by decide +kernel
theorem d_Mo_isOpen_60 : decode b_Mo_isOpen 60 = .ok (.if_icmp .ne 38, 3) := by decide +kernel
theorem d_Mo_isOpen_63 : decode b_Mo_isOpen 63 = .ok (.iload_n 1, 1) := by decide +kernel
theorem d_Mo_isOpen_64 : decode b_Mo_isOpen 64 = .ok (.iload 4, 2) := by decide +kernel
theorem d_Mo_isOpen_66 : decode b_Mo_isOpen 66 = .ok (.invokestatic 61, 3) := by decide +kernel
theorem d_Mo_isOpen_69 : decode b_Mo_isOpen 69 = .ok (.iload 5, 2) := by decide +kernel
theorem d_Mo_isOpen_71 : decode b_Mo_isOpen 71 = .ok (.if_icmp .ne 7, 3) := by decide +kernel
theorem d_Mo_isOpen_74 : decode b_Mo_isOpen 74 = .ok (.iconst 1, 1) := by decide +kernel
theorem d_Mo_isOpen_75 : decode b_Mo_isOpen 75 = .ok (.goto 4, 3) := by decide +kernel
theorem d_Mo_isOpen_78 : decode b_Mo_isOpen 78 = .ok (.iconst 0, 1) := by decide +kernel
theorem d_Mo_isOpen_79 : decode b_Mo_isOpen 79 = .ok (.iload_n 3, 1) := by decide +kernel
theorem d_Mo_isOpen_80 : decode b_Mo_isOpen 80 = .ok (.iconst 1, 1) := by decide +kernel
theorem d_Mo_isOpen_81 : decode b_Mo_isOpen 81 = .ok (.if_icmp .ne 7, 3) := by decide +kernel
theorem d_Mo_isOpen_84 : decode b_Mo_isOpen 84 = .ok (.iconst 1, 1) := by decide +kernel
theorem d_Mo_isOpen_85 : decode b_Mo_isOpen 85 = .ok (.goto 4, 3) := by decide +kernel
theorem d_Mo_isOpen_88 : decode b_Mo_isOpen 88 = .ok (.iconst 0, 1) := by decide +kernel
theorem d_Mo_isOpen_89 : decode b_Mo_isOpen 89 = .ok (.if_icmp .ne 7, 3) := by decide +kernel
theorem d_Mo_isOpen_92 : decode b_Mo_isOpen 92 = .ok (.iconst 1, 1) := by decide +kernel
theorem d_Mo_isOpen_93 : decode b_Mo_isOpen 93 = .ok (.goto 4, 3) := by decide +kernel
theorem d_Mo_isOpen_96 : decode b_Mo_isOpen 96 = .ok (.iconst 0, 1) := by decide +kernel
theorem d_Mo_isOpen_97 : decode b_Mo_isOpen 97 = .ok (.ireturn, 1) := by decide +kernel
theorem d_Mo_isOpen_98 : decode b_Mo_isOpen 98 = .ok (.iload_n 3, 1) := by decide +kernel
theorem d_Mo_isOpen_99 : decode b_Mo_isOpen 99 = .ok (.bipush 6, 2) := by decide +kernel
theorem d_Mo_isOpen_101 : decode b_Mo_isOpen 101 = .ok (.if_icmp .lt 27, 3) := by decide +kernel
theorem d_Mo_isOpen_104 : decode b_Mo_isOpen 104 = .ok (.iload_n 3, 1) := by decide +kernel
theorem d_Mo_isOpen_105 : decode b_Mo_isOpen 105 = .ok (.bipush 6, 2) := by decide +kernel
theorem d_Mo_isOpen_107 : decode b_Mo_isOpen 107 = .ok (.if_icmp .ne 14, 3) := by decide +kernel
theorem d_Mo_isOpen_110 : decode b_Mo_isOpen 110 = .ok (.iload_n 1, 1) := by decide +kernel
theorem d_Mo_isOpen_111 : decode b_Mo_isOpen 111 = .ok (.invokestatic 64, 3) := by decide +kernel
theorem d_Mo_isOpen_114 : decode b_Mo_isOpen 114 = .ok (.iconst 2, 1) := by decide +kernel
theorem d_Mo_isOpen_115 : decode b_Mo_isOpen 115 = .ok (.if_icmp .ge 17, 3) := by decide +kernel
theorem d_Mo_isOpen_118 : decode b_Mo_isOpen 118 = .ok (.goto 10, 3) := by decide +kernel
theorem d_Mo_isOpen_121 : decode b_Mo_isOpen 121 = .ok (.iload_n 1, 1) := by decide +kernel
theorem d_Mo_isOpen_122 : decode b_Mo_isOpen 122 = .ok (.invokestatic 64, 3) := by decide +kernel
theorem d_Mo_isOpen_125 : decode b_Mo_isOpen 125 = .ok (.ifCond .le 7, 3) := by decide +kernel
theorem d_Mo_isOpen_128 : decode b_Mo_isOpen 128 = .ok (.iconst 1, 1) := by decide +kernel
theorem d_Mo_isOpen_129 : decode b_Mo_isOpen 129 = .ok (.goto 4, 3) := by decide +kernel
theorem d_Mo_isOpen_132 : decode b_Mo_isOpen 132 = .ok (.iconst 0, 1) := by decide +kernel
theorem d_Mo_isOpen_133 : decode b_Mo_isOpen 133 = .ok (.ireturn, 1) := by decide +kernel
theorem d_Mo_leads_0 : decode b_Mo_leads 0 = .ok (.aload_n 0, 1) := by decide +kernel
theorem d_Mo_leads_1 : decode b_Mo_leads 1 = .ok (.getfield 19, 3) := by decide +kernel
theorem d_Mo_leads_4 : decode b_Mo_leads 4 = .ok (.iload_n 2, 1) := by decide +kernel
theorem d_Mo_leads_5 : decode b_Mo_leads 5 = .ok (.iaload, 1) := by decide +kernel
theorem d_Mo_leads_6 : decode b_Mo_leads 6 = .ok (.bipush 16, 2) := by decide +kernel
theorem d_Mo_leads_8 : decode b_Mo_leads 8 = .ok (.idiv, 1) := by decide +kernel
theorem d_Mo_leads_9 : decode b_Mo_leads 9 = .ok (.istore_n 3, 1) := by decide +kernel
theorem d_Mo_leads_10 : decode b_Mo_leads 10 = .ok (.aload_n 0, 1) := by decide +kernel
theorem d_Mo_leads_11 : decode b_Mo_leads 11 = .ok (.getfield 19, 3) := by decide +kernel
theorem d_Mo_leads_14 : decode b_Mo_leads 14 = .ok (.iload_n 2, 1) := by decide +kernel
theorem d_Mo_leads_15 : decode b_Mo_leads 15 = .ok (.iaload, 1) := by decide +kernel
theorem d_Mo_leads_16 : decode b_Mo_leads 16 = .ok (.iconst 4, 1) := by decide +kernel
theorem d_Mo_leads_17 : decode b_Mo_leads 17 = .ok (.idiv, 1) := by decide +kernel
theorem d_Mo_leads_18 : decode b_Mo_leads 18 = .ok (.iconst 4, 1) := by decide +kernel
theorem d_Mo_leads_19 : decode b_Mo_leads 19 = .ok (.irem, 1) := by decide +kernel
theorem d_Mo_leads_20 : decode b_Mo_leads 20 = .ok (.istore 4, 2) := by decide +kernel
theorem d_Mo_leads_22 : decode b_Mo_leads 22 = .ok (.aload_n 0, 1) := by decide +kernel
theorem d_Mo_leads_23 : decode b_Mo_leads 23 = .ok (.getfield 19, 3) := by decide +kernel
theorem d_Mo_leads_26 : decode b_Mo_leads 26 = .ok (.iload_n 2, 1) := by decide +kernel
theorem d_Mo_leads_27 : decode b_Mo_leads 27 = .ok (.iaload, 1) := by decide +kernel
theorem d_Mo_leads_28 : decode b_Mo_leads 28 = .ok (.iconst 4, 1) := by decide +kernel
theorem d_Mo_leads_29 : decode b_Mo_leads 29 = .ok (.irem, 1) := by decide +kernel
theorem d_Mo_leads_30 : decode b_Mo_leads 30 = .ok (.istore 5, 2) := by decide +kernel
theorem d_Mo_leads_32 : decode b_Mo_leads 32 = .ok (.iload_n 1, 1) := by decide +kernel
theorem d_Mo_leads_33 : decode b_Mo_leads 33 = .ok (.bipush 7, 2) := by decide +kernel
theorem d_Mo_leads_35 : decode b_Mo_leads 35 = .ok (.iconst 3, 1) := by decide +kernel
theorem d_Mo_leads_36 : decode b_Mo_leads 36 = .ok (.aload_n 0, 1) := by decide +kernel
theorem d_Mo_leads_37 : decode b_Mo_leads 37 = .ok (.getfield 7, 3) := by decide +kernel
theorem d_Mo_leads_40 : decode b_Mo_leads 40 = .ok (.iload_n 2, 1) := by decide +kernel
theorem d_Mo_leads_41 : decode b_Mo_leads 41 = .ok (.iaload, 1) := by decide +kernel
theorem d_Mo_leads_42 : decode b_Mo_leads 42 = .ok (.imul, 1) := by decide +kernel
theorem d_Mo_leads_43 : decode b_Mo_leads 43 = .ok (.ishl, 1) := by decide +kernel
theorem d_Mo_leads_44 : decode b_Mo_leads 44 = .ok (.iconst (-1), 1) := by decide +kernel
theorem d_Mo_leads_45 : decode b_Mo_leads 45 = .ok (.ixor, 1) := by decide +kernel
theorem d_Mo_leads_46 : decode b_Mo_leads 46 = .ok (.iand, 1) := by decide +kernel
theorem d_Mo_leads_47 : decode b_Mo_leads 47 = .ok (.aload_n 0, 1) := by decide +kernel
theorem d_Mo_leads_48 : decode b_Mo_leads 48 = .ok (.getfield 16, 3) := by decide +kernel
theorem d_Mo_leads_51 : decode b_Mo_leads 51 = .ok (.iload_n 2, 1) := by decide +kernel
theorem d_Mo_leads_52 : decode b_Mo_leads 52 = .ok (.iaload, 1) := by decide +kernel
theorem d_Mo_leads_53 : decode b_Mo_leads 53 = .ok (.iconst 3, 1) := by decide +kernel
theorem d_Mo_leads_54 : decode b_Mo_leads 54 = .ok (.aload_n 0, 1) := by decide +kernel
theorem d_Mo_leads_55 : decode b_Mo_leads 55 = .ok (.getfield 7, 3) := by decide +kernel
theorem d_Mo_leads_58 : decode b_Mo_leads 58 = .ok (.iload_n 2, 1) := by decide +kernel
theorem d_Mo_leads_59 : decode b_Mo_leads 59 = .ok (.iaload, 1) := by decide +kernel
theorem d_Mo_leads_60 : decode b_Mo_leads 60 = .ok (.imul, 1) := by decide +kernel
theorem d_Mo_leads_61 : decode b_Mo_leads 61 = .ok (.ishl, 1) := by decide +kernel
theorem d_Mo_leads_62 : decode b_Mo_leads 62 = .ok (.ior, 1) := by decide +kernel
theorem d_Mo_leads_63 : decode b_Mo_leads 63 = .ok (.istore 6, 2) := by decide +kernel
theorem d_Mo_leads_65 : decode b_Mo_leads 65 = .ok (.iload_n 1, 1) := by decide +kernel
theorem d_Mo_leads_66 : decode b_Mo_leads 66 = .ok (.iload 4, 2) := by decide +kernel
theorem d_Mo_leads_68 : decode b_Mo_leads 68 = .ok (.invokestatic 61, 3) := by decide +kernel
theorem d_Mo_leads_71 : decode b_Mo_leads 71 = .ok (.istore 7, 2) := by decide +kernel
theorem d_Mo_leads_73 : decode b_Mo_leads 73 = .ok (.iload_n 1, 1) := by decide +kernel
theorem d_Mo_leads_74 : decode b_Mo_leads 74 = .ok (.invokestatic 64, 3) := by decide +kernel
theorem d_Mo_leads_77 : decode b_Mo_leads 77 = .ok (.istore 8, 2) := by decide +kernel
theorem d_Mo_leads_79 : decode b_Mo_leads 79 = .ok (.iload_n 3, 1) := by decide +kernel
theorem d_Mo_leads_80 : decode b_Mo_leads 80 = .ok (.tableswitch 139 3 7 #[36, 46, 61, 75, 92], 36) := by decide +kernel
theorem d_Mo_leads_116 : decode b_Mo_leads 116 = .ok (.iload 6, 2) := by decide +kernel
theorem d_Mo_leads_118 : decode b_Mo_leads 118 = .ok (.iload 4, 2) := by decide +kernel
theorem d_Mo_leads_120 : decode b_Mo_leads 120 = .ok (.iload 5, 2) := by decide +kernel
theorem d_Mo_leads_122 : decode b_Mo_leads 122 = .ok (.invokestatic 68, 3) := by decide +kernel
theorem d_Mo_leads_125 : decode b_Mo_leads 125 = .ok (.ireturn, 1) := by decide +kernel
theorem d_Mo_leads_126 : decode b_Mo_leads 126 = .ok (.iload 6, 2) := by decide +kernel
theorem d_Mo_leads_128 : decode b_Mo_leads 128 = .ok (.iload 4, 2) := by decide +kernel
theorem d_Mo_leads_130 : decode b_Mo_leads 130 = .ok (.iload 7, 2) := by decide +kernel
theorem d_Mo_leads_132 : decode b_Mo_leads 132 = .ok (.iload 5, 2) := by decide +kernel
theorem d_Mo_leads_134 : decode b_Mo_leads 134 = .ok (.iadd, 1) := by decide +kernel
theorem d_Mo_leads_135 : decode b_Mo_leads 135 = .ok (.iconst 4, 1) := by decide +kernel
theorem d_Mo_leads_136 : decode b_Mo_leads 136 = .ok (.irem, 1) := by decide +kernel
theorem d_Mo_leads_137 : decode b_Mo_leads 137 = .ok (.invokestatic 68, 3) := by decide +kernel
theorem d_Mo_leads_140 : decode b_Mo_leads 140 = .ok (.ireturn, 1) := by decide +kernel
theorem d_Mo_leads_141 : decode b_Mo_leads 141 = .ok (.iload 6, 2) := by decide +kernel
theorem d_Mo_leads_143 : decode b_Mo_leads 143 = .ok (.iload 4, 2) := by decide +kernel
theorem d_Mo_leads_145 : decode b_Mo_leads 145 = .ok (.iload_n 1, 1) := by decide +kernel
theorem d_Mo_leads_146 : decode b_Mo_leads 146 = .ok (.iload 5, 2) := by decide +kernel
theorem d_Mo_leads_148 : decode b_Mo_leads 148 = .ok (.invokestatic 61, 3) := by decide +kernel
theorem d_Mo_leads_151 : decode b_Mo_leads 151 = .ok (.invokestatic 68, 3) := by decide +kernel
theorem d_Mo_leads_154 : decode b_Mo_leads 154 = .ok (.ireturn, 1) := by decide +kernel
theorem d_Mo_leads_155 : decode b_Mo_leads 155 = .ok (.iload 6, 2) := by decide +kernel
theorem d_Mo_leads_157 : decode b_Mo_leads 157 = .ok (.ldc 72, 2) := by decide +kernel
theorem d_Mo_leads_159 : decode b_Mo_leads 159 = .ok (.iadd, 1) := by decide +kernel
theorem d_Mo_leads_160 : decode b_Mo_leads 160 = .ok (.iload 7, 2) := by decide +kernel
theorem d_Mo_leads_162 : decode b_Mo_leads 162 = .ok (.bipush 19, 2) := by decide +kernel
theorem d_Mo_leads_164 : decode b_Mo_leads 164 = .ok (.iconst 2, 1) := by decide +kernel
theorem d_Mo_leads_165 : decode b_Mo_leads 165 = .ok (.iload 8, 2) := by decide +kernel
theorem d_Mo_leads_167 : decode b_Mo_leads 167 = .ok (.imul, 1) := by decide +kernel
theorem d_Mo_leads_168 : decode b_Mo_leads 168 = .ok (.iadd, 1) := by decide +kernel
theorem d_Mo_leads_169 : decode b_Mo_leads 169 = .ok (.ishl, 1) := by decide +kernel
theorem d_Mo_leads_170 : decode b_Mo_leads 170 = .ok (.ior, 1) := by decide +kernel
theorem d_Mo_leads_171 : decode b_Mo_leads 171 = .ok (.ireturn, 1) := by decide +kernel
theorem d_Mo_leads_172 : decode b_Mo_leads 172 = .ok (.iload 8, 2) := by decide +kernel
theorem d_Mo_leads_174 : decode b_Mo_leads 174 = .ok (.iconst 2, 1) := by decide +kernel
theorem d_Mo_leads_175 : decode b_Mo_leads 175 = .ok (.if_icmp .ne 14, 3) := by decide +kernel
theorem d_Mo_leads_178 : decode b_Mo_leads 178 = .ok (.iload_n 1, 1) := by decide +kernel
theorem d_Mo_leads_179 : decode b_Mo_leads 179 = .ok (.iconst 1, 1) := by decide +kernel
theorem d_Mo_leads_180 : decode b_Mo_leads 180 = .ok (.invokestatic 73, 3) := by decide +kernel
theorem d_Mo_leads_183 : decode b_Mo_leads 183 = .ok (.bipush 19, 2) := by decide +kernel
theorem d_Mo_leads_185 : decode b_Mo_leads 185 = .ok (.ishl, 1) := by decide +kernel
theorem d_Mo_leads_186 : decode b_Mo_leads 186 = .ok (.goto 4, 3) := by decide +kernel
theorem d_Mo_leads_189 : decode b_Mo_leads 189 = .ok (.iconst 0, 1) := by decide +kernel
theorem d_Mo_leads_190 : decode b_Mo_leads 190 = .ok (.istore 9, 2) := by decide +kernel
theorem d_Mo_leads_192 : decode b_Mo_leads 192 = .ok (.iload 6, 2) := by decide +kernel
theorem d_Mo_leads_194 : decode b_Mo_leads 194 = .ok (.iload 4, 2) := by decide +kernel
theorem d_Mo_leads_196 : decode b_Mo_leads 196 = .ok (.iload_n 1, 1) := by decide +kernel
theorem d_Mo_leads_197 : decode b_Mo_leads 197 = .ok (.iconst 0, 1) := by decide +kernel
theorem d_Mo_leads_198 : decode b_Mo_leads 198 = .ok (.invokestatic 73, 3) := by decide +kernel
theorem d_Mo_leads_201 : decode b_Mo_leads 201 = .ok (.invokestatic 68, 3) := by decide +kernel
theorem d_Mo_leads_204 : decode b_Mo_leads 204 = .ok (.ldc 76, 2) := by decide +kernel
theorem d_Mo_leads_206 : decode b_Mo_leads 206 = .ok (.iand, 1) := by decide +kernel
theorem d_Mo_leads_207 : decode b_Mo_leads 207 = .ok (.iload 8, 2) := by decide +kernel
theorem d_Mo_leads_209 : decode b_Mo_leads 209 = .ok (.iconst 1, 1) := by decide +kernel
theorem d_Mo_leads_210 : decode b_Mo_leads 210 = .ok (.isub, 1) := by decide +kernel
theorem d_Mo_leads_211 : decode b_Mo_leads 211 = .ok (.bipush 17, 2) := by decide +kernel
theorem d_Mo_leads_213 : decode b_Mo_leads 213 = .ok (.ishl, 1) := by decide +kernel
theorem d_Mo_leads_214 : decode b_Mo_leads 214 = .ok (.ior, 1) := by decide +kernel
theorem d_Mo_leads_215 : decode b_Mo_leads 215 = .ok (.iload 9, 2) := by decide +kernel
theorem d_Mo_leads_217 : decode b_Mo_leads 217 = .ok (.ior, 1) := by decide +kernel
theorem d_Mo_leads_218 : decode b_Mo_leads 218 = .ok (.ireturn, 1) := by decide +kernel
theorem d_Mo_leads_219 : decode b_Mo_leads 219 = .ok (.iload 6, 2) := by decide +kernel
theorem d_Mo_leads_221 : decode b_Mo_leads 221 = .ok (.ireturn, 1) := by decide +kernel
theorem d_Mo_openIn_0 : decode b_Mo_openIn 0 = .ok (.iconst 0, 1) := by decide +kernel
theorem d_Mo_openIn_1 : decode b_Mo_openIn 1 = .ok (.istore_n 2, 1) := by decide +kernel
theorem d_Mo_openIn_2 : decode b_Mo_openIn 2 = .ok (.iconst 0, 1) := by decide +kernel
theorem d_Mo_openIn_3 : decode b_Mo_openIn 3 = .ok (.istore_n 3, 1) := by decide +kernel
theorem d_Mo_openIn_4 : decode b_Mo_openIn 4 = .ok (.iload_n 3, 1) := by decide +kernel
theorem d_Mo_openIn_5 : decode b_Mo_openIn 5 = .ok (.aload_n 0, 1) := by decide +kernel
theorem d_Mo_openIn_6 : decode b_Mo_openIn 6 = .ok (.getfield 77, 3) := by decide +kernel
theorem d_Mo_openIn_9 : decode b_Mo_openIn 9 = .ok (.if_icmp .ge 21, 3) := by decide +kernel
theorem d_Mo_openIn_12 : decode b_Mo_openIn 12 = .ok (.aload_n 0, 1) := by decide +kernel
theorem d_Mo_openIn_13 : decode b_Mo_openIn 13 = .ok (.iload_n 1, 1) := by decide +kernel
theorem d_Mo_openIn_14 : decode b_Mo_openIn 14 = .ok (.iload_n 3, 1) := by decide +kernel
theorem d_Mo_openIn_15 : decode b_Mo_openIn 15 = .ok (.invokevirtual 80, 3) := by decide +kernel
theorem d_Mo_openIn_18 : decode b_Mo_openIn 18 = .ok (.ifCond .eq 6, 3) := by decide +kernel
theorem d_Mo_openIn_21 : decode b_Mo_openIn 21 = .ok (.iinc 2 1, 3) := by decide +kernel
theorem d_Mo_openIn_24 : decode b_Mo_openIn 24 = .ok (.iinc 3 1, 3) := by decide +kernel
theorem d_Mo_openIn_27 : decode b_Mo_openIn 27 = .ok (.goto (-23), 3) := by decide +kernel
theorem d_Mo_openIn_30 : decode b_Mo_openIn 30 = .ok (.iload_n 2, 1) := by decide +kernel
theorem d_Mo_openIn_31 : decode b_Mo_openIn 31 = .ok (.ireturn, 1) := by decide +kernel
theorem d_Mo_begin_0 : decode b_Mo_begin 0 = .ok (.iload_n 1, 1) := by decide +kernel
theorem d_Mo_begin_1 : decode b_Mo_begin 1 = .ok (.iconst 0, 1) := by decide +kernel
theorem d_Mo_begin_2 : decode b_Mo_begin 2 = .ok (.sipush 255, 3) := by decide +kernel
theorem d_Mo_begin_5 : decode b_Mo_begin 5 = .ok (.invokestatic 84, 3) := by decide +kernel
theorem d_Mo_begin_8 : decode b_Mo_begin 8 = .ok (.ifCond .ne 5, 3) := by decide +kernel
theorem d_Mo_begin_11 : decode b_Mo_begin 11 = .ok (.iconst 0, 1) := by decide +kernel
theorem d_Mo_begin_12 : decode b_Mo_begin 12 = .ok (.ireturn, 1) := by decide +kernel
theorem d_Mo_begin_13 : decode b_Mo_begin 13 = .ok (.aload_n 0, 1) := by decide +kernel
theorem d_Mo_begin_14 : decode b_Mo_begin 14 = .ok (.iload_n 1, 1) := by decide +kernel
theorem d_Mo_begin_15 : decode b_Mo_begin 15 = .ok (.putfield 54, 3) := by decide +kernel
theorem d_Mo_begin_18 : decode b_Mo_begin 18 = .ok (.aload_n 0, 1) := by decide +kernel
theorem d_Mo_begin_19 : decode b_Mo_begin 19 = .ok (.aload_n 0, 1) := by decide +kernel
theorem d_Mo_begin_20 : decode b_Mo_begin 20 = .ok (.invokevirtual 47, 3) := by decide +kernel
theorem d_Mo_begin_23 : decode b_Mo_begin 23 = .ok (.putfield 50, 3) := by decide +kernel
theorem d_Mo_begin_26 : decode b_Mo_begin 26 = .ok (.aload_n 0, 1) := by decide +kernel
theorem d_Mo_begin_27 : decode b_Mo_begin 27 = .ok (.iconst 0, 1) := by decide +kernel
theorem d_Mo_begin_28 : decode b_Mo_begin 28 = .ok (.putfield 88, 3) := by decide +kernel
theorem d_Mo_begin_31 : decode b_Mo_begin 31 = .ok (.aload_n 0, 1) := by decide +kernel
theorem d_Mo_begin_32 : decode b_Mo_begin 32 = .ok (.iconst 0, 1) := by decide +kernel
theorem d_Mo_begin_33 : decode b_Mo_begin 33 = .ok (.putfield 91, 3) := by decide +kernel
theorem d_Mo_begin_36 : decode b_Mo_begin 36 = .ok (.iconst 1, 1) := by decide +kernel
theorem d_Mo_begin_37 : decode b_Mo_begin 37 = .ok (.ireturn, 1) := by decide +kernel
theorem d_Mo_isGood_0 : decode b_Mo_isGood 0 = .ok (.iload_n 0, 1) := by decide +kernel
theorem d_Mo_isGood_1 : decode b_Mo_isGood 1 = .ok (.iconst 0, 1) := by decide +kernel
theorem d_Mo_isGood_2 : decode b_Mo_isGood 2 = .ok (.iconst 2, 1) := by decide +kernel
theorem d_Mo_isGood_3 : decode b_Mo_isGood 3 = .ok (.invokestatic 84, 3) := by decide +kernel
theorem d_Mo_isGood_6 : decode b_Mo_isGood 6 = .ok (.ifCond .eq 37, 3) := by decide +kernel
theorem d_Mo_isGood_9 : decode b_Mo_isGood 9 = .ok (.iload_n 1, 1) := by decide +kernel
theorem d_Mo_isGood_10 : decode b_Mo_isGood 10 = .ok (.iconst 0, 1) := by decide +kernel
theorem d_Mo_isGood_11 : decode b_Mo_isGood 11 = .ok (.bipush 7, 2) := by decide +kernel
theorem d_Mo_isGood_13 : decode b_Mo_isGood 13 = .ok (.invokestatic 84, 3) := by decide +kernel
theorem d_Mo_isGood_16 : decode b_Mo_isGood 16 = .ok (.ifCond .eq 27, 3) := by decide +kernel
theorem d_Mo_isGood_19 : decode b_Mo_isGood 19 = .ok (.iload_n 2, 1) := by decide +kernel
theorem d_Mo_isGood_20 : decode b_Mo_isGood 20 = .ok (.iconst 0, 1) := by decide +kernel
theorem d_Mo_isGood_21 : decode b_Mo_isGood 21 = .ok (.bipush 7, 2) := by decide +kernel
theorem d_Mo_isGood_23 : decode b_Mo_isGood 23 = .ok (.invokestatic 84, 3) := by decide +kernel
theorem d_Mo_isGood_26 : decode b_Mo_isGood 26 = .ok (.ifCond .eq 17, 3) := by decide +kernel
theorem d_Mo_isGood_29 : decode b_Mo_isGood 29 = .ok (.iload_n 3, 1) := by decide +kernel
theorem d_Mo_isGood_30 : decode b_Mo_isGood 30 = .ok (.iconst 0, 1) := by decide +kernel
theorem d_Mo_isGood_31 : decode b_Mo_isGood 31 = .ok (.bipush 127, 2) := by decide +kernel
theorem d_Mo_isGood_33 : decode b_Mo_isGood 33 = .ok (.invokestatic 84, 3) := by decide +kernel
theorem d_Mo_isGood_36 : decode b_Mo_isGood 36 = .ok (.ifCond .eq 7, 3) := by decide +kernel
theorem d_Mo_isGood_39 : decode b_Mo_isGood 39 = .ok (.iconst 1, 1) := by decide +kernel
theorem d_Mo_isGood_40 : decode b_Mo_isGood 40 = .ok (.goto 4, 3) := by decide +kernel
theorem d_Mo_isGood_43 : decode b_Mo_isGood 43 = .ok (.iconst 0, 1) := by decide +kernel
theorem d_Mo_isGood_44 : decode b_Mo_isGood 44 = .ok (.ireturn, 1) := by decide +kernel
theorem d_Mo_set_0 : decode b_Mo_set 0 = .ok (.aload_n 0, 1) := by decide +kernel
theorem d_Mo_set_1 : decode b_Mo_set 1 = .ok (.getfield 7, 3) := by decide +kernel
theorem d_Mo_set_4 : decode b_Mo_set 4 = .ok (.iload_n 1, 1) := by decide +kernel
theorem d_Mo_set_5 : decode b_Mo_set 5 = .ok (.iload_n 2, 1) := by decide +kernel
theorem d_Mo_set_6 : decode b_Mo_set 6 = .ok (.iastore, 1) := by decide +kernel
theorem d_Mo_set_7 : decode b_Mo_set 7 = .ok (.aload_n 0, 1) := by decide +kernel
theorem d_Mo_set_8 : decode b_Mo_set 8 = .ok (.getfield 13, 3) := by decide +kernel
theorem d_Mo_set_11 : decode b_Mo_set 11 = .ok (.iload_n 1, 1) := by decide +kernel
theorem d_Mo_set_12 : decode b_Mo_set 12 = .ok (.iload_n 3, 1) := by decide +kernel
theorem d_Mo_set_13 : decode b_Mo_set 13 = .ok (.iastore, 1) := by decide +kernel
theorem d_Mo_set_14 : decode b_Mo_set 14 = .ok (.aload_n 0, 1) := by decide +kernel
theorem d_Mo_set_15 : decode b_Mo_set 15 = .ok (.getfield 16, 3) := by decide +kernel
theorem d_Mo_set_18 : decode b_Mo_set 18 = .ok (.iload_n 1, 1) := by decide +kernel
theorem d_Mo_set_19 : decode b_Mo_set 19 = .ok (.iload 4, 2) := by decide +kernel
theorem d_Mo_set_21 : decode b_Mo_set 21 = .ok (.iastore, 1) := by decide +kernel
theorem d_Mo_set_22 : decode b_Mo_set 22 = .ok (.aload_n 0, 1) := by decide +kernel
theorem d_Mo_set_23 : decode b_Mo_set 23 = .ok (.getfield 19, 3) := by decide +kernel
theorem d_Mo_set_26 : decode b_Mo_set 26 = .ok (.iload_n 1, 1) := by decide +kernel
theorem d_Mo_set_27 : decode b_Mo_set 27 = .ok (.iload 5, 2) := by decide +kernel
theorem d_Mo_set_29 : decode b_Mo_set 29 = .ok (.iastore, 1) := by decide +kernel
theorem d_Mo_set_30 : decode b_Mo_set 30 = .ok (.aload_n 0, 1) := by decide +kernel
theorem d_Mo_set_31 : decode b_Mo_set 31 = .ok (.iconst 0, 1) := by decide +kernel
theorem d_Mo_set_32 : decode b_Mo_set 32 = .ok (.putfield 91, 3) := by decide +kernel
theorem d_Mo_set_35 : decode b_Mo_set 35 = .ok (.return_, 1) := by decide +kernel
theorem d_Mo_add_0 : decode b_Mo_add 0 = .ok (.iload_n 1, 1) := by decide +kernel
theorem d_Mo_add_1 : decode b_Mo_add 1 = .ok (.iload_n 2, 1) := by decide +kernel
theorem d_Mo_add_2 : decode b_Mo_add 2 = .ok (.iload_n 3, 1) := by decide +kernel
theorem d_Mo_add_3 : decode b_Mo_add 3 = .ok (.iload 4, 2) := by decide +kernel
theorem d_Mo_add_5 : decode b_Mo_add 5 = .ok (.invokestatic 95, 3) := by decide +kernel
theorem d_Mo_add_8 : decode b_Mo_add 8 = .ok (.ifCond .ne 5, 3) := by decide +kernel
theorem d_Mo_add_11 : decode b_Mo_add 11 = .ok (.iconst (-1), 1) := by decide +kernel
theorem d_Mo_add_12 : decode b_Mo_add 12 = .ok (.ireturn, 1) := by decide +kernel
theorem d_Mo_add_13 : decode b_Mo_add 13 = .ok (.aload_n 0, 1) := by decide +kernel
theorem d_Mo_add_14 : decode b_Mo_add 14 = .ok (.getfield 77, 3) := by decide +kernel
theorem d_Mo_add_17 : decode b_Mo_add 17 = .ok (.bipush 24, 2) := by decide +kernel
theorem d_Mo_add_19 : decode b_Mo_add 19 = .ok (.if_icmp .ne 6, 3) := by decide +kernel
theorem d_Mo_add_22 : decode b_Mo_add 22 = .ok (.bipush (-3), 2) := by decide +kernel
theorem d_Mo_add_24 : decode b_Mo_add 24 = .ok (.ireturn, 1) := by decide +kernel
theorem d_Mo_add_25 : decode b_Mo_add 25 = .ok (.aload_n 0, 1) := by decide +kernel
theorem d_Mo_add_26 : decode b_Mo_add 26 = .ok (.aload_n 0, 1) := by decide +kernel
theorem d_Mo_add_27 : decode b_Mo_add 27 = .ok (.getfield 77, 3) := by decide +kernel
theorem d_Mo_add_30 : decode b_Mo_add 30 = .ok (.iload_n 1, 1) := by decide +kernel
theorem d_Mo_add_31 : decode b_Mo_add 31 = .ok (.iload_n 2, 1) := by decide +kernel
theorem d_Mo_add_32 : decode b_Mo_add 32 = .ok (.iload_n 3, 1) := by decide +kernel
theorem d_Mo_add_33 : decode b_Mo_add 33 = .ok (.iload 4, 2) := by decide +kernel
theorem d_Mo_add_35 : decode b_Mo_add 35 = .ok (.invokevirtual 99, 3) := by decide +kernel
theorem d_Mo_add_38 : decode b_Mo_add 38 = .ok (.aload_n 0, 1) := by decide +kernel
theorem d_Mo_add_39 : decode b_Mo_add 39 = .ok (.dup, 1) := by decide +kernel
theorem d_Mo_add_40 : decode b_Mo_add 40 = .ok (.getfield 77, 3) := by decide +kernel
theorem d_Mo_add_43 : decode b_Mo_add 43 = .ok (.iconst 1, 1) := by decide +kernel
theorem d_Mo_add_44 : decode b_Mo_add 44 = .ok (.iadd, 1) := by decide +kernel
theorem d_Mo_add_45 : decode b_Mo_add 45 = .ok (.putfield 77, 3) := by decide +kernel
theorem d_Mo_add_48 : decode b_Mo_add 48 = .ok (.aload_n 0, 1) := by decide +kernel
theorem d_Mo_add_49 : decode b_Mo_add 49 = .ok (.getfield 77, 3) := by decide +kernel
theorem d_Mo_add_52 : decode b_Mo_add 52 = .ok (.iconst 1, 1) := by decide +kernel
theorem d_Mo_add_53 : decode b_Mo_add 53 = .ok (.isub, 1) := by decide +kernel
theorem d_Mo_add_54 : decode b_Mo_add 54 = .ok (.ireturn, 1) := by decide +kernel
theorem d_Mo_change_0 : decode b_Mo_change 0 = .ok (.iload_n 1, 1) := by decide +kernel
theorem d_Mo_change_1 : decode b_Mo_change 1 = .ok (.iconst 0, 1) := by decide +kernel
theorem d_Mo_change_2 : decode b_Mo_change 2 = .ok (.aload_n 0, 1) := by decide +kernel
theorem d_Mo_change_3 : decode b_Mo_change 3 = .ok (.getfield 77, 3) := by decide +kernel
theorem d_Mo_change_6 : decode b_Mo_change 6 = .ok (.iconst 1, 1) := by decide +kernel
theorem d_Mo_change_7 : decode b_Mo_change 7 = .ok (.isub, 1) := by decide +kernel
theorem d_Mo_change_8 : decode b_Mo_change 8 = .ok (.invokestatic 84, 3) := by decide +kernel
theorem d_Mo_change_11 : decode b_Mo_change 11 = .ok (.ifCond .eq 15, 3) := by decide +kernel
theorem d_Mo_change_14 : decode b_Mo_change 14 = .ok (.iload_n 2, 1) := by decide +kernel
theorem d_Mo_change_15 : decode b_Mo_change 15 = .ok (.iload_n 3, 1) := by decide +kernel
theorem d_Mo_change_16 : decode b_Mo_change 16 = .ok (.iload 4, 2) := by decide +kernel
theorem d_Mo_change_18 : decode b_Mo_change 18 = .ok (.iload 5, 2) := by decide +kernel
theorem d_Mo_change_20 : decode b_Mo_change 20 = .ok (.invokestatic 95, 3) := by decide +kernel
theorem d_Mo_change_23 : decode b_Mo_change 23 = .ok (.ifCond .ne 5, 3) := by decide +kernel
theorem d_Mo_change_26 : decode b_Mo_change 26 = .ok (.iconst 0, 1) := by decide +kernel
theorem d_Mo_change_27 : decode b_Mo_change 27 = .ok (.ireturn, 1) := by decide +kernel
theorem d_Mo_change_28 : decode b_Mo_change 28 = .ok (.aload_n 0, 1) := by decide +kernel
theorem d_Mo_change_29 : decode b_Mo_change 29 = .ok (.iload_n 1, 1) := by decide +kernel
theorem d_Mo_change_30 : decode b_Mo_change 30 = .ok (.iload_n 2, 1) := by decide +kernel
theorem d_Mo_change_31 : decode b_Mo_change 31 = .ok (.iload_n 3, 1) := by decide +kernel
theorem d_Mo_change_32 : decode b_Mo_change 32 = .ok (.iload 4, 2) := by decide +kernel
theorem d_Mo_change_34 : decode b_Mo_change 34 = .ok (.iload 5, 2) := by decide +kernel
theorem d_Mo_change_36 : decode b_Mo_change 36 = .ok (.invokevirtual 99, 3) := by decide +kernel
theorem d_Mo_change_39 : decode b_Mo_change 39 = .ok (.iconst 1, 1) := by decide +kernel
theorem d_Mo_change_40 : decode b_Mo_change 40 = .ok (.ireturn, 1) := by decide +kernel
theorem d_Mo_clear_0 : decode b_Mo_clear 0 = .ok (.aload_n 0, 1) := by decide +kernel
theorem d_Mo_clear_1 : decode b_Mo_clear 1 = .ok (.getfield 77, 3) := by decide +kernel
theorem d_Mo_clear_4 : decode b_Mo_clear 4 = .ok (.istore_n 1, 1) := by decide +kernel
theorem d_Mo_clear_5 : decode b_Mo_clear 5 = .ok (.aload_n 0, 1) := by decide +kernel
theorem d_Mo_clear_6 : decode b_Mo_clear 6 = .ok (.iconst 0, 1) := by decide +kernel
theorem d_Mo_clear_7 : decode b_Mo_clear 7 = .ok (.putfield 77, 3) := by decide +kernel
theorem d_Mo_clear_10 : decode b_Mo_clear 10 = .ok (.aload_n 0, 1) := by decide +kernel
theorem d_Mo_clear_11 : decode b_Mo_clear 11 = .ok (.iconst 0, 1) := by decide +kernel
theorem d_Mo_clear_12 : decode b_Mo_clear 12 = .ok (.putfield 103, 3) := by decide +kernel
theorem d_Mo_clear_15 : decode b_Mo_clear 15 = .ok (.aload_n 0, 1) := by decide +kernel
theorem d_Mo_clear_16 : decode b_Mo_clear 16 = .ok (.aload_n 0, 1) := by decide +kernel
theorem d_Mo_clear_17 : decode b_Mo_clear 17 = .ok (.invokevirtual 47, 3) := by decide +kernel
theorem d_Mo_clear_20 : decode b_Mo_clear 20 = .ok (.putfield 50, 3) := by decide +kernel
theorem d_Mo_clear_23 : decode b_Mo_clear 23 = .ok (.aload_n 0, 1) := by decide +kernel
theorem d_Mo_clear_24 : decode b_Mo_clear 24 = .ok (.iconst 0, 1) := by decide +kernel
theorem d_Mo_clear_25 : decode b_Mo_clear 25 = .ok (.putfield 88, 3) := by decide +kernel
theorem d_Mo_clear_28 : decode b_Mo_clear 28 = .ok (.aload_n 0, 1) := by decide +kernel
theorem d_Mo_clear_29 : decode b_Mo_clear 29 = .ok (.iconst 0, 1) := by decide +kernel
theorem d_Mo_clear_30 : decode b_Mo_clear 30 = .ok (.putfield 91, 3) := by decide +kernel
theorem d_Mo_clear_33 : decode b_Mo_clear 33 = .ok (.iload_n 1, 1) := by decide +kernel
theorem d_Mo_clear_34 : decode b_Mo_clear 34 = .ok (.ireturn, 1) := by decide +kernel
theorem d_Mo_claim_0 : decode b_Mo_claim 0 = .ok (.iload_n 1, 1) := by decide +kernel
theorem d_Mo_claim_1 : decode b_Mo_claim 1 = .ok (.ifCond .eq 8, 3) := by decide +kernel
theorem d_Mo_claim_4 : decode b_Mo_claim 4 = .ok (.iload_n 1, 1) := by decide +kernel
theorem d_Mo_claim_5 : decode b_Mo_claim 5 = .ok (.iconst 4, 1) := by decide +kernel
theorem d_Mo_claim_6 : decode b_Mo_claim 6 = .ok (.if_icmp .ne 29, 3) := by decide +kernel
theorem d_Mo_claim_9 : decode b_Mo_claim 9 = .ok (.iload_n 2, 1) := by decide +kernel
theorem d_Mo_claim_10 : decode b_Mo_claim 10 = .ok (.iconst 0, 1) := by decide +kernel
theorem d_Mo_claim_11 : decode b_Mo_claim 11 = .ok (.iconst 3, 1) := by decide +kernel
theorem d_Mo_claim_12 : decode b_Mo_claim 12 = .ok (.invokestatic 84, 3) := by decide +kernel
theorem d_Mo_claim_15 : decode b_Mo_claim 15 = .ok (.ifCond .eq 16, 3) := by decide +kernel
theorem d_Mo_claim_18 : decode b_Mo_claim 18 = .ok (.iload_n 3, 1) := by decide +kernel
theorem d_Mo_claim_19 : decode b_Mo_claim 19 = .ok (.iconst 0, 1) := by decide +kernel
theorem d_Mo_claim_20 : decode b_Mo_claim 20 = .ok (.iconst 3, 1) := by decide +kernel
theorem d_Mo_claim_21 : decode b_Mo_claim 21 = .ok (.invokestatic 84, 3) := by decide +kernel
theorem d_Mo_claim_24 : decode b_Mo_claim 24 = .ok (.ifCond .eq 7, 3) := by decide +kernel
theorem d_Mo_claim_27 : decode b_Mo_claim 27 = .ok (.iconst 1, 1) := by decide +kernel
theorem d_Mo_claim_28 : decode b_Mo_claim 28 = .ok (.goto 94, 3) := by decide +kernel
theorem d_Mo_claim_31 : decode b_Mo_claim 31 = .ok (.iconst 0, 1) := by decide +kernel
theorem d_Mo_claim_32 : decode b_Mo_claim 32 = .ok (.goto 90, 3) := by decide +kernel
theorem d_Mo_claim_35 : decode b_Mo_claim 35 = .ok (.iload_n 1, 1) := by decide +kernel
theorem d_Mo_claim_36 : decode b_Mo_claim 36 = .ok (.iconst 1, 1) := by decide +kernel
theorem d_Mo_claim_37 : decode b_Mo_claim 37 = .ok (.if_icmp .ne 30, 3) := by decide +kernel
theorem d_Mo_claim_40 : decode b_Mo_claim 40 = .ok (.iload_n 2, 1) := by decide +kernel
theorem d_Mo_claim_41 : decode b_Mo_claim 41 = .ok (.iconst 0, 1) := by decide +kernel
theorem d_Mo_claim_42 : decode b_Mo_claim 42 = .ok (.iconst 2, 1) := by decide +kernel
theorem d_Mo_claim_43 : decode b_Mo_claim 43 = .ok (.invokestatic 84, 3) := by decide +kernel
theorem d_Mo_claim_46 : decode b_Mo_claim 46 = .ok (.ifCond .eq 17, 3) := by decide +kernel
theorem d_Mo_claim_49 : decode b_Mo_claim 49 = .ok (.iload_n 3, 1) := by decide +kernel
theorem d_Mo_claim_50 : decode b_Mo_claim 50 = .ok (.iconst 0, 1) := by decide +kernel
theorem d_Mo_claim_51 : decode b_Mo_claim 51 = .ok (.bipush 7, 2) := by decide +kernel
theorem d_Mo_claim_53 : decode b_Mo_claim 53 = .ok (.invokestatic 84, 3) := by decide +kernel
theorem d_Mo_claim_56 : decode b_Mo_claim 56 = .ok (.ifCond .eq 7, 3) := by decide +kernel
theorem d_Mo_claim_59 : decode b_Mo_claim 59 = .ok (.iconst 1, 1) := by decide +kernel
theorem d_Mo_claim_60 : decode b_Mo_claim 60 = .ok (.goto 62, 3) := by decide +kernel
theorem d_Mo_claim_63 : decode b_Mo_claim 63 = .ok (.iconst 0, 1) := by decide +kernel
theorem d_Mo_claim_64 : decode b_Mo_claim 64 = .ok (.goto 58, 3) := by decide +kernel
theorem d_Mo_claim_67 : decode b_Mo_claim 67 = .ok (.iload_n 1, 1) := by decide +kernel
theorem d_Mo_claim_68 : decode b_Mo_claim 68 = .ok (.iconst 2, 1) := by decide +kernel
theorem d_Mo_claim_69 : decode b_Mo_claim 69 = .ok (.if_icmp .ne 34, 3) := by decide +kernel
theorem d_Mo_claim_72 : decode b_Mo_claim 72 = .ok (.iload_n 2, 1) := by decide +kernel
theorem d_Mo_claim_73 : decode b_Mo_claim 73 = .ok (.iconst 0, 1) := by decide +kernel
theorem d_Mo_claim_74 : decode b_Mo_claim 74 = .ok (.iconst 2, 1) := by decide +kernel
theorem d_Mo_claim_75 : decode b_Mo_claim 75 = .ok (.invokestatic 84, 3) := by decide +kernel
theorem d_Mo_claim_78 : decode b_Mo_claim 78 = .ok (.ifCond .eq 21, 3) := by decide +kernel
theorem d_Mo_claim_81 : decode b_Mo_claim 81 = .ok (.iload_n 3, 1) := by decide +kernel
theorem d_Mo_claim_82 : decode b_Mo_claim 82 = .ok (.iconst 0, 1) := by decide +kernel
theorem d_Mo_claim_83 : decode b_Mo_claim 83 = .ok (.iconst 2, 1) := by decide +kernel
theorem d_Mo_claim_84 : decode b_Mo_claim 84 = .ok (.invokestatic 84, 3) := by decide +kernel
theorem d_Mo_claim_87 : decode b_Mo_claim 87 = .ok (.ifCond .eq 12, 3) := by decide +kernel
theorem d_Mo_claim_90 : decode b_Mo_claim 90 = .ok (.iload_n 2, 1) := by decide +kernel
theorem d_Mo_claim_91 : decode b_Mo_claim 91 = .ok (.iload_n 3, 1) := by decide +kernel
theorem d_Mo_claim_92 : decode b_Mo_claim 92 = .ok (.if_icmp .eq 7, 3) := by decide +kernel
theorem d_Mo_claim_95 : decode b_Mo_claim 95 = .ok (.iconst 1, 1) := by decide +kernel
theorem d_Mo_claim_96 : decode b_Mo_claim 96 = .ok (.goto 26, 3) := by decide +kernel
theorem d_Mo_claim_99 : decode b_Mo_claim 99 = .ok (.iconst 0, 1) := by decide +kernel
theorem d_Mo_claim_100 : decode b_Mo_claim 100 = .ok (.goto 22, 3) := by decide +kernel
theorem d_Mo_claim_103 : decode b_Mo_claim 103 = .ok (.iload_n 1, 1) := by decide +kernel
theorem d_Mo_claim_104 : decode b_Mo_claim 104 = .ok (.iconst 3, 1) := by decide +kernel
theorem d_Mo_claim_105 : decode b_Mo_claim 105 = .ok (.if_icmp .ne 16, 3) := by decide +kernel
theorem d_Mo_claim_108 : decode b_Mo_claim 108 = .ok (.iload_n 2, 1) := by decide +kernel
theorem d_Mo_claim_109 : decode b_Mo_claim 109 = .ok (.iconst 0, 1) := by decide +kernel
theorem d_Mo_claim_110 : decode b_Mo_claim 110 = .ok (.iconst 2, 1) := by decide +kernel
theorem d_Mo_claim_111 : decode b_Mo_claim 111 = .ok (.invokestatic 84, 3) := by decide +kernel
theorem d_Mo_claim_114 : decode b_Mo_claim 114 = .ok (.ifCond .eq 7, 3) := by decide +kernel
theorem d_Mo_claim_117 : decode b_Mo_claim 117 = .ok (.iconst 1, 1) := by decide +kernel
theorem d_Mo_claim_118 : decode b_Mo_claim 118 = .ok (.goto 4, 3) := by decide +kernel
theorem d_Mo_claim_121 : decode b_Mo_claim 121 = .ok (.iconst 0, 1) := by decide +kernel
theorem d_Mo_claim_122 : decode b_Mo_claim 122 = .ok (.istore 4, 2) := by decide +kernel
theorem d_Mo_claim_124 : decode b_Mo_claim 124 = .ok (.iload 4, 2) := by decide +kernel
theorem d_Mo_claim_126 : decode b_Mo_claim 126 = .ok (.ifCond .ne 5, 3) := by decide +kernel
theorem d_Mo_claim_129 : decode b_Mo_claim 129 = .ok (.iconst (-1), 1) := by decide +kernel
theorem d_Mo_claim_130 : decode b_Mo_claim 130 = .ok (.ireturn, 1) := by decide +kernel
theorem d_Mo_claim_131 : decode b_Mo_claim 131 = .ok (.aload_n 0, 1) := by decide +kernel
theorem d_Mo_claim_132 : decode b_Mo_claim 132 = .ok (.getfield 103, 3) := by decide +kernel
theorem d_Mo_claim_135 : decode b_Mo_claim 135 = .ok (.bipush 6, 2) := by decide +kernel
theorem d_Mo_claim_137 : decode b_Mo_claim 137 = .ok (.if_icmp .ne 6, 3) := by decide +kernel
theorem d_Mo_claim_140 : decode b_Mo_claim 140 = .ok (.bipush (-3), 2) := by decide +kernel
theorem d_Mo_claim_142 : decode b_Mo_claim 142 = .ok (.ireturn, 1) := by decide +kernel
theorem d_Mo_claim_143 : decode b_Mo_claim 143 = .ok (.aload_n 0, 1) := by decide +kernel
theorem d_Mo_claim_144 : decode b_Mo_claim 144 = .ok (.getfield 22, 3) := by decide +kernel
theorem d_Mo_claim_147 : decode b_Mo_claim 147 = .ok (.aload_n 0, 1) := by decide +kernel
theorem d_Mo_claim_148 : decode b_Mo_claim 148 = .ok (.getfield 103, 3) := by decide +kernel
theorem d_Mo_claim_151 : decode b_Mo_claim 151 = .ok (.iload_n 1, 1) := by decide +kernel
theorem d_Mo_claim_152 : decode b_Mo_claim 152 = .ok (.iastore, 1) := by decide +kernel
theorem d_Mo_claim_153 : decode b_Mo_claim 153 = .ok (.aload_n 0, 1) := by decide +kernel
theorem d_Mo_claim_154 : decode b_Mo_claim 154 = .ok (.getfield 25, 3) := by decide +kernel
theorem d_Mo_claim_157 : decode b_Mo_claim 157 = .ok (.aload_n 0, 1) := by decide +kernel
theorem d_Mo_claim_158 : decode b_Mo_claim 158 = .ok (.getfield 103, 3) := by decide +kernel
theorem d_Mo_claim_161 : decode b_Mo_claim 161 = .ok (.iload_n 2, 1) := by decide +kernel
theorem d_Mo_claim_162 : decode b_Mo_claim 162 = .ok (.iastore, 1) := by decide +kernel
theorem d_Mo_claim_163 : decode b_Mo_claim 163 = .ok (.aload_n 0, 1) := by decide +kernel
theorem d_Mo_claim_164 : decode b_Mo_claim 164 = .ok (.getfield 28, 3) := by decide +kernel
theorem d_Mo_claim_167 : decode b_Mo_claim 167 = .ok (.aload_n 0, 1) := by decide +kernel
theorem d_Mo_claim_168 : decode b_Mo_claim 168 = .ok (.getfield 103, 3) := by decide +kernel
theorem d_Mo_claim_171 : decode b_Mo_claim 171 = .ok (.iload_n 3, 1) := by decide +kernel
theorem d_Mo_claim_172 : decode b_Mo_claim 172 = .ok (.iastore, 1) := by decide +kernel
theorem d_Mo_claim_173 : decode b_Mo_claim 173 = .ok (.aload_n 0, 1) := by decide +kernel
theorem d_Mo_claim_174 : decode b_Mo_claim 174 = .ok (.dup, 1) := by decide +kernel
theorem d_Mo_claim_175 : decode b_Mo_claim 175 = .ok (.getfield 103, 3) := by decide +kernel
theorem d_Mo_claim_178 : decode b_Mo_claim 178 = .ok (.iconst 1, 1) := by decide +kernel
theorem d_Mo_claim_179 : decode b_Mo_claim 179 = .ok (.iadd, 1) := by decide +kernel
theorem d_Mo_claim_180 : decode b_Mo_claim 180 = .ok (.putfield 103, 3) := by decide +kernel
theorem d_Mo_claim_183 : decode b_Mo_claim 183 = .ok (.aload_n 0, 1) := by decide +kernel
theorem d_Mo_claim_184 : decode b_Mo_claim 184 = .ok (.getfield 103, 3) := by decide +kernel
theorem d_Mo_claim_187 : decode b_Mo_claim 187 = .ok (.iconst 1, 1) := by decide +kernel
theorem d_Mo_claim_188 : decode b_Mo_claim 188 = .ok (.isub, 1) := by decide +kernel
theorem d_Mo_claim_189 : decode b_Mo_claim 189 = .ok (.ireturn, 1) := by decide +kernel
theorem d_Mo_failsIn_0 : decode b_Mo_failsIn 0 = .ok (.aload_n 0, 1) := by decide +kernel
theorem d_Mo_failsIn_1 : decode b_Mo_failsIn 1 = .ok (.getfield 25, 3) := by decide +kernel
theorem d_Mo_failsIn_4 : decode b_Mo_failsIn 4 = .ok (.iload_n 1, 1) := by decide +kernel
theorem d_Mo_failsIn_5 : decode b_Mo_failsIn 5 = .ok (.iaload, 1) := by decide +kernel
theorem d_Mo_failsIn_6 : decode b_Mo_failsIn 6 = .ok (.istore_n 3, 1) := by decide +kernel
theorem d_Mo_failsIn_7 : decode b_Mo_failsIn 7 = .ok (.aload_n 0, 1) := by decide +kernel
theorem d_Mo_failsIn_8 : decode b_Mo_failsIn 8 = .ok (.getfield 28, 3) := by decide +kernel
theorem d_Mo_failsIn_11 : decode b_Mo_failsIn 11 = .ok (.iload_n 1, 1) := by decide +kernel
theorem d_Mo_failsIn_12 : decode b_Mo_failsIn 12 = .ok (.iaload, 1) := by decide +kernel
theorem d_Mo_failsIn_13 : decode b_Mo_failsIn 13 = .ok (.istore 4, 2) := by decide +kernel
theorem d_Mo_failsIn_15 : decode b_Mo_failsIn 15 = .ok (.aload_n 0, 1) := by decide +kernel
theorem d_Mo_failsIn_16 : decode b_Mo_failsIn 16 = .ok (.getfield 22, 3) := by decide +kernel
theorem d_Mo_failsIn_19 : decode b_Mo_failsIn 19 = .ok (.iload_n 1, 1) := by decide +kernel
theorem d_Mo_failsIn_20 : decode b_Mo_failsIn 20 = .ok (.iaload, 1) := by decide +kernel
theorem d_Mo_failsIn_21 : decode b_Mo_failsIn 21 = .ok (.tableswitch 97 0 3 #[31, 47, 63, 83], 31) := by decide +kernel
theorem d_Mo_failsIn_52 : decode b_Mo_failsIn 52 = .ok (.iload_n 2, 1) := by decide +kernel
theorem d_Mo_failsIn_53 : decode b_Mo_failsIn 53 = .ok (.iload_n 3, 1) := by decide +kernel
theorem d_Mo_failsIn_54 : decode b_Mo_failsIn 54 = .ok (.invokestatic 61, 3) := by decide +kernel
theorem d_Mo_failsIn_57 : decode b_Mo_failsIn 57 = .ok (.iload 4, 2) := by decide +kernel
theorem d_Mo_failsIn_59 : decode b_Mo_failsIn 59 = .ok (.if_icmp .ne 7, 3) := by decide +kernel
theorem d_Mo_failsIn_62 : decode b_Mo_failsIn 62 = .ok (.iconst 1, 1) := by decide +kernel
theorem d_Mo_failsIn_63 : decode b_Mo_failsIn 63 = .ok (.goto 4, 3) := by decide +kernel
theorem d_Mo_failsIn_66 : decode b_Mo_failsIn 66 = .ok (.iconst 0, 1) := by decide +kernel
theorem d_Mo_failsIn_67 : decode b_Mo_failsIn 67 = .ok (.ireturn, 1) := by decide +kernel
theorem d_Mo_failsIn_68 : decode b_Mo_failsIn 68 = .ok (.iload_n 2, 1) := by decide +kernel
theorem d_Mo_failsIn_69 : decode b_Mo_failsIn 69 = .ok (.iload_n 3, 1) := by decide +kernel
theorem d_Mo_failsIn_70 : decode b_Mo_failsIn 70 = .ok (.invokestatic 57, 3) := by decide +kernel
theorem d_Mo_failsIn_73 : decode b_Mo_failsIn 73 = .ok (.iload 4, 2) := by decide +kernel
theorem d_Mo_failsIn_75 : decode b_Mo_failsIn 75 = .ok (.if_icmp .ne 7, 3) := by decide +kernel
theorem d_Mo_failsIn_78 : decode b_Mo_failsIn 78 = .ok (.iconst 1, 1) := by decide +kernel
theorem d_Mo_failsIn_79 : decode b_Mo_failsIn 79 = .ok (.goto 4, 3) := by decide +kernel
theorem d_Mo_failsIn_82 : decode b_Mo_failsIn 82 = .ok (.iconst 0, 1) := by decide +kernel
theorem d_Mo_failsIn_83 : decode b_Mo_failsIn 83 = .ok (.ireturn, 1) := by decide +kernel
theorem d_Mo_failsIn_84 : decode b_Mo_failsIn 84 = .ok (.iload_n 2, 1) := by decide +kernel
theorem d_Mo_failsIn_85 : decode b_Mo_failsIn 85 = .ok (.iload_n 3, 1) := by decide +kernel
theorem d_Mo_failsIn_86 : decode b_Mo_failsIn 86 = .ok (.invokestatic 57, 3) := by decide +kernel
theorem d_Mo_failsIn_89 : decode b_Mo_failsIn 89 = .ok (.iload_n 2, 1) := by decide +kernel
theorem d_Mo_failsIn_90 : decode b_Mo_failsIn 90 = .ok (.iload 4, 2) := by decide +kernel
theorem d_Mo_failsIn_92 : decode b_Mo_failsIn 92 = .ok (.invokestatic 57, 3) := by decide +kernel
theorem d_Mo_failsIn_95 : decode b_Mo_failsIn 95 = .ok (.if_icmp .ne 7, 3) := by decide +kernel
theorem d_Mo_failsIn_98 : decode b_Mo_failsIn 98 = .ok (.iconst 1, 1) := by decide +kernel
theorem d_Mo_failsIn_99 : decode b_Mo_failsIn 99 = .ok (.goto 4, 3) := by decide +kernel
theorem d_Mo_failsIn_102 : decode b_Mo_failsIn 102 = .ok (.iconst 0, 1) := by decide +kernel
theorem d_Mo_failsIn_103 : decode b_Mo_failsIn 103 = .ok (.ireturn, 1) := by decide +kernel
theorem d_Mo_failsIn_104 : decode b_Mo_failsIn 104 = .ok (.iload_n 2, 1) := by decide +kernel
theorem d_Mo_failsIn_105 : decode b_Mo_failsIn 105 = .ok (.invokestatic 64, 3) := by decide +kernel
theorem d_Mo_failsIn_108 : decode b_Mo_failsIn 108 = .ok (.iload_n 3, 1) := by decide +kernel
theorem d_Mo_failsIn_109 : decode b_Mo_failsIn 109 = .ok (.if_icmp .lt 7, 3) := by decide +kernel
theorem d_Mo_failsIn_112 : decode b_Mo_failsIn 112 = .ok (.iconst 1, 1) := by decide +kernel
theorem d_Mo_failsIn_113 : decode b_Mo_failsIn 113 = .ok (.goto 4, 3) := by decide +kernel
theorem d_Mo_failsIn_116 : decode b_Mo_failsIn 116 = .ok (.iconst 0, 1) := by decide +kernel
theorem d_Mo_failsIn_117 : decode b_Mo_failsIn 117 = .ok (.ireturn, 1) := by decide +kernel
theorem d_Mo_failsIn_118 : decode b_Mo_failsIn 118 = .ok (.iload_n 2, 1) := by decide +kernel
theorem d_Mo_failsIn_119 : decode b_Mo_failsIn 119 = .ok (.iload_n 3, 1) := by decide +kernel
theorem d_Mo_failsIn_120 : decode b_Mo_failsIn 120 = .ok (.invokestatic 61, 3) := by decide +kernel
theorem d_Mo_failsIn_123 : decode b_Mo_failsIn 123 = .ok (.iload_n 2, 1) := by decide +kernel
theorem d_Mo_failsIn_124 : decode b_Mo_failsIn 124 = .ok (.iload 4, 2) := by decide +kernel
theorem d_Mo_failsIn_126 : decode b_Mo_failsIn 126 = .ok (.invokestatic 61, 3) := by decide +kernel
theorem d_Mo_failsIn_129 : decode b_Mo_failsIn 129 = .ok (.if_icmp .le 7, 3) := by decide +kernel
theorem d_Mo_failsIn_132 : decode b_Mo_failsIn 132 = .ok (.iconst 1, 1) := by decide +kernel
theorem d_Mo_failsIn_133 : decode b_Mo_failsIn 133 = .ok (.goto 4, 3) := by decide +kernel
theorem d_Mo_failsIn_136 : decode b_Mo_failsIn 136 = .ok (.iconst 0, 1) := by decide +kernel
theorem d_Mo_failsIn_137 : decode b_Mo_failsIn 137 = .ok (.ireturn, 1) := by decide +kernel
theorem d_Mo_find_0 : decode b_Mo_find 0 = .ok (.iconst 0, 1) := by decide +kernel
theorem d_Mo_find_1 : decode b_Mo_find 1 = .ok (.istore_n 2, 1) := by decide +kernel
theorem d_Mo_find_2 : decode b_Mo_find 2 = .ok (.iload_n 2, 1) := by decide +kernel
theorem d_Mo_find_3 : decode b_Mo_find 3 = .ok (.aload_n 0, 1) := by decide +kernel
theorem d_Mo_find_4 : decode b_Mo_find 4 = .ok (.getfield 106, 3) := by decide +kernel
theorem d_Mo_find_7 : decode b_Mo_find 7 = .ok (.if_icmp .ge 21, 3) := by decide +kernel
theorem d_Mo_find_10 : decode b_Mo_find 10 = .ok (.aload_n 0, 1) := by decide +kernel
theorem d_Mo_find_11 : decode b_Mo_find 11 = .ok (.getfield 31, 3) := by decide +kernel
theorem d_Mo_find_14 : decode b_Mo_find 14 = .ok (.iload_n 2, 1) := by decide +kernel
theorem d_Mo_find_15 : decode b_Mo_find 15 = .ok (.iaload, 1) := by decide +kernel
theorem d_Mo_find_16 : decode b_Mo_find 16 = .ok (.iload_n 1, 1) := by decide +kernel
theorem d_Mo_find_17 : decode b_Mo_find 17 = .ok (.if_icmp .ne 5, 3) := by decide +kernel
theorem d_Mo_find_20 : decode b_Mo_find 20 = .ok (.iload_n 2, 1) := by decide +kernel
theorem d_Mo_find_21 : decode b_Mo_find 21 = .ok (.ireturn, 1) := by decide +kernel
theorem d_Mo_find_22 : decode b_Mo_find 22 = .ok (.iinc 2 1, 3) := by decide +kernel
theorem d_Mo_find_25 : decode b_Mo_find 25 = .ok (.goto (-23), 3) := by decide +kernel
theorem d_Mo_find_28 : decode b_Mo_find 28 = .ok (.iconst (-1), 1) := by decide +kernel
theorem d_Mo_find_29 : decode b_Mo_find 29 = .ok (.ireturn, 1) := by decide +kernel
theorem d_Mo_explore_0 : decode b_Mo_explore 0 = .ok (.aload_n 0, 1) := by decide +kernel
theorem d_Mo_explore_1 : decode b_Mo_explore 1 = .ok (.iconst 0, 1) := by decide +kernel
theorem d_Mo_explore_2 : decode b_Mo_explore 2 = .ok (.putfield 91, 3) := by decide +kernel
theorem d_Mo_explore_5 : decode b_Mo_explore 5 = .ok (.aload_n 0, 1) := by decide +kernel
theorem d_Mo_explore_6 : decode b_Mo_explore 6 = .ok (.iconst 1, 1) := by decide +kernel
theorem d_Mo_explore_7 : decode b_Mo_explore 7 = .ok (.putfield 106, 3) := by decide +kernel
theorem d_Mo_explore_10 : decode b_Mo_explore 10 = .ok (.aload_n 0, 1) := by decide +kernel
theorem d_Mo_explore_11 : decode b_Mo_explore 11 = .ok (.getfield 31, 3) := by decide +kernel
theorem d_Mo_explore_14 : decode b_Mo_explore 14 = .ok (.iconst 0, 1) := by decide +kernel
theorem d_Mo_explore_15 : decode b_Mo_explore 15 = .ok (.aload_n 0, 1) := by decide +kernel
theorem d_Mo_explore_16 : decode b_Mo_explore 16 = .ok (.invokevirtual 47, 3) := by decide +kernel
theorem d_Mo_explore_19 : decode b_Mo_explore 19 = .ok (.iastore, 1) := by decide +kernel
theorem d_Mo_explore_20 : decode b_Mo_explore 20 = .ok (.aload_n 0, 1) := by decide +kernel
theorem d_Mo_explore_21 : decode b_Mo_explore 21 = .ok (.getfield 34, 3) := by decide +kernel
theorem d_Mo_explore_24 : decode b_Mo_explore 24 = .ok (.iconst 0, 1) := by decide +kernel
theorem d_Mo_explore_25 : decode b_Mo_explore 25 = .ok (.iconst (-1), 1) := by decide +kernel
theorem d_Mo_explore_26 : decode b_Mo_explore 26 = .ok (.iastore, 1) := by decide +kernel
theorem d_Mo_explore_27 : decode b_Mo_explore 27 = .ok (.aload_n 0, 1) := by decide +kernel
theorem d_Mo_explore_28 : decode b_Mo_explore 28 = .ok (.getfield 40, 3) := by decide +kernel
theorem d_Mo_explore_31 : decode b_Mo_explore 31 = .ok (.iconst 0, 1) := by decide +kernel
theorem d_Mo_explore_32 : decode b_Mo_explore 32 = .ok (.iconst 0, 1) := by decide +kernel
theorem d_Mo_explore_33 : decode b_Mo_explore 33 = .ok (.iastore, 1) := by decide +kernel
theorem d_Mo_explore_34 : decode b_Mo_explore 34 = .ok (.iconst 0, 1) := by decide +kernel
theorem d_Mo_explore_35 : decode b_Mo_explore 35 = .ok (.istore_n 1, 1) := by decide +kernel
theorem d_Mo_explore_36 : decode b_Mo_explore 36 = .ok (.iload_n 1, 1) := by decide +kernel
theorem d_Mo_explore_37 : decode b_Mo_explore 37 = .ok (.aload_n 0, 1) := by decide +kernel
theorem d_Mo_explore_38 : decode b_Mo_explore 38 = .ok (.getfield 106, 3) := by decide +kernel
theorem d_Mo_explore_41 : decode b_Mo_explore 41 = .ok (.if_icmp .ge 135, 3) := by decide +kernel
theorem d_Mo_explore_44 : decode b_Mo_explore 44 = .ok (.iconst 0, 1) := by decide +kernel
theorem d_Mo_explore_45 : decode b_Mo_explore 45 = .ok (.istore_n 2, 1) := by decide +kernel
theorem d_Mo_explore_46 : decode b_Mo_explore 46 = .ok (.iload_n 2, 1) := by decide +kernel
theorem d_Mo_explore_47 : decode b_Mo_explore 47 = .ok (.aload_n 0, 1) := by decide +kernel
theorem d_Mo_explore_48 : decode b_Mo_explore 48 = .ok (.getfield 77, 3) := by decide +kernel
theorem d_Mo_explore_51 : decode b_Mo_explore 51 = .ok (.if_icmp .ge 119, 3) := by decide +kernel
theorem d_Mo_explore_54 : decode b_Mo_explore 54 = .ok (.aload_n 0, 1) := by decide +kernel
theorem d_Mo_explore_55 : decode b_Mo_explore 55 = .ok (.aload_n 0, 1) := by decide +kernel
theorem d_Mo_explore_56 : decode b_Mo_explore 56 = .ok (.getfield 31, 3) := by decide +kernel
theorem d_Mo_explore_59 : decode b_Mo_explore 59 = .ok (.iload_n 1, 1) := by decide +kernel
theorem d_Mo_explore_60 : decode b_Mo_explore 60 = .ok (.iaload, 1) := by decide +kernel
theorem d_Mo_explore_61 : decode b_Mo_explore 61 = .ok (.iload_n 2, 1) := by decide +kernel
theorem d_Mo_explore_62 : decode b_Mo_explore 62 = .ok (.invokevirtual 80, 3) := by decide +kernel
theorem d_Mo_explore_65 : decode b_Mo_explore 65 = .ok (.ifCond .ne 6, 3) := by decide +kernel
theorem d_Mo_explore_68 : decode b_Mo_explore 68 = .ok (.goto 96, 3) := by decide +kernel
theorem d_Mo_explore_71 : decode b_Mo_explore 71 = .ok (.aload_n 0, 1) := by decide +kernel
theorem d_Mo_explore_72 : decode b_Mo_explore 72 = .ok (.aload_n 0, 1) := by decide +kernel
theorem d_Mo_explore_73 : decode b_Mo_explore 73 = .ok (.getfield 31, 3) := by decide +kernel
theorem d_Mo_explore_76 : decode b_Mo_explore 76 = .ok (.iload_n 1, 1) := by decide +kernel
theorem d_Mo_explore_77 : decode b_Mo_explore 77 = .ok (.iaload, 1) := by decide +kernel
theorem d_Mo_explore_78 : decode b_Mo_explore 78 = .ok (.iload_n 2, 1) := by decide +kernel
theorem d_Mo_explore_79 : decode b_Mo_explore 79 = .ok (.invokevirtual 109, 3) := by decide +kernel
theorem d_Mo_explore_82 : decode b_Mo_explore 82 = .ok (.istore_n 3, 1) := by decide +kernel
theorem d_Mo_explore_83 : decode b_Mo_explore 83 = .ok (.aload_n 0, 1) := by decide +kernel
theorem d_Mo_explore_84 : decode b_Mo_explore 84 = .ok (.iload_n 3, 1) := by decide +kernel
theorem d_Mo_explore_85 : decode b_Mo_explore 85 = .ok (.invokevirtual 112, 3) := by decide +kernel
theorem d_Mo_explore_88 : decode b_Mo_explore 88 = .ok (.ifCond .lt 6, 3) := by decide +kernel
theorem d_Mo_explore_91 : decode b_Mo_explore 91 = .ok (.goto 73, 3) := by decide +kernel
theorem d_Mo_explore_94 : decode b_Mo_explore 94 = .ok (.aload_n 0, 1) := by decide +kernel
theorem d_Mo_explore_95 : decode b_Mo_explore 95 = .ok (.getfield 106, 3) := by decide +kernel
theorem d_Mo_explore_98 : decode b_Mo_explore 98 = .ok (.sipush 300, 3) := by decide +kernel
theorem d_Mo_explore_101 : decode b_Mo_explore 101 = .ok (.if_icmp .ne 6, 3) := by decide +kernel
theorem d_Mo_explore_104 : decode b_Mo_explore 104 = .ok (.bipush (-4), 2) := by decide +kernel
theorem d_Mo_explore_106 : decode b_Mo_explore 106 = .ok (.ireturn, 1) := by decide +kernel
theorem d_Mo_explore_107 : decode b_Mo_explore 107 = .ok (.aload_n 0, 1) := by decide +kernel
theorem d_Mo_explore_108 : decode b_Mo_explore 108 = .ok (.getfield 31, 3) := by decide +kernel
theorem d_Mo_explore_111 : decode b_Mo_explore 111 = .ok (.aload_n 0, 1) := by decide +kernel
theorem d_Mo_explore_112 : decode b_Mo_explore 112 = .ok (.getfield 106, 3) := by decide +kernel
theorem d_Mo_explore_115 : decode b_Mo_explore 115 = .ok (.iload_n 3, 1) := by decide +kernel
theorem d_Mo_explore_116 : decode b_Mo_explore 116 = .ok (.iastore, 1) := by decide +kernel
theorem d_Mo_explore_117 : decode b_Mo_explore 117 = .ok (.aload_n 0, 1) := by decide +kernel
theorem d_Mo_explore_118 : decode b_Mo_explore 118 = .ok (.getfield 34, 3) := by decide +kernel
theorem d_Mo_explore_121 : decode b_Mo_explore 121 = .ok (.aload_n 0, 1) := by decide +kernel
theorem d_Mo_explore_122 : decode b_Mo_explore 122 = .ok (.getfield 106, 3) := by decide +kernel
theorem d_Mo_explore_125 : decode b_Mo_explore 125 = .ok (.iload_n 1, 1) := by decide +kernel
theorem d_Mo_explore_126 : decode b_Mo_explore 126 = .ok (.iastore, 1) := by decide +kernel
theorem d_Mo_explore_127 : decode b_Mo_explore 127 = .ok (.aload_n 0, 1) := by decide +kernel
theorem d_Mo_explore_128 : decode b_Mo_explore 128 = .ok (.getfield 37, 3) := by decide +kernel
theorem d_Mo_explore_131 : decode b_Mo_explore 131 = .ok (.aload_n 0, 1) := by decide +kernel
theorem d_Mo_explore_132 : decode b_Mo_explore 132 = .ok (.getfield 106, 3) := by decide +kernel
theorem d_Mo_explore_135 : decode b_Mo_explore 135 = .ok (.iload_n 2, 1) := by decide +kernel
theorem d_Mo_explore_136 : decode b_Mo_explore 136 = .ok (.iastore, 1) := by decide +kernel
theorem d_Mo_explore_137 : decode b_Mo_explore 137 = .ok (.aload_n 0, 1) := by decide +kernel
theorem d_Mo_explore_138 : decode b_Mo_explore 138 = .ok (.getfield 40, 3) := by decide +kernel
theorem d_Mo_explore_141 : decode b_Mo_explore 141 = .ok (.aload_n 0, 1) := by decide +kernel
theorem d_Mo_explore_142 : decode b_Mo_explore 142 = .ok (.getfield 106, 3) := by decide +kernel
theorem d_Mo_explore_145 : decode b_Mo_explore 145 = .ok (.aload_n 0, 1) := by decide +kernel
theorem d_Mo_explore_146 : decode b_Mo_explore 146 = .ok (.getfield 40, 3) := by decide +kernel
theorem d_Mo_explore_149 : decode b_Mo_explore 149 = .ok (.iload_n 1, 1) := by decide +kernel
theorem d_Mo_explore_150 : decode b_Mo_explore 150 = .ok (.iaload, 1) := by decide +kernel
theorem d_Mo_explore_151 : decode b_Mo_explore 151 = .ok (.iconst 1, 1) := by decide +kernel
theorem d_Mo_explore_152 : decode b_Mo_explore 152 = .ok (.iadd, 1) := by decide +kernel
theorem d_Mo_explore_153 : decode b_Mo_explore 153 = .ok (.iastore, 1) := by decide +kernel
theorem d_Mo_explore_154 : decode b_Mo_explore 154 = .ok (.aload_n 0, 1) := by decide +kernel
theorem d_Mo_explore_155 : decode b_Mo_explore 155 = .ok (.dup, 1) := by decide +kernel
theorem d_Mo_explore_156 : decode b_Mo_explore 156 = .ok (.getfield 106, 3) := by decide +kernel
theorem d_Mo_explore_159 : decode b_Mo_explore 159 = .ok (.iconst 1, 1) := by decide +kernel
theorem d_Mo_explore_160 : decode b_Mo_explore 160 = .ok (.iadd, 1) := by decide +kernel
theorem d_Mo_explore_161 : decode b_Mo_explore 161 = .ok (.putfield 106, 3) := by decide +kernel
theorem d_Mo_explore_164 : decode b_Mo_explore 164 = .ok (.iinc 2 1, 3) := by decide +kernel
theorem d_Mo_explore_167 : decode b_Mo_explore 167 = .ok (.goto (-121), 3) := by decide +kernel
theorem d_Mo_explore_170 : decode b_Mo_explore 170 = .ok (.iinc 1 1, 3) := by decide +kernel
theorem d_Mo_explore_173 : decode b_Mo_explore 173 = .ok (.goto (-137), 3) := by decide +kernel
theorem d_Mo_explore_176 : decode b_Mo_explore 176 = .ok (.aload_n 0, 1) := by decide +kernel
theorem d_Mo_explore_177 : decode b_Mo_explore 177 = .ok (.iconst 1, 1) := by decide +kernel
theorem d_Mo_explore_178 : decode b_Mo_explore 178 = .ok (.putfield 91, 3) := by decide +kernel
theorem d_Mo_explore_181 : decode b_Mo_explore 181 = .ok (.aload_n 0, 1) := by decide +kernel
theorem d_Mo_explore_182 : decode b_Mo_explore 182 = .ok (.getfield 106, 3) := by decide +kernel
theorem d_Mo_explore_185 : decode b_Mo_explore 185 = .ok (.ireturn, 1) := by decide +kernel
theorem d_Mo_isState_0 : decode b_Mo_isState 0 = .ok (.aload_n 0, 1) := by decide +kernel
theorem d_Mo_isState_1 : decode b_Mo_isState 1 = .ok (.getfield 91, 3) := by decide +kernel
theorem d_Mo_isState_4 : decode b_Mo_isState 4 = .ok (.ifCond .eq 21, 3) := by decide +kernel
theorem d_Mo_isState_7 : decode b_Mo_isState 7 = .ok (.iload_n 1, 1) := by decide +kernel
theorem d_Mo_isState_8 : decode b_Mo_isState 8 = .ok (.iconst 0, 1) := by decide +kernel
theorem d_Mo_isState_9 : decode b_Mo_isState 9 = .ok (.aload_n 0, 1) := by decide +kernel
theorem d_Mo_isState_10 : decode b_Mo_isState 10 = .ok (.getfield 106, 3) := by decide +kernel
theorem d_Mo_isState_13 : decode b_Mo_isState 13 = .ok (.iconst 1, 1) := by decide +kernel
theorem d_Mo_isState_14 : decode b_Mo_isState 14 = .ok (.isub, 1) := by decide +kernel
theorem d_Mo_isState_15 : decode b_Mo_isState 15 = .ok (.invokestatic 84, 3) := by decide +kernel
theorem d_Mo_isState_18 : decode b_Mo_isState 18 = .ok (.ifCond .eq 7, 3) := by decide +kernel
theorem d_Mo_isState_21 : decode b_Mo_isState 21 = .ok (.iconst 1, 1) := by decide +kernel
theorem d_Mo_isState_22 : decode b_Mo_isState 22 = .ok (.goto 4, 3) := by decide +kernel
theorem d_Mo_isState_25 : decode b_Mo_isState 25 = .ok (.iconst 0, 1) := by decide +kernel
theorem d_Mo_isState_26 : decode b_Mo_isState 26 = .ok (.ireturn, 1) := by decide +kernel
theorem d_Mo_fails_0 : decode b_Mo_fails 0 = .ok (.aload_n 0, 1) := by decide +kernel
theorem d_Mo_fails_1 : decode b_Mo_fails 1 = .ok (.getfield 91, 3) := by decide +kernel
theorem d_Mo_fails_4 : decode b_Mo_fails 4 = .ok (.ifCond .eq 17, 3) := by decide +kernel
theorem d_Mo_fails_7 : decode b_Mo_fails 7 = .ok (.iload_n 1, 1) := by decide +kernel
theorem d_Mo_fails_8 : decode b_Mo_fails 8 = .ok (.iconst 0, 1) := by decide +kernel
theorem d_Mo_fails_9 : decode b_Mo_fails 9 = .ok (.aload_n 0, 1) := by decide +kernel
theorem d_Mo_fails_10 : decode b_Mo_fails 10 = .ok (.getfield 103, 3) := by decide +kernel
theorem d_Mo_fails_13 : decode b_Mo_fails 13 = .ok (.iconst 1, 1) := by decide +kernel
theorem d_Mo_fails_14 : decode b_Mo_fails 14 = .ok (.isub, 1) := by decide +kernel
theorem d_Mo_fails_15 : decode b_Mo_fails 15 = .ok (.invokestatic 84, 3) := by decide +kernel
theorem d_Mo_fails_18 : decode b_Mo_fails 18 = .ok (.ifCond .ne 6, 3) := by decide +kernel
theorem d_Mo_fails_21 : decode b_Mo_fails 21 = .ok (.bipush (-2), 2) := by decide +kernel
theorem d_Mo_fails_23 : decode b_Mo_fails 23 = .ok (.ireturn, 1) := by decide +kernel
theorem d_Mo_fails_24 : decode b_Mo_fails 24 = .ok (.iconst 0, 1) := by decide +kernel
theorem d_Mo_fails_25 : decode b_Mo_fails 25 = .ok (.istore_n 2, 1) := by decide +kernel
theorem d_Mo_fails_26 : decode b_Mo_fails 26 = .ok (.iload_n 2, 1) := by decide +kernel
theorem d_Mo_fails_27 : decode b_Mo_fails 27 = .ok (.aload_n 0, 1) := by decide +kernel
theorem d_Mo_fails_28 : decode b_Mo_fails 28 = .ok (.getfield 106, 3) := by decide +kernel
theorem d_Mo_fails_31 : decode b_Mo_fails 31 = .ok (.if_icmp .ge 25, 3) := by decide +kernel
theorem d_Mo_fails_34 : decode b_Mo_fails 34 = .ok (.aload_n 0, 1) := by decide +kernel
theorem d_Mo_fails_35 : decode b_Mo_fails 35 = .ok (.iload_n 1, 1) := by decide +kernel
theorem d_Mo_fails_36 : decode b_Mo_fails 36 = .ok (.aload_n 0, 1) := by decide +kernel
theorem d_Mo_fails_37 : decode b_Mo_fails 37 = .ok (.getfield 31, 3) := by decide +kernel
theorem d_Mo_fails_40 : decode b_Mo_fails 40 = .ok (.iload_n 2, 1) := by decide +kernel
theorem d_Mo_fails_41 : decode b_Mo_fails 41 = .ok (.iaload, 1) := by decide +kernel
theorem d_Mo_fails_42 : decode b_Mo_fails 42 = .ok (.invokevirtual 115, 3) := by decide +kernel
theorem d_Mo_fails_45 : decode b_Mo_fails 45 = .ok (.ifCond .eq 5, 3) := by decide +kernel
theorem d_Mo_fails_48 : decode b_Mo_fails 48 = .ok (.iload_n 2, 1) := by decide +kernel
theorem d_Mo_fails_49 : decode b_Mo_fails 49 = .ok (.ireturn, 1) := by decide +kernel
theorem d_Mo_fails_50 : decode b_Mo_fails 50 = .ok (.iinc 2 1, 3) := by decide +kernel
theorem d_Mo_fails_53 : decode b_Mo_fails 53 = .ok (.goto (-27), 3) := by decide +kernel
theorem d_Mo_fails_56 : decode b_Mo_fails 56 = .ok (.bipush (-2), 2) := by decide +kernel
theorem d_Mo_fails_58 : decode b_Mo_fails 58 = .ok (.ireturn, 1) := by decide +kernel
theorem d_Mo_isDone_0 : decode b_Mo_isDone 0 = .ok (.iload_n 0, 1) := by decide +kernel
theorem d_Mo_isDone_1 : decode b_Mo_isDone 1 = .ok (.sipush 511, 3) := by decide +kernel
theorem d_Mo_isDone_4 : decode b_Mo_isDone 4 = .ok (.iand, 1) := by decide +kernel
theorem d_Mo_isDone_5 : decode b_Mo_isDone 5 = .ok (.sipush 511, 3) := by decide +kernel
theorem d_Mo_isDone_8 : decode b_Mo_isDone 8 = .ok (.if_icmp .ne 7, 3) := by decide +kernel
theorem d_Mo_isDone_11 : decode b_Mo_isDone 11 = .ok (.iconst 1, 1) := by decide +kernel
theorem d_Mo_isDone_12 : decode b_Mo_isDone 12 = .ok (.goto 4, 3) := by decide +kernel
theorem d_Mo_isDone_15 : decode b_Mo_isDone 15 = .ok (.iconst 0, 1) := by decide +kernel
theorem d_Mo_isDone_16 : decode b_Mo_isDone 16 = .ok (.ireturn, 1) := by decide +kernel
theorem d_Mo_stuck_0 : decode b_Mo_stuck 0 = .ok (.iconst 0, 1) := by decide +kernel
theorem d_Mo_stuck_1 : decode b_Mo_stuck 1 = .ok (.istore_n 2, 1) := by decide +kernel
theorem d_Mo_stuck_2 : decode b_Mo_stuck 2 = .ok (.iload_n 2, 1) := by decide +kernel
theorem d_Mo_stuck_3 : decode b_Mo_stuck 3 = .ok (.aload_n 0, 1) := by decide +kernel
theorem d_Mo_stuck_4 : decode b_Mo_stuck 4 = .ok (.getfield 106, 3) := by decide +kernel
theorem d_Mo_stuck_7 : decode b_Mo_stuck 7 = .ok (.if_icmp .ge 44, 3) := by decide +kernel
theorem d_Mo_stuck_10 : decode b_Mo_stuck 10 = .ok (.aload_n 0, 1) := by decide +kernel
theorem d_Mo_stuck_11 : decode b_Mo_stuck 11 = .ok (.getfield 91, 3) := by decide +kernel
theorem d_Mo_stuck_14 : decode b_Mo_stuck 14 = .ok (.ifCond .eq 37, 3) := by decide +kernel
theorem d_Mo_stuck_17 : decode b_Mo_stuck 17 = .ok (.aload_n 0, 1) := by decide +kernel
theorem d_Mo_stuck_18 : decode b_Mo_stuck 18 = .ok (.aload_n 0, 1) := by decide +kernel
theorem d_Mo_stuck_19 : decode b_Mo_stuck 19 = .ok (.getfield 31, 3) := by decide +kernel
theorem d_Mo_stuck_22 : decode b_Mo_stuck 22 = .ok (.iload_n 2, 1) := by decide +kernel
theorem d_Mo_stuck_23 : decode b_Mo_stuck 23 = .ok (.iaload, 1) := by decide +kernel
theorem d_Mo_stuck_24 : decode b_Mo_stuck 24 = .ok (.invokevirtual 118, 3) := by decide +kernel
theorem d_Mo_stuck_27 : decode b_Mo_stuck 27 = .ok (.ifCond .ne 18, 3) := by decide +kernel
theorem d_Mo_stuck_30 : decode b_Mo_stuck 30 = .ok (.aload_n 0, 1) := by decide +kernel
theorem d_Mo_stuck_31 : decode b_Mo_stuck 31 = .ok (.getfield 31, 3) := by decide +kernel
theorem d_Mo_stuck_34 : decode b_Mo_stuck 34 = .ok (.iload_n 2, 1) := by decide +kernel
theorem d_Mo_stuck_35 : decode b_Mo_stuck 35 = .ok (.iaload, 1) := by decide +kernel
theorem d_Mo_stuck_36 : decode b_Mo_stuck 36 = .ok (.invokestatic 121, 3) := by decide +kernel
theorem d_Mo_stuck_39 : decode b_Mo_stuck 39 = .ok (.iload_n 1, 1) := by decide +kernel
theorem d_Mo_stuck_40 : decode b_Mo_stuck 40 = .ok (.if_icmp .ne 5, 3) := by decide +kernel
theorem d_Mo_stuck_43 : decode b_Mo_stuck 43 = .ok (.iload_n 2, 1) := by decide +kernel
theorem d_Mo_stuck_44 : decode b_Mo_stuck 44 = .ok (.ireturn, 1) := by decide +kernel
theorem d_Mo_stuck_45 : decode b_Mo_stuck 45 = .ok (.iinc 2 1, 3) := by decide +kernel
theorem d_Mo_stuck_48 : decode b_Mo_stuck 48 = .ok (.goto (-46), 3) := by decide +kernel
theorem d_Mo_stuck_51 : decode b_Mo_stuck 51 = .ok (.bipush (-2), 2) := by decide +kernel
theorem d_Mo_stuck_53 : decode b_Mo_stuck 53 = .ok (.ireturn, 1) := by decide +kernel
theorem d_Mo_avoids_0 : decode b_Mo_avoids 0 = .ok (.iload_n 2, 1) := by decide +kernel
theorem d_Mo_avoids_1 : decode b_Mo_avoids 1 = .ok (.iconst 0, 1) := by decide +kernel
theorem d_Mo_avoids_2 : decode b_Mo_avoids 2 = .ok (.iconst 1, 1) := by decide +kernel
theorem d_Mo_avoids_3 : decode b_Mo_avoids 3 = .ok (.invokestatic 84, 3) := by decide +kernel
theorem d_Mo_avoids_6 : decode b_Mo_avoids 6 = .ok (.ifCond .ne 5, 3) := by decide +kernel
theorem d_Mo_avoids_9 : decode b_Mo_avoids 9 = .ok (.iconst (-1), 1) := by decide +kernel
theorem d_Mo_avoids_10 : decode b_Mo_avoids 10 = .ok (.ireturn, 1) := by decide +kernel
theorem d_Mo_avoids_11 : decode b_Mo_avoids 11 = .ok (.aload_n 0, 1) := by decide +kernel
theorem d_Mo_avoids_12 : decode b_Mo_avoids 12 = .ok (.getfield 91, 3) := by decide +kernel
theorem d_Mo_avoids_15 : decode b_Mo_avoids 15 = .ok (.ifCond .eq 17, 3) := by decide +kernel
theorem d_Mo_avoids_18 : decode b_Mo_avoids 18 = .ok (.iload_n 1, 1) := by decide +kernel
theorem d_Mo_avoids_19 : decode b_Mo_avoids 19 = .ok (.iconst 0, 1) := by decide +kernel
theorem d_Mo_avoids_20 : decode b_Mo_avoids 20 = .ok (.aload_n 0, 1) := by decide +kernel
theorem d_Mo_avoids_21 : decode b_Mo_avoids 21 = .ok (.getfield 103, 3) := by decide +kernel
theorem d_Mo_avoids_24 : decode b_Mo_avoids 24 = .ok (.iconst 1, 1) := by decide +kernel
theorem d_Mo_avoids_25 : decode b_Mo_avoids 25 = .ok (.isub, 1) := by decide +kernel
theorem d_Mo_avoids_26 : decode b_Mo_avoids 26 = .ok (.invokestatic 84, 3) := by decide +kernel
theorem d_Mo_avoids_29 : decode b_Mo_avoids 29 = .ok (.ifCond .ne 6, 3) := by decide +kernel
theorem d_Mo_avoids_32 : decode b_Mo_avoids 32 = .ok (.bipush (-2), 2) := by decide +kernel
theorem d_Mo_avoids_34 : decode b_Mo_avoids 34 = .ok (.ireturn, 1) := by decide +kernel
theorem d_Mo_avoids_35 : decode b_Mo_avoids 35 = .ok (.iconst 0, 1) := by decide +kernel
theorem d_Mo_avoids_36 : decode b_Mo_avoids 36 = .ok (.istore_n 3, 1) := by decide +kernel
theorem d_Mo_avoids_37 : decode b_Mo_avoids 37 = .ok (.iload_n 3, 1) := by decide +kernel
theorem d_Mo_avoids_38 : decode b_Mo_avoids 38 = .ok (.aload_n 0, 1) := by decide +kernel
theorem d_Mo_avoids_39 : decode b_Mo_avoids 39 = .ok (.getfield 106, 3) := by decide +kernel
theorem d_Mo_avoids_42 : decode b_Mo_avoids 42 = .ok (.if_icmp .ge 34, 3) := by decide +kernel
theorem d_Mo_avoids_45 : decode b_Mo_avoids 45 = .ok (.aload_n 0, 1) := by decide +kernel
theorem d_Mo_avoids_46 : decode b_Mo_avoids 46 = .ok (.getfield 43, 3) := by decide +kernel
theorem d_Mo_avoids_49 : decode b_Mo_avoids 49 = .ok (.iload_n 3, 1) := by decide +kernel
theorem d_Mo_avoids_50 : decode b_Mo_avoids 50 = .ok (.aload_n 0, 1) := by decide +kernel
theorem d_Mo_avoids_51 : decode b_Mo_avoids 51 = .ok (.iload_n 1, 1) := by decide +kernel
theorem d_Mo_avoids_52 : decode b_Mo_avoids 52 = .ok (.aload_n 0, 1) := by decide +kernel
theorem d_Mo_avoids_53 : decode b_Mo_avoids 53 = .ok (.getfield 31, 3) := by decide +kernel
theorem d_Mo_avoids_56 : decode b_Mo_avoids 56 = .ok (.iload_n 3, 1) := by decide +kernel
theorem d_Mo_avoids_57 : decode b_Mo_avoids 57 = .ok (.iaload, 1) := by decide +kernel
theorem d_Mo_avoids_58 : decode b_Mo_avoids 58 = .ok (.invokevirtual 115, 3) := by decide +kernel
theorem d_Mo_avoids_61 : decode b_Mo_avoids 61 = .ok (.ifCond .ne 7, 3) := by decide +kernel
theorem d_Mo_avoids_64 : decode b_Mo_avoids 64 = .ok (.iconst 1, 1) := by decide +kernel
theorem d_Mo_avoids_65 : decode b_Mo_avoids 65 = .ok (.goto 4, 3) := by decide +kernel
theorem d_Mo_avoids_68 : decode b_Mo_avoids 68 = .ok (.iconst 0, 1) := by decide +kernel
theorem d_Mo_avoids_69 : decode b_Mo_avoids 69 = .ok (.bastore, 1) := by decide +kernel
theorem d_Mo_avoids_70 : decode b_Mo_avoids 70 = .ok (.iinc 3 1, 3) := by decide +kernel
theorem d_Mo_avoids_73 : decode b_Mo_avoids 73 = .ok (.goto (-36), 3) := by decide +kernel
theorem d_Mo_avoids_76 : decode b_Mo_avoids 76 = .ok (.iconst 1, 1) := by decide +kernel
theorem d_Mo_avoids_77 : decode b_Mo_avoids 77 = .ok (.istore_n 3, 1) := by decide +kernel
theorem d_Mo_avoids_78 : decode b_Mo_avoids 78 = .ok (.iload_n 3, 1) := by decide +kernel
theorem d_Mo_avoids_79 : decode b_Mo_avoids 79 = .ok (.ifCond .eq 58, 3) := by decide +kernel
theorem d_Mo_avoids_82 : decode b_Mo_avoids 82 = .ok (.iconst 0, 1) := by decide +kernel
theorem d_Mo_avoids_83 : decode b_Mo_avoids 83 = .ok (.istore_n 3, 1) := by decide +kernel
theorem d_Mo_avoids_84 : decode b_Mo_avoids 84 = .ok (.iconst 0, 1) := by decide +kernel
theorem d_Mo_avoids_85 : decode b_Mo_avoids 85 = .ok (.istore 4, 2) := by decide +kernel
theorem d_Mo_avoids_87 : decode b_Mo_avoids 87 = .ok (.iload 4, 2) := by decide +kernel
theorem d_Mo_avoids_89 : decode b_Mo_avoids 89 = .ok (.aload_n 0, 1) := by decide +kernel
theorem d_Mo_avoids_90 : decode b_Mo_avoids 90 = .ok (.getfield 106, 3) := by decide +kernel
theorem d_Mo_avoids_93 : decode b_Mo_avoids 93 = .ok (.if_icmp .ge 41, 3) := by decide +kernel
theorem d_Mo_avoids_96 : decode b_Mo_avoids 96 = .ok (.aload_n 0, 1) := by decide +kernel
theorem d_Mo_avoids_97 : decode b_Mo_avoids 97 = .ok (.getfield 43, 3) := by decide +kernel
theorem d_Mo_avoids_100 : decode b_Mo_avoids 100 = .ok (.iload 4, 2) := by decide +kernel
theorem d_Mo_avoids_102 : decode b_Mo_avoids 102 = .ok (.baload, 1) := by decide +kernel
theorem d_Mo_avoids_103 : decode b_Mo_avoids 103 = .ok (.ifCond .eq 25, 3) := by decide +kernel
theorem d_Mo_avoids_106 : decode b_Mo_avoids 106 = .ok (.aload_n 0, 1) := by decide +kernel
theorem d_Mo_avoids_107 : decode b_Mo_avoids 107 = .ok (.iload 4, 2) := by decide +kernel
theorem d_Mo_avoids_109 : decode b_Mo_avoids 109 = .ok (.invokevirtual 125, 3) := by decide +kernel
theorem d_Mo_avoids_112 : decode b_Mo_avoids 112 = .ok (.ifCond .eq 6, 3) := by decide +kernel
theorem d_Mo_avoids_115 : decode b_Mo_avoids 115 = .ok (.goto 13, 3) := by decide +kernel
theorem d_Mo_avoids_118 : decode b_Mo_avoids 118 = .ok (.aload_n 0, 1) := by decide +kernel
theorem d_Mo_avoids_119 : decode b_Mo_avoids 119 = .ok (.getfield 43, 3) := by decide +kernel
theorem d_Mo_avoids_122 : decode b_Mo_avoids 122 = .ok (.iload 4, 2) := by decide +kernel
theorem d_Mo_avoids_124 : decode b_Mo_avoids 124 = .ok (.iconst 0, 1) := by decide +kernel
theorem d_Mo_avoids_125 : decode b_Mo_avoids 125 = .ok (.bastore, 1) := by decide +kernel
theorem d_Mo_avoids_126 : decode b_Mo_avoids 126 = .ok (.iconst 1, 1) := by decide +kernel
theorem d_Mo_avoids_127 : decode b_Mo_avoids 127 = .ok (.istore_n 3, 1) := by decide +kernel
theorem d_Mo_avoids_128 : decode b_Mo_avoids 128 = .ok (.iinc 4 1, 3) := by decide +kernel
theorem d_Mo_avoids_131 : decode b_Mo_avoids 131 = .ok (.goto (-44), 3) := by decide +kernel
theorem d_Mo_avoids_134 : decode b_Mo_avoids 134 = .ok (.goto (-56), 3) := by decide +kernel
theorem d_Mo_avoids_137 : decode b_Mo_avoids 137 = .ok (.iconst 0, 1) := by decide +kernel
theorem d_Mo_avoids_138 : decode b_Mo_avoids 138 = .ok (.istore 4, 2) := by decide +kernel
theorem d_Mo_avoids_140 : decode b_Mo_avoids 140 = .ok (.bipush (-2), 2) := by decide +kernel
theorem d_Mo_avoids_142 : decode b_Mo_avoids 142 = .ok (.istore 5, 2) := by decide +kernel
theorem d_Mo_avoids_144 : decode b_Mo_avoids 144 = .ok (.aload_n 0, 1) := by decide +kernel
theorem d_Mo_avoids_145 : decode b_Mo_avoids 145 = .ok (.getfield 106, 3) := by decide +kernel
theorem d_Mo_avoids_148 : decode b_Mo_avoids 148 = .ok (.iconst 1, 1) := by decide +kernel
theorem d_Mo_avoids_149 : decode b_Mo_avoids 149 = .ok (.isub, 1) := by decide +kernel
theorem d_Mo_avoids_150 : decode b_Mo_avoids 150 = .ok (.istore 6, 2) := by decide +kernel
theorem d_Mo_avoids_152 : decode b_Mo_avoids 152 = .ok (.iload 6, 2) := by decide +kernel
theorem d_Mo_avoids_154 : decode b_Mo_avoids 154 = .ok (.ifCond .lt 29, 3) := by decide +kernel
theorem d_Mo_avoids_157 : decode b_Mo_avoids 157 = .ok (.aload_n 0, 1) := by decide +kernel
theorem d_Mo_avoids_158 : decode b_Mo_avoids 158 = .ok (.getfield 43, 3) := by decide +kernel
theorem d_Mo_avoids_161 : decode b_Mo_avoids 161 = .ok (.iload 6, 2) := by decide +kernel
theorem d_Mo_avoids_163 : decode b_Mo_avoids 163 = .ok (.baload, 1) := by decide +kernel
theorem d_Mo_avoids_164 : decode b_Mo_avoids 164 = .ok (.ifCond .ne 6, 3) := by decide +kernel
theorem d_Mo_avoids_167 : decode b_Mo_avoids 167 = .ok (.goto 10, 3) := by decide +kernel
theorem d_Mo_avoids_170 : decode b_Mo_avoids 170 = .ok (.iinc 4 1, 3) := by decide +kernel
theorem d_Mo_avoids_173 : decode b_Mo_avoids 173 = .ok (.iload 6, 2) := by decide +kernel
theorem d_Mo_avoids_175 : decode b_Mo_avoids 175 = .ok (.istore 5, 2) := by decide +kernel
theorem d_Mo_avoids_177 : decode b_Mo_avoids 177 = .ok (.iinc 6 (-1), 3) := by decide +kernel
theorem d_Mo_avoids_180 : decode b_Mo_avoids 180 = .ok (.goto (-28), 3) := by decide +kernel
theorem d_Mo_avoids_183 : decode b_Mo_avoids 183 = .ok (.iload_n 2, 1) := by decide +kernel
theorem d_Mo_avoids_184 : decode b_Mo_avoids 184 = .ok (.iconst 1, 1) := by decide +kernel
theorem d_Mo_avoids_185 : decode b_Mo_avoids 185 = .ok (.if_icmp .ne 8, 3) := by decide +kernel
theorem d_Mo_avoids_188 : decode b_Mo_avoids 188 = .ok (.iload 4, 2) := by decide +kernel
theorem d_Mo_avoids_190 : decode b_Mo_avoids 190 = .ok (.goto 5, 3) := by decide +kernel
theorem d_Mo_avoids_193 : decode b_Mo_avoids 193 = .ok (.iload 5, 2) := by decide +kernel
theorem d_Mo_avoids_195 : decode b_Mo_avoids 195 = .ok (.ireturn, 1) := by decide +kernel
theorem d_Mo_goesOn_0 : decode b_Mo_goesOn 0 = .ok (.iconst 0, 1) := by decide +kernel
theorem d_Mo_goesOn_1 : decode b_Mo_goesOn 1 = .ok (.istore_n 2, 1) := by decide +kernel
theorem d_Mo_goesOn_2 : decode b_Mo_goesOn 2 = .ok (.iconst 0, 1) := by decide +kernel
theorem d_Mo_goesOn_3 : decode b_Mo_goesOn 3 = .ok (.istore_n 3, 1) := by decide +kernel
theorem d_Mo_goesOn_4 : decode b_Mo_goesOn 4 = .ok (.iload_n 3, 1) := by decide +kernel
theorem d_Mo_goesOn_5 : decode b_Mo_goesOn 5 = .ok (.aload_n 0, 1) := by decide +kernel
theorem d_Mo_goesOn_6 : decode b_Mo_goesOn 6 = .ok (.getfield 77, 3) := by decide +kernel
theorem d_Mo_goesOn_9 : decode b_Mo_goesOn 9 = .ok (.if_icmp .ge 57, 3) := by decide +kernel
theorem d_Mo_goesOn_12 : decode b_Mo_goesOn 12 = .ok (.aload_n 0, 1) := by decide +kernel
theorem d_Mo_goesOn_13 : decode b_Mo_goesOn 13 = .ok (.aload_n 0, 1) := by decide +kernel
theorem d_Mo_goesOn_14 : decode b_Mo_goesOn 14 = .ok (.getfield 31, 3) := by decide +kernel
theorem d_Mo_goesOn_17 : decode b_Mo_goesOn 17 = .ok (.iload_n 1, 1) := by decide +kernel
theorem d_Mo_goesOn_18 : decode b_Mo_goesOn 18 = .ok (.iaload, 1) := by decide +kernel
theorem d_Mo_goesOn_19 : decode b_Mo_goesOn 19 = .ok (.iload_n 3, 1) := by decide +kernel
theorem d_Mo_goesOn_20 : decode b_Mo_goesOn 20 = .ok (.invokevirtual 80, 3) := by decide +kernel
theorem d_Mo_goesOn_23 : decode b_Mo_goesOn 23 = .ok (.ifCond .ne 6, 3) := by decide +kernel
theorem d_Mo_goesOn_26 : decode b_Mo_goesOn 26 = .ok (.goto 34, 3) := by decide +kernel
theorem d_Mo_goesOn_29 : decode b_Mo_goesOn 29 = .ok (.iconst 1, 1) := by decide +kernel
theorem d_Mo_goesOn_30 : decode b_Mo_goesOn 30 = .ok (.istore_n 2, 1) := by decide +kernel
theorem d_Mo_goesOn_31 : decode b_Mo_goesOn 31 = .ok (.aload_n 0, 1) := by decide +kernel
theorem d_Mo_goesOn_32 : decode b_Mo_goesOn 32 = .ok (.aload_n 0, 1) := by decide +kernel
theorem d_Mo_goesOn_33 : decode b_Mo_goesOn 33 = .ok (.getfield 31, 3) := by decide +kernel
theorem d_Mo_goesOn_36 : decode b_Mo_goesOn 36 = .ok (.iload_n 1, 1) := by decide +kernel
theorem d_Mo_goesOn_37 : decode b_Mo_goesOn 37 = .ok (.iaload, 1) := by decide +kernel
theorem d_Mo_goesOn_38 : decode b_Mo_goesOn 38 = .ok (.iload_n 3, 1) := by decide +kernel
theorem d_Mo_goesOn_39 : decode b_Mo_goesOn 39 = .ok (.invokevirtual 109, 3) := by decide +kernel
theorem d_Mo_goesOn_42 : decode b_Mo_goesOn 42 = .ok (.istore 4, 2) := by decide +kernel
theorem d_Mo_goesOn_44 : decode b_Mo_goesOn 44 = .ok (.aload_n 0, 1) := by decide +kernel
theorem d_Mo_goesOn_45 : decode b_Mo_goesOn 45 = .ok (.getfield 43, 3) := by decide +kernel
theorem d_Mo_goesOn_48 : decode b_Mo_goesOn 48 = .ok (.aload_n 0, 1) := by decide +kernel
theorem d_Mo_goesOn_49 : decode b_Mo_goesOn 49 = .ok (.iload 4, 2) := by decide +kernel
theorem d_Mo_goesOn_51 : decode b_Mo_goesOn 51 = .ok (.invokevirtual 112, 3) := by decide +kernel
theorem d_Mo_goesOn_54 : decode b_Mo_goesOn 54 = .ok (.baload, 1) := by decide +kernel
theorem d_Mo_goesOn_55 : decode b_Mo_goesOn 55 = .ok (.ifCond .eq 5, 3) := by decide +kernel
theorem d_Mo_goesOn_58 : decode b_Mo_goesOn 58 = .ok (.iconst 1, 1) := by decide +kernel
theorem d_Mo_goesOn_59 : decode b_Mo_goesOn 59 = .ok (.ireturn, 1) := by decide +kernel
theorem d_Mo_goesOn_60 : decode b_Mo_goesOn 60 = .ok (.iinc 3 1, 3) := by decide +kernel
theorem d_Mo_goesOn_63 : decode b_Mo_goesOn 63 = .ok (.goto (-59), 3) := by decide +kernel
theorem d_Mo_goesOn_66 : decode b_Mo_goesOn 66 = .ok (.iload_n 2, 1) := by decide +kernel
theorem d_Mo_goesOn_67 : decode b_Mo_goesOn 67 = .ok (.ifCond .ne 7, 3) := by decide +kernel
theorem d_Mo_goesOn_70 : decode b_Mo_goesOn 70 = .ok (.iconst 1, 1) := by decide +kernel
theorem d_Mo_goesOn_71 : decode b_Mo_goesOn 71 = .ok (.goto 4, 3) := by decide +kernel
theorem d_Mo_goesOn_74 : decode b_Mo_goesOn 74 = .ok (.iconst 0, 1) := by decide +kernel
theorem d_Mo_goesOn_75 : decode b_Mo_goesOn 75 = .ok (.ireturn, 1) := by decide +kernel
theorem d_Mo_way_0 : decode b_Mo_way 0 = .ok (.aload_n 0, 1) := by decide +kernel
theorem d_Mo_way_1 : decode b_Mo_way 1 = .ok (.iload_n 1, 1) := by decide +kernel
theorem d_Mo_way_2 : decode b_Mo_way 2 = .ok (.invokevirtual 128, 3) := by decide +kernel
theorem d_Mo_way_5 : decode b_Mo_way 5 = .ok (.ifCond .ne 6, 3) := by decide +kernel
theorem d_Mo_way_8 : decode b_Mo_way 8 = .ok (.bipush (-2), 2) := by decide +kernel
theorem d_Mo_way_10 : decode b_Mo_way 10 = .ok (.ireturn, 1) := by decide +kernel
theorem d_Mo_way_11 : decode b_Mo_way 11 = .ok (.iload_n 2, 1) := by decide +kernel
theorem d_Mo_way_12 : decode b_Mo_way 12 = .ok (.iconst (-1), 1) := by decide +kernel
theorem d_Mo_way_13 : decode b_Mo_way 13 = .ok (.if_icmp .ne 10, 3) := by decide +kernel
theorem d_Mo_way_16 : decode b_Mo_way 16 = .ok (.aload_n 0, 1) := by decide +kernel
theorem d_Mo_way_17 : decode b_Mo_way 17 = .ok (.getfield 40, 3) := by decide +kernel
theorem d_Mo_way_20 : decode b_Mo_way 20 = .ok (.iload_n 1, 1) := by decide +kernel
theorem d_Mo_way_21 : decode b_Mo_way 21 = .ok (.iaload, 1) := by decide +kernel
theorem d_Mo_way_22 : decode b_Mo_way 22 = .ok (.ireturn, 1) := by decide +kernel
theorem d_Mo_way_23 : decode b_Mo_way 23 = .ok (.iload_n 2, 1) := by decide +kernel
theorem d_Mo_way_24 : decode b_Mo_way 24 = .ok (.iconst 0, 1) := by decide +kernel
theorem d_Mo_way_25 : decode b_Mo_way 25 = .ok (.aload_n 0, 1) := by decide +kernel
theorem d_Mo_way_26 : decode b_Mo_way 26 = .ok (.getfield 40, 3) := by decide +kernel
theorem d_Mo_way_29 : decode b_Mo_way 29 = .ok (.iload_n 1, 1) := by decide +kernel
theorem d_Mo_way_30 : decode b_Mo_way 30 = .ok (.iaload, 1) := by decide +kernel
theorem d_Mo_way_31 : decode b_Mo_way 31 = .ok (.iconst 1, 1) := by decide +kernel
theorem d_Mo_way_32 : decode b_Mo_way 32 = .ok (.isub, 1) := by decide +kernel
theorem d_Mo_way_33 : decode b_Mo_way 33 = .ok (.invokestatic 84, 3) := by decide +kernel
theorem d_Mo_way_36 : decode b_Mo_way 36 = .ok (.ifCond .ne 6, 3) := by decide +kernel
theorem d_Mo_way_39 : decode b_Mo_way 39 = .ok (.bipush (-2), 2) := by decide +kernel
theorem d_Mo_way_41 : decode b_Mo_way 41 = .ok (.ireturn, 1) := by decide +kernel
theorem d_Mo_way_42 : decode b_Mo_way 42 = .ok (.iload_n 1, 1) := by decide +kernel
theorem d_Mo_way_43 : decode b_Mo_way 43 = .ok (.istore_n 3, 1) := by decide +kernel
theorem d_Mo_way_44 : decode b_Mo_way 44 = .ok (.aload_n 0, 1) := by decide +kernel
theorem d_Mo_way_45 : decode b_Mo_way 45 = .ok (.getfield 40, 3) := by decide +kernel
theorem d_Mo_way_48 : decode b_Mo_way 48 = .ok (.iload_n 3, 1) := by decide +kernel
theorem d_Mo_way_49 : decode b_Mo_way 49 = .ok (.iaload, 1) := by decide +kernel
theorem d_Mo_way_50 : decode b_Mo_way 50 = .ok (.iload_n 2, 1) := by decide +kernel
theorem d_Mo_way_51 : decode b_Mo_way 51 = .ok (.iconst 1, 1) := by decide +kernel
theorem d_Mo_way_52 : decode b_Mo_way 52 = .ok (.iadd, 1) := by decide +kernel
theorem d_Mo_way_53 : decode b_Mo_way 53 = .ok (.if_icmp .le 13, 3) := by decide +kernel
theorem d_Mo_way_56 : decode b_Mo_way 56 = .ok (.aload_n 0, 1) := by decide +kernel
theorem d_Mo_way_57 : decode b_Mo_way 57 = .ok (.getfield 34, 3) := by decide +kernel
theorem d_Mo_way_60 : decode b_Mo_way 60 = .ok (.iload_n 3, 1) := by decide +kernel
theorem d_Mo_way_61 : decode b_Mo_way 61 = .ok (.iaload, 1) := by decide +kernel
theorem d_Mo_way_62 : decode b_Mo_way 62 = .ok (.istore_n 3, 1) := by decide +kernel
theorem d_Mo_way_63 : decode b_Mo_way 63 = .ok (.goto (-19), 3) := by decide +kernel
theorem d_Mo_way_66 : decode b_Mo_way 66 = .ok (.aload_n 0, 1) := by decide +kernel
theorem d_Mo_way_67 : decode b_Mo_way 67 = .ok (.getfield 37, 3) := by decide +kernel
theorem d_Mo_way_70 : decode b_Mo_way 70 = .ok (.iload_n 3, 1) := by decide +kernel
theorem d_Mo_way_71 : decode b_Mo_way 71 = .ok (.iaload, 1) := by decide +kernel
theorem d_Mo_way_72 : decode b_Mo_way 72 = .ok (.ireturn, 1) := by decide +kernel
theorem d_Mo_told_0 : decode b_Mo_told 0 = .ok (.iload_n 2, 1) := by decide +kernel
theorem d_Mo_told_1 : decode b_Mo_told 1 = .ok (.iconst 3, 1) := by decide +kernel
theorem d_Mo_told_2 : decode b_Mo_told 2 = .ok (.if_icmp .ge 9, 3) := by decide +kernel
theorem d_Mo_told_5 : decode b_Mo_told 5 = .ok (.iload_n 1, 1) := by decide +kernel
theorem d_Mo_told_6 : decode b_Mo_told 6 = .ok (.iload_n 2, 1) := by decide +kernel
theorem d_Mo_told_7 : decode b_Mo_told 7 = .ok (.invokestatic 57, 3) := by decide +kernel
theorem d_Mo_told_10 : decode b_Mo_told 10 = .ok (.ireturn, 1) := by decide +kernel
theorem d_Mo_told_11 : decode b_Mo_told 11 = .ok (.iload_n 2, 1) := by decide +kernel
theorem d_Mo_told_12 : decode b_Mo_told 12 = .ok (.bipush 7, 2) := by decide +kernel
theorem d_Mo_told_14 : decode b_Mo_told 14 = .ok (.if_icmp .ge 11, 3) := by decide +kernel
theorem d_Mo_told_17 : decode b_Mo_told 17 = .ok (.iload_n 1, 1) := by decide +kernel
theorem d_Mo_told_18 : decode b_Mo_told 18 = .ok (.iload_n 2, 1) := by decide +kernel
theorem d_Mo_told_19 : decode b_Mo_told 19 = .ok (.iconst 3, 1) := by decide +kernel
theorem d_Mo_told_20 : decode b_Mo_told 20 = .ok (.isub, 1) := by decide +kernel
theorem d_Mo_told_21 : decode b_Mo_told 21 = .ok (.invokestatic 61, 3) := by decide +kernel
theorem d_Mo_told_24 : decode b_Mo_told 24 = .ok (.ireturn, 1) := by decide +kernel
theorem d_Mo_told_25 : decode b_Mo_told 25 = .ok (.iload_n 2, 1) := by decide +kernel
theorem d_Mo_told_26 : decode b_Mo_told 26 = .ok (.bipush 7, 2) := by decide +kernel
theorem d_Mo_told_28 : decode b_Mo_told 28 = .ok (.if_icmp .ne 8, 3) := by decide +kernel
theorem d_Mo_told_31 : decode b_Mo_told 31 = .ok (.iload_n 1, 1) := by decide +kernel
theorem d_Mo_told_32 : decode b_Mo_told 32 = .ok (.invokestatic 64, 3) := by decide +kernel
theorem d_Mo_told_35 : decode b_Mo_told 35 = .ok (.ireturn, 1) := by decide +kernel
theorem d_Mo_told_36 : decode b_Mo_told 36 = .ok (.iload_n 2, 1) := by decide +kernel
theorem d_Mo_told_37 : decode b_Mo_told 37 = .ok (.bipush 8, 2) := by decide +kernel
theorem d_Mo_told_39 : decode b_Mo_told 39 = .ok (.isub, 1) := by decide +kernel
theorem d_Mo_told_40 : decode b_Mo_told 40 = .ok (.iload_n 1, 1) := by decide +kernel
theorem d_Mo_told_41 : decode b_Mo_told 41 = .ok (.invokestatic 64, 3) := by decide +kernel
theorem d_Mo_told_44 : decode b_Mo_told 44 = .ok (.if_icmp .ge 14, 3) := by decide +kernel
theorem d_Mo_told_47 : decode b_Mo_told 47 = .ok (.iload_n 1, 1) := by decide +kernel
theorem d_Mo_told_48 : decode b_Mo_told 48 = .ok (.iload_n 2, 1) := by decide +kernel
theorem d_Mo_told_49 : decode b_Mo_told 49 = .ok (.bipush 8, 2) := by decide +kernel
theorem d_Mo_told_51 : decode b_Mo_told 51 = .ok (.isub, 1) := by decide +kernel
theorem d_Mo_told_52 : decode b_Mo_told 52 = .ok (.invokestatic 73, 3) := by decide +kernel
theorem d_Mo_told_55 : decode b_Mo_told 55 = .ok (.goto 5, 3) := by decide +kernel
theorem d_Mo_told_58 : decode b_Mo_told 58 = .ok (.bipush (-2), 2) := by decide +kernel
theorem d_Mo_told_60 : decode b_Mo_told 60 = .ok (.ireturn, 1) := by decide +kernel
theorem d_Mo_state_0 : decode b_Mo_state 0 = .ok (.iload_n 2, 1) := by decide +kernel
theorem d_Mo_state_1 : decode b_Mo_state 1 = .ok (.iconst 0, 1) := by decide +kernel
theorem d_Mo_state_2 : decode b_Mo_state 2 = .ok (.bipush 12, 2) := by decide +kernel
theorem d_Mo_state_4 : decode b_Mo_state 4 = .ok (.invokestatic 84, 3) := by decide +kernel
theorem d_Mo_state_7 : decode b_Mo_state 7 = .ok (.ifCond .ne 5, 3) := by decide +kernel
theorem d_Mo_state_10 : decode b_Mo_state 10 = .ok (.iconst (-1), 1) := by decide +kernel
theorem d_Mo_state_11 : decode b_Mo_state 11 = .ok (.ireturn, 1) := by decide +kernel
theorem d_Mo_state_12 : decode b_Mo_state 12 = .ok (.aload_n 0, 1) := by decide +kernel
theorem d_Mo_state_13 : decode b_Mo_state 13 = .ok (.iload_n 1, 1) := by decide +kernel
theorem d_Mo_state_14 : decode b_Mo_state 14 = .ok (.invokevirtual 128, 3) := by decide +kernel
theorem d_Mo_state_17 : decode b_Mo_state 17 = .ok (.ifCond .ne 6, 3) := by decide +kernel
theorem d_Mo_state_20 : decode b_Mo_state 20 = .ok (.bipush (-2), 2) := by decide +kernel
theorem d_Mo_state_22 : decode b_Mo_state 22 = .ok (.ireturn, 1) := by decide +kernel
theorem d_Mo_state_23 : decode b_Mo_state 23 = .ok (.iload_n 2, 1) := by decide +kernel
theorem d_Mo_state_24 : decode b_Mo_state 24 = .ok (.bipush 10, 2) := by decide +kernel
theorem d_Mo_state_26 : decode b_Mo_state 26 = .ok (.if_icmp .ge 15, 3) := by decide +kernel
theorem d_Mo_state_29 : decode b_Mo_state 29 = .ok (.aload_n 0, 1) := by decide +kernel
theorem d_Mo_state_30 : decode b_Mo_state 30 = .ok (.aload_n 0, 1) := by decide +kernel
theorem d_Mo_state_31 : decode b_Mo_state 31 = .ok (.getfield 31, 3) := by decide +kernel
theorem d_Mo_state_34 : decode b_Mo_state 34 = .ok (.iload_n 1, 1) := by decide +kernel
theorem d_Mo_state_35 : decode b_Mo_state 35 = .ok (.iaload, 1) := by decide +kernel
theorem d_Mo_state_36 : decode b_Mo_state 36 = .ok (.iload_n 2, 1) := by decide +kernel
theorem d_Mo_state_37 : decode b_Mo_state 37 = .ok (.invokevirtual 131, 3) := by decide +kernel
theorem d_Mo_state_40 : decode b_Mo_state 40 = .ok (.ireturn, 1) := by decide +kernel
theorem d_Mo_state_41 : decode b_Mo_state 41 = .ok (.iload_n 2, 1) := by decide +kernel
theorem d_Mo_state_42 : decode b_Mo_state 42 = .ok (.bipush 10, 2) := by decide +kernel
theorem d_Mo_state_44 : decode b_Mo_state 44 = .ok (.if_icmp .ne 14, 3) := by decide +kernel
theorem d_Mo_state_47 : decode b_Mo_state 47 = .ok (.aload_n 0, 1) := by decide +kernel
theorem d_Mo_state_48 : decode b_Mo_state 48 = .ok (.aload_n 0, 1) := by decide +kernel
theorem d_Mo_state_49 : decode b_Mo_state 49 = .ok (.getfield 31, 3) := by decide +kernel
theorem d_Mo_state_52 : decode b_Mo_state 52 = .ok (.iload_n 1, 1) := by decide +kernel
theorem d_Mo_state_53 : decode b_Mo_state 53 = .ok (.iaload, 1) := by decide +kernel
theorem d_Mo_state_54 : decode b_Mo_state 54 = .ok (.invokevirtual 118, 3) := by decide +kernel
theorem d_Mo_state_57 : decode b_Mo_state 57 = .ok (.ireturn, 1) := by decide +kernel
theorem d_Mo_state_58 : decode b_Mo_state 58 = .ok (.iconst 0, 1) := by decide +kernel
theorem d_Mo_state_59 : decode b_Mo_state 59 = .ok (.istore_n 3, 1) := by decide +kernel
theorem d_Mo_state_60 : decode b_Mo_state 60 = .ok (.bipush (-2), 2) := by decide +kernel
theorem d_Mo_state_62 : decode b_Mo_state 62 = .ok (.istore 4, 2) := by decide +kernel
theorem d_Mo_state_64 : decode b_Mo_state 64 = .ok (.aload_n 0, 1) := by decide +kernel
theorem d_Mo_state_65 : decode b_Mo_state 65 = .ok (.getfield 77, 3) := by decide +kernel
theorem d_Mo_state_68 : decode b_Mo_state 68 = .ok (.iconst 1, 1) := by decide +kernel
theorem d_Mo_state_69 : decode b_Mo_state 69 = .ok (.isub, 1) := by decide +kernel
theorem d_Mo_state_70 : decode b_Mo_state 70 = .ok (.istore 5, 2) := by decide +kernel
theorem d_Mo_state_72 : decode b_Mo_state 72 = .ok (.iload 5, 2) := by decide +kernel
theorem d_Mo_state_74 : decode b_Mo_state 74 = .ok (.ifCond .lt 121, 3) := by decide +kernel
theorem d_Mo_state_77 : decode b_Mo_state 77 = .ok (.aload_n 0, 1) := by decide +kernel
theorem d_Mo_state_78 : decode b_Mo_state 78 = .ok (.aload_n 0, 1) := by decide +kernel
theorem d_Mo_state_79 : decode b_Mo_state 79 = .ok (.getfield 31, 3) := by decide +kernel
theorem d_Mo_state_82 : decode b_Mo_state 82 = .ok (.iload_n 1, 1) := by decide +kernel
theorem d_Mo_state_83 : decode b_Mo_state 83 = .ok (.iaload, 1) := by decide +kernel
theorem d_Mo_state_84 : decode b_Mo_state 84 = .ok (.iload 5, 2) := by decide +kernel
theorem d_Mo_state_86 : decode b_Mo_state 86 = .ok (.invokevirtual 80, 3) := by decide +kernel
theorem d_Mo_state_89 : decode b_Mo_state 89 = .ok (.ifCond .ne 6, 3) := by decide +kernel
theorem d_Mo_state_92 : decode b_Mo_state 92 = .ok (.goto 97, 3) := by decide +kernel
theorem d_Mo_state_95 : decode b_Mo_state 95 = .ok (.iconst 0, 1) := by decide +kernel
theorem d_Mo_state_96 : decode b_Mo_state 96 = .ok (.istore 6, 2) := by decide +kernel
theorem d_Mo_state_98 : decode b_Mo_state 98 = .ok (.iconst 0, 1) := by decide +kernel
theorem d_Mo_state_99 : decode b_Mo_state 99 = .ok (.istore 7, 2) := by decide +kernel
theorem d_Mo_state_101 : decode b_Mo_state 101 = .ok (.iload 7, 2) := by decide +kernel
theorem d_Mo_state_103 : decode b_Mo_state 103 = .ok (.iload 5, 2) := by decide +kernel
theorem d_Mo_state_105 : decode b_Mo_state 105 = .ok (.if_icmp .ge 54, 3) := by decide +kernel
theorem d_Mo_state_108 : decode b_Mo_state 108 = .ok (.aload_n 0, 1) := by decide +kernel
theorem d_Mo_state_109 : decode b_Mo_state 109 = .ok (.aload_n 0, 1) := by decide +kernel
theorem d_Mo_state_110 : decode b_Mo_state 110 = .ok (.getfield 31, 3) := by decide +kernel
theorem d_Mo_state_113 : decode b_Mo_state 113 = .ok (.iload_n 1, 1) := by decide +kernel
theorem d_Mo_state_114 : decode b_Mo_state 114 = .ok (.iaload, 1) := by decide +kernel
theorem d_Mo_state_115 : decode b_Mo_state 115 = .ok (.iload 7, 2) := by decide +kernel
theorem d_Mo_state_117 : decode b_Mo_state 117 = .ok (.invokevirtual 80, 3) := by decide +kernel
theorem d_Mo_state_120 : decode b_Mo_state 120 = .ok (.ifCond .eq 33, 3) := by decide +kernel
theorem d_Mo_state_123 : decode b_Mo_state 123 = .ok (.aload_n 0, 1) := by decide +kernel
theorem d_Mo_state_124 : decode b_Mo_state 124 = .ok (.aload_n 0, 1) := by decide +kernel
theorem d_Mo_state_125 : decode b_Mo_state 125 = .ok (.getfield 31, 3) := by decide +kernel
theorem d_Mo_state_128 : decode b_Mo_state 128 = .ok (.iload_n 1, 1) := by decide +kernel
theorem d_Mo_state_129 : decode b_Mo_state 129 = .ok (.iaload, 1) := by decide +kernel
theorem d_Mo_state_130 : decode b_Mo_state 130 = .ok (.iload 7, 2) := by decide +kernel
theorem d_Mo_state_132 : decode b_Mo_state 132 = .ok (.invokevirtual 109, 3) := by decide +kernel
theorem d_Mo_state_135 : decode b_Mo_state 135 = .ok (.aload_n 0, 1) := by decide +kernel
theorem d_Mo_state_136 : decode b_Mo_state 136 = .ok (.aload_n 0, 1) := by decide +kernel
theorem d_Mo_state_137 : decode b_Mo_state 137 = .ok (.getfield 31, 3) := by decide +kernel
theorem d_Mo_state_140 : decode b_Mo_state 140 = .ok (.iload_n 1, 1) := by decide +kernel
theorem d_Mo_state_141 : decode b_Mo_state 141 = .ok (.iaload, 1) := by decide +kernel
theorem d_Mo_state_142 : decode b_Mo_state 142 = .ok (.iload 5, 2) := by decide +kernel
theorem d_Mo_state_144 : decode b_Mo_state 144 = .ok (.invokevirtual 109, 3) := by decide +kernel
theorem d_Mo_state_147 : decode b_Mo_state 147 = .ok (.if_icmp .ne 6, 3) := by decide +kernel
theorem d_Mo_state_150 : decode b_Mo_state 150 = .ok (.iconst 1, 1) := by decide +kernel
theorem d_Mo_state_151 : decode b_Mo_state 151 = .ok (.istore 6, 2) := by decide +kernel
theorem d_Mo_state_153 : decode b_Mo_state 153 = .ok (.iinc 7 1, 3) := by decide +kernel
theorem d_Mo_state_156 : decode b_Mo_state 156 = .ok (.goto (-55), 3) := by decide +kernel
theorem d_Mo_state_159 : decode b_Mo_state 159 = .ok (.iload 6, 2) := by decide +kernel
theorem d_Mo_state_161 : decode b_Mo_state 161 = .ok (.ifCond .ne 6, 3) := by decide +kernel
theorem d_Mo_state_164 : decode b_Mo_state 164 = .ok (.iinc 3 1, 3) := by decide +kernel
theorem d_Mo_state_167 : decode b_Mo_state 167 = .ok (.aload_n 0, 1) := by decide +kernel
theorem d_Mo_state_168 : decode b_Mo_state 168 = .ok (.aload_n 0, 1) := by decide +kernel
theorem d_Mo_state_169 : decode b_Mo_state 169 = .ok (.getfield 31, 3) := by decide +kernel
theorem d_Mo_state_172 : decode b_Mo_state 172 = .ok (.iload_n 1, 1) := by decide +kernel
theorem d_Mo_state_173 : decode b_Mo_state 173 = .ok (.iaload, 1) := by decide +kernel
theorem d_Mo_state_174 : decode b_Mo_state 174 = .ok (.iload 5, 2) := by decide +kernel
theorem d_Mo_state_176 : decode b_Mo_state 176 = .ok (.invokevirtual 109, 3) := by decide +kernel
theorem d_Mo_state_179 : decode b_Mo_state 179 = .ok (.istore 7, 2) := by decide +kernel
theorem d_Mo_state_181 : decode b_Mo_state 181 = .ok (.aload_n 0, 1) := by decide +kernel
theorem d_Mo_state_182 : decode b_Mo_state 182 = .ok (.iload 7, 2) := by decide +kernel
theorem d_Mo_state_184 : decode b_Mo_state 184 = .ok (.invokevirtual 112, 3) := by decide +kernel
theorem d_Mo_state_187 : decode b_Mo_state 187 = .ok (.istore 4, 2) := by decide +kernel
theorem d_Mo_state_189 : decode b_Mo_state 189 = .ok (.iinc 5 (-1), 3) := by decide +kernel
theorem d_Mo_state_192 : decode b_Mo_state 192 = .ok (.goto (-120), 3) := by decide +kernel
theorem d_Mo_state_195 : decode b_Mo_state 195 = .ok (.iload_n 2, 1) := by decide +kernel
theorem d_Mo_state_196 : decode b_Mo_state 196 = .ok (.bipush 11, 2) := by decide +kernel
theorem d_Mo_state_198 : decode b_Mo_state 198 = .ok (.if_icmp .ne 7, 3) := by decide +kernel
theorem d_Mo_state_201 : decode b_Mo_state 201 = .ok (.iload_n 3, 1) := by decide +kernel
theorem d_Mo_state_202 : decode b_Mo_state 202 = .ok (.goto 5, 3) := by decide +kernel
theorem d_Mo_state_205 : decode b_Mo_state 205 = .ok (.iload 4, 2) := by decide +kernel
theorem d_Mo_state_207 : decode b_Mo_state 207 = .ok (.ireturn, 1) := by decide +kernel
theorem d_Mo_walk_0 : decode b_Mo_walk 0 = .ok (.iload_n 1, 1) := by decide +kernel
theorem d_Mo_walk_1 : decode b_Mo_walk 1 = .ok (.iconst 0, 1) := by decide +kernel
theorem d_Mo_walk_2 : decode b_Mo_walk 2 = .ok (.aload_n 0, 1) := by decide +kernel
theorem d_Mo_walk_3 : decode b_Mo_walk 3 = .ok (.getfield 77, 3) := by decide +kernel
theorem d_Mo_walk_6 : decode b_Mo_walk 6 = .ok (.iconst 1, 1) := by decide +kernel
theorem d_Mo_walk_7 : decode b_Mo_walk 7 = .ok (.isub, 1) := by decide +kernel
theorem d_Mo_walk_8 : decode b_Mo_walk 8 = .ok (.invokestatic 84, 3) := by decide +kernel
theorem d_Mo_walk_11 : decode b_Mo_walk 11 = .ok (.ifCond .eq 15, 3) := by decide +kernel
theorem d_Mo_walk_14 : decode b_Mo_walk 14 = .ok (.aload_n 0, 1) := by decide +kernel
theorem d_Mo_walk_15 : decode b_Mo_walk 15 = .ok (.aload_n 0, 1) := by decide +kernel
theorem d_Mo_walk_16 : decode b_Mo_walk 16 = .ok (.getfield 50, 3) := by decide +kernel
theorem d_Mo_walk_19 : decode b_Mo_walk 19 = .ok (.iload_n 1, 1) := by decide +kernel
theorem d_Mo_walk_20 : decode b_Mo_walk 20 = .ok (.invokevirtual 80, 3) := by decide +kernel
theorem d_Mo_walk_23 : decode b_Mo_walk 23 = .ok (.ifCond .ne 5, 3) := by decide +kernel
theorem d_Mo_walk_26 : decode b_Mo_walk 26 = .ok (.iconst 0, 1) := by decide +kernel
theorem d_Mo_walk_27 : decode b_Mo_walk 27 = .ok (.ireturn, 1) := by decide +kernel
theorem d_Mo_walk_28 : decode b_Mo_walk 28 = .ok (.aload_n 0, 1) := by decide +kernel
theorem d_Mo_walk_29 : decode b_Mo_walk 29 = .ok (.aload_n 0, 1) := by decide +kernel
theorem d_Mo_walk_30 : decode b_Mo_walk 30 = .ok (.aload_n 0, 1) := by decide +kernel
theorem d_Mo_walk_31 : decode b_Mo_walk 31 = .ok (.getfield 50, 3) := by decide +kernel
theorem d_Mo_walk_34 : decode b_Mo_walk 34 = .ok (.iload_n 1, 1) := by decide +kernel
theorem d_Mo_walk_35 : decode b_Mo_walk 35 = .ok (.invokevirtual 109, 3) := by decide +kernel
theorem d_Mo_walk_38 : decode b_Mo_walk 38 = .ok (.putfield 50, 3) := by decide +kernel
theorem d_Mo_walk_41 : decode b_Mo_walk 41 = .ok (.aload_n 0, 1) := by decide +kernel
theorem d_Mo_walk_42 : decode b_Mo_walk 42 = .ok (.dup, 1) := by decide +kernel
theorem d_Mo_walk_43 : decode b_Mo_walk 43 = .ok (.getfield 88, 3) := by decide +kernel
theorem d_Mo_walk_46 : decode b_Mo_walk 46 = .ok (.iconst 1, 1) := by decide +kernel
theorem d_Mo_walk_47 : decode b_Mo_walk 47 = .ok (.iadd, 1) := by decide +kernel
theorem d_Mo_walk_48 : decode b_Mo_walk 48 = .ok (.putfield 88, 3) := by decide +kernel
theorem d_Mo_walk_51 : decode b_Mo_walk 51 = .ok (.iconst 1, 1) := by decide +kernel
theorem d_Mo_walk_52 : decode b_Mo_walk 52 = .ok (.ireturn, 1) := by decide +kernel
theorem d_Mo_go_0 : decode b_Mo_go 0 = .ok (.aload_n 0, 1) := by decide +kernel
theorem d_Mo_go_1 : decode b_Mo_go 1 = .ok (.iload_n 1, 1) := by decide +kernel
theorem d_Mo_go_2 : decode b_Mo_go 2 = .ok (.invokevirtual 128, 3) := by decide +kernel
theorem d_Mo_go_5 : decode b_Mo_go 5 = .ok (.ifCond .ne 5, 3) := by decide +kernel
theorem d_Mo_go_8 : decode b_Mo_go 8 = .ok (.iconst 0, 1) := by decide +kernel
theorem d_Mo_go_9 : decode b_Mo_go 9 = .ok (.ireturn, 1) := by decide +kernel
theorem d_Mo_go_10 : decode b_Mo_go 10 = .ok (.aload_n 0, 1) := by decide +kernel
theorem d_Mo_go_11 : decode b_Mo_go 11 = .ok (.aload_n 0, 1) := by decide +kernel
theorem d_Mo_go_12 : decode b_Mo_go 12 = .ok (.getfield 31, 3) := by decide +kernel
theorem d_Mo_go_15 : decode b_Mo_go 15 = .ok (.iload_n 1, 1) := by decide +kernel
theorem d_Mo_go_16 : decode b_Mo_go 16 = .ok (.iaload, 1) := by decide +kernel
theorem d_Mo_go_17 : decode b_Mo_go 17 = .ok (.putfield 50, 3) := by decide +kernel
theorem d_Mo_go_20 : decode b_Mo_go 20 = .ok (.iconst 1, 1) := by decide +kernel
theorem d_Mo_go_21 : decode b_Mo_go 21 = .ok (.ireturn, 1) := by decide +kernel
theorem d_Mo_now_0 : decode b_Mo_now 0 = .ok (.iload_n 1, 1) := by decide +kernel
theorem d_Mo_now_1 : decode b_Mo_now 1 = .ok (.iconst 0, 1) := by decide +kernel
theorem d_Mo_now_2 : decode b_Mo_now 2 = .ok (.bipush 13, 2) := by decide +kernel
theorem d_Mo_now_4 : decode b_Mo_now 4 = .ok (.invokestatic 84, 3) := by decide +kernel
theorem d_Mo_now_7 : decode b_Mo_now 7 = .ok (.ifCond .ne 5, 3) := by decide +kernel
theorem d_Mo_now_10 : decode b_Mo_now 10 = .ok (.iconst (-1), 1) := by decide +kernel
theorem d_Mo_now_11 : decode b_Mo_now 11 = .ok (.ireturn, 1) := by decide +kernel
theorem d_Mo_now_12 : decode b_Mo_now 12 = .ok (.iload_n 1, 1) := by decide +kernel
theorem d_Mo_now_13 : decode b_Mo_now 13 = .ok (.bipush 10, 2) := by decide +kernel
theorem d_Mo_now_15 : decode b_Mo_now 15 = .ok (.if_icmp .ge 13, 3) := by decide +kernel
theorem d_Mo_now_18 : decode b_Mo_now 18 = .ok (.aload_n 0, 1) := by decide +kernel
theorem d_Mo_now_19 : decode b_Mo_now 19 = .ok (.aload_n 0, 1) := by decide +kernel
theorem d_Mo_now_20 : decode b_Mo_now 20 = .ok (.getfield 50, 3) := by decide +kernel
theorem d_Mo_now_23 : decode b_Mo_now 23 = .ok (.iload_n 1, 1) := by decide +kernel
theorem d_Mo_now_24 : decode b_Mo_now 24 = .ok (.invokevirtual 131, 3) := by decide +kernel
theorem d_Mo_now_27 : decode b_Mo_now 27 = .ok (.ireturn, 1) := by decide +kernel
theorem d_Mo_now_28 : decode b_Mo_now 28 = .ok (.iload_n 1, 1) := by decide +kernel
theorem d_Mo_now_29 : decode b_Mo_now 29 = .ok (.bipush 10, 2) := by decide +kernel
theorem d_Mo_now_31 : decode b_Mo_now 31 = .ok (.if_icmp .ne 12, 3) := by decide +kernel
theorem d_Mo_now_34 : decode b_Mo_now 34 = .ok (.aload_n 0, 1) := by decide +kernel
theorem d_Mo_now_35 : decode b_Mo_now 35 = .ok (.aload_n 0, 1) := by decide +kernel
theorem d_Mo_now_36 : decode b_Mo_now 36 = .ok (.getfield 50, 3) := by decide +kernel
theorem d_Mo_now_39 : decode b_Mo_now 39 = .ok (.invokevirtual 118, 3) := by decide +kernel
theorem d_Mo_now_42 : decode b_Mo_now 42 = .ok (.ireturn, 1) := by decide +kernel
theorem d_Mo_now_43 : decode b_Mo_now 43 = .ok (.iload_n 1, 1) := by decide +kernel
theorem d_Mo_now_44 : decode b_Mo_now 44 = .ok (.bipush 13, 2) := by decide +kernel
theorem d_Mo_now_46 : decode b_Mo_now 46 = .ok (.if_icmp .ne 8, 3) := by decide +kernel
theorem d_Mo_now_49 : decode b_Mo_now 49 = .ok (.aload_n 0, 1) := by decide +kernel
theorem d_Mo_now_50 : decode b_Mo_now 50 = .ok (.getfield 88, 3) := by decide +kernel
theorem d_Mo_now_53 : decode b_Mo_now 53 = .ok (.ireturn, 1) := by decide +kernel
theorem d_Mo_now_54 : decode b_Mo_now 54 = .ok (.iload_n 1, 1) := by decide +kernel
theorem d_Mo_now_55 : decode b_Mo_now 55 = .ok (.bipush 11, 2) := by decide +kernel
theorem d_Mo_now_57 : decode b_Mo_now 57 = .ok (.if_icmp .ne 35, 3) := by decide +kernel
theorem d_Mo_now_60 : decode b_Mo_now 60 = .ok (.aload_n 0, 1) := by decide +kernel
theorem d_Mo_now_61 : decode b_Mo_now 61 = .ok (.getfield 91, 3) := by decide +kernel
theorem d_Mo_now_64 : decode b_Mo_now 64 = .ok (.ifCond .eq 25, 3) := by decide +kernel
theorem d_Mo_now_67 : decode b_Mo_now 67 = .ok (.aload_n 0, 1) := by decide +kernel
theorem d_Mo_now_68 : decode b_Mo_now 68 = .ok (.aload_n 0, 1) := by decide +kernel
theorem d_Mo_now_69 : decode b_Mo_now 69 = .ok (.getfield 50, 3) := by decide +kernel
theorem d_Mo_now_72 : decode b_Mo_now 72 = .ok (.invokevirtual 112, 3) := by decide +kernel
theorem d_Mo_now_75 : decode b_Mo_now 75 = .ok (.ifCond .lt 14, 3) := by decide +kernel
theorem d_Mo_now_78 : decode b_Mo_now 78 = .ok (.aload_n 0, 1) := by decide +kernel
theorem d_Mo_now_79 : decode b_Mo_now 79 = .ok (.aload_n 0, 1) := by decide +kernel
theorem d_Mo_now_80 : decode b_Mo_now 80 = .ok (.getfield 50, 3) := by decide +kernel
theorem d_Mo_now_83 : decode b_Mo_now 83 = .ok (.invokevirtual 112, 3) := by decide +kernel
theorem d_Mo_now_86 : decode b_Mo_now 86 = .ok (.goto 5, 3) := by decide +kernel
theorem d_Mo_now_89 : decode b_Mo_now 89 = .ok (.bipush (-2), 2) := by decide +kernel
theorem d_Mo_now_91 : decode b_Mo_now 91 = .ok (.ireturn, 1) := by decide +kernel
theorem d_Mo_now_92 : decode b_Mo_now 92 = .ok (.iconst 0, 1) := by decide +kernel
theorem d_Mo_now_93 : decode b_Mo_now 93 = .ok (.istore_n 2, 1) := by decide +kernel
theorem d_Mo_now_94 : decode b_Mo_now 94 = .ok (.iconst 0, 1) := by decide +kernel
theorem d_Mo_now_95 : decode b_Mo_now 95 = .ok (.istore_n 3, 1) := by decide +kernel
theorem d_Mo_now_96 : decode b_Mo_now 96 = .ok (.iload_n 3, 1) := by decide +kernel
theorem d_Mo_now_97 : decode b_Mo_now 97 = .ok (.aload_n 0, 1) := by decide +kernel
theorem d_Mo_now_98 : decode b_Mo_now 98 = .ok (.getfield 103, 3) := by decide +kernel
theorem d_Mo_now_101 : decode b_Mo_now 101 = .ok (.if_icmp .ge 24, 3) := by decide +kernel
theorem d_Mo_now_104 : decode b_Mo_now 104 = .ok (.aload_n 0, 1) := by decide +kernel
theorem d_Mo_now_105 : decode b_Mo_now 105 = .ok (.iload_n 3, 1) := by decide +kernel
theorem d_Mo_now_106 : decode b_Mo_now 106 = .ok (.aload_n 0, 1) := by decide +kernel
theorem d_Mo_now_107 : decode b_Mo_now 107 = .ok (.getfield 50, 3) := by decide +kernel
theorem d_Mo_now_110 : decode b_Mo_now 110 = .ok (.invokevirtual 115, 3) := by decide +kernel
theorem d_Mo_now_113 : decode b_Mo_now 113 = .ok (.ifCond .eq 6, 3) := by decide +kernel
theorem d_Mo_now_116 : decode b_Mo_now 116 = .ok (.iinc 2 1, 3) := by decide +kernel
theorem d_Mo_now_119 : decode b_Mo_now 119 = .ok (.iinc 3 1, 3) := by decide +kernel
theorem d_Mo_now_122 : decode b_Mo_now 122 = .ok (.goto (-26), 3) := by decide +kernel
theorem d_Mo_now_125 : decode b_Mo_now 125 = .ok (.iload_n 2, 1) := by decide +kernel
theorem d_Mo_now_126 : decode b_Mo_now 126 = .ok (.ireturn, 1) := by decide +kernel
theorem d_Mo_count_0 : decode b_Mo_count 0 = .ok (.iload_n 1, 1) := by decide +kernel
theorem d_Mo_count_1 : decode b_Mo_count 1 = .ok (.ifCond .eq 8, 3) := by decide +kernel
theorem d_Mo_count_4 : decode b_Mo_count 4 = .ok (.iload_n 1, 1) := by decide +kernel
theorem d_Mo_count_5 : decode b_Mo_count 5 = .ok (.iconst 1, 1) := by decide +kernel
theorem d_Mo_count_6 : decode b_Mo_count 6 = .ok (.if_icmp .ne 19, 3) := by decide +kernel
theorem d_Mo_count_9 : decode b_Mo_count 9 = .ok (.iload_n 1, 1) := by decide +kernel
theorem d_Mo_count_10 : decode b_Mo_count 10 = .ok (.ifCond .ne 10, 3) := by decide +kernel
theorem d_Mo_count_13 : decode b_Mo_count 13 = .ok (.aload_n 0, 1) := by decide +kernel
theorem d_Mo_count_14 : decode b_Mo_count 14 = .ok (.getfield 77, 3) := by decide +kernel
theorem d_Mo_count_17 : decode b_Mo_count 17 = .ok (.goto 7, 3) := by decide +kernel
theorem d_Mo_count_20 : decode b_Mo_count 20 = .ok (.aload_n 0, 1) := by decide +kernel
theorem d_Mo_count_21 : decode b_Mo_count 21 = .ok (.getfield 103, 3) := by decide +kernel
theorem d_Mo_count_24 : decode b_Mo_count 24 = .ok (.ireturn, 1) := by decide +kernel
theorem d_Mo_count_25 : decode b_Mo_count 25 = .ok (.iload_n 1, 1) := by decide +kernel
theorem d_Mo_count_26 : decode b_Mo_count 26 = .ok (.iconst 2, 1) := by decide +kernel
theorem d_Mo_count_27 : decode b_Mo_count 27 = .ok (.bipush 6, 2) := by decide +kernel
theorem d_Mo_count_29 : decode b_Mo_count 29 = .ok (.invokestatic 84, 3) := by decide +kernel
theorem d_Mo_count_32 : decode b_Mo_count 32 = .ok (.ifCond .ne 16, 3) := by decide +kernel
theorem d_Mo_count_35 : decode b_Mo_count 35 = .ok (.iload_n 1, 1) := by decide +kernel
theorem d_Mo_count_36 : decode b_Mo_count 36 = .ok (.bipush 10, 2) := by decide +kernel
theorem d_Mo_count_38 : decode b_Mo_count 38 = .ok (.bipush 33, 2) := by decide +kernel
theorem d_Mo_count_40 : decode b_Mo_count 40 = .ok (.invokestatic 84, 3) := by decide +kernel
theorem d_Mo_count_43 : decode b_Mo_count 43 = .ok (.ifCond .ne 5, 3) := by decide +kernel
theorem d_Mo_count_46 : decode b_Mo_count 46 = .ok (.iconst (-1), 1) := by decide +kernel
theorem d_Mo_count_47 : decode b_Mo_count 47 = .ok (.ireturn, 1) := by decide +kernel
theorem d_Mo_count_48 : decode b_Mo_count 48 = .ok (.aload_n 0, 1) := by decide +kernel
theorem d_Mo_count_49 : decode b_Mo_count 49 = .ok (.getfield 91, 3) := by decide +kernel
theorem d_Mo_count_52 : decode b_Mo_count 52 = .ok (.ifCond .eq 14, 3) := by decide +kernel
theorem d_Mo_count_55 : decode b_Mo_count 55 = .ok (.iload_n 1, 1) := by decide +kernel
theorem d_Mo_count_56 : decode b_Mo_count 56 = .ok (.bipush 10, 2) := by decide +kernel
theorem d_Mo_count_58 : decode b_Mo_count 58 = .ok (.isub, 1) := by decide +kernel
theorem d_Mo_count_59 : decode b_Mo_count 59 = .ok (.aload_n 0, 1) := by decide +kernel
theorem d_Mo_count_60 : decode b_Mo_count 60 = .ok (.getfield 77, 3) := by decide +kernel
theorem d_Mo_count_63 : decode b_Mo_count 63 = .ok (.if_icmp .lt 6, 3) := by decide +kernel
theorem d_Mo_count_66 : decode b_Mo_count 66 = .ok (.bipush (-2), 2) := by decide +kernel
theorem d_Mo_count_68 : decode b_Mo_count 68 = .ok (.ireturn, 1) := by decide +kernel
theorem d_Mo_count_69 : decode b_Mo_count 69 = .ok (.iload_n 1, 1) := by decide +kernel
theorem d_Mo_count_70 : decode b_Mo_count 70 = .ok (.iconst 2, 1) := by decide +kernel
theorem d_Mo_count_71 : decode b_Mo_count 71 = .ok (.if_icmp .ne 8, 3) := by decide +kernel
theorem d_Mo_count_74 : decode b_Mo_count 74 = .ok (.aload_n 0, 1) := by decide +kernel
theorem d_Mo_count_75 : decode b_Mo_count 75 = .ok (.getfield 106, 3) := by decide +kernel
theorem d_Mo_count_78 : decode b_Mo_count 78 = .ok (.ireturn, 1) := by decide +kernel
theorem d_Mo_count_79 : decode b_Mo_count 79 = .ok (.iconst 0, 1) := by decide +kernel
theorem d_Mo_count_80 : decode b_Mo_count 80 = .ok (.istore_n 2, 1) := by decide +kernel
theorem d_Mo_count_81 : decode b_Mo_count 81 = .ok (.iconst 0, 1) := by decide +kernel
theorem d_Mo_count_82 : decode b_Mo_count 82 = .ok (.istore_n 3, 1) := by decide +kernel
theorem d_Mo_count_83 : decode b_Mo_count 83 = .ok (.iload_n 3, 1) := by decide +kernel
theorem d_Mo_count_84 : decode b_Mo_count 84 = .ok (.aload_n 0, 1) := by decide +kernel
theorem d_Mo_count_85 : decode b_Mo_count 85 = .ok (.getfield 106, 3) := by decide +kernel
theorem d_Mo_count_88 : decode b_Mo_count 88 = .ok (.if_icmp .ge 127, 3) := by decide +kernel
theorem d_Mo_count_91 : decode b_Mo_count 91 = .ok (.iload_n 1, 1) := by decide +kernel
theorem d_Mo_count_92 : decode b_Mo_count 92 = .ok (.iconst 4, 1) := by decide +kernel
theorem d_Mo_count_93 : decode b_Mo_count 93 = .ok (.if_icmp .eq 9, 3) := by decide +kernel
theorem d_Mo_count_96 : decode b_Mo_count 96 = .ok (.iload_n 1, 1) := by decide +kernel
theorem d_Mo_count_97 : decode b_Mo_count 97 = .ok (.bipush 10, 2) := by decide +kernel
theorem d_Mo_count_99 : decode b_Mo_count 99 = .ok (.if_icmp .lt 7, 3) := by decide +kernel
theorem d_Mo_count_102 : decode b_Mo_count 102 = .ok (.iconst 0, 1) := by decide +kernel
theorem d_Mo_count_103 : decode b_Mo_count 103 = .ok (.goto 13, 3) := by decide +kernel
theorem d_Mo_count_106 : decode b_Mo_count 106 = .ok (.aload_n 0, 1) := by decide +kernel
theorem d_Mo_count_107 : decode b_Mo_count 107 = .ok (.aload_n 0, 1) := by decide +kernel
theorem d_Mo_count_108 : decode b_Mo_count 108 = .ok (.getfield 31, 3) := by decide +kernel
theorem d_Mo_count_111 : decode b_Mo_count 111 = .ok (.iload_n 3, 1) := by decide +kernel
theorem d_Mo_count_112 : decode b_Mo_count 112 = .ok (.iaload, 1) := by decide +kernel
theorem d_Mo_count_113 : decode b_Mo_count 113 = .ok (.invokevirtual 118, 3) := by decide +kernel
theorem d_Mo_count_116 : decode b_Mo_count 116 = .ok (.istore 4, 2) := by decide +kernel
theorem d_Mo_count_118 : decode b_Mo_count 118 = .ok (.iload_n 1, 1) := by decide +kernel
theorem d_Mo_count_119 : decode b_Mo_count 119 = .ok (.bipush 10, 2) := by decide +kernel
theorem d_Mo_count_121 : decode b_Mo_count 121 = .ok (.if_icmp .lt 20, 3) := by decide +kernel
theorem d_Mo_count_124 : decode b_Mo_count 124 = .ok (.aload_n 0, 1) := by decide +kernel
theorem d_Mo_count_125 : decode b_Mo_count 125 = .ok (.aload_n 0, 1) := by decide +kernel
theorem d_Mo_count_126 : decode b_Mo_count 126 = .ok (.getfield 31, 3) := by decide +kernel
theorem d_Mo_count_129 : decode b_Mo_count 129 = .ok (.iload_n 3, 1) := by decide +kernel
theorem d_Mo_count_130 : decode b_Mo_count 130 = .ok (.iaload, 1) := by decide +kernel
theorem d_Mo_count_131 : decode b_Mo_count 131 = .ok (.iload_n 1, 1) := by decide +kernel
theorem d_Mo_count_132 : decode b_Mo_count 132 = .ok (.bipush 10, 2) := by decide +kernel
theorem d_Mo_count_134 : decode b_Mo_count 134 = .ok (.isub, 1) := by decide +kernel
theorem d_Mo_count_135 : decode b_Mo_count 135 = .ok (.invokevirtual 80, 3) := by decide +kernel
theorem d_Mo_count_138 : decode b_Mo_count 138 = .ok (.ifCond .ne 36, 3) := by decide +kernel
theorem d_Mo_count_141 : decode b_Mo_count 141 = .ok (.iload_n 1, 1) := by decide +kernel
theorem d_Mo_count_142 : decode b_Mo_count 142 = .ok (.iconst 5, 1) := by decide +kernel
theorem d_Mo_count_143 : decode b_Mo_count 143 = .ok (.if_icmp .eq 9, 3) := by decide +kernel
theorem d_Mo_count_146 : decode b_Mo_count 146 = .ok (.iload_n 1, 1) := by decide +kernel
theorem d_Mo_count_147 : decode b_Mo_count 147 = .ok (.bipush 6, 2) := by decide +kernel
theorem d_Mo_count_149 : decode b_Mo_count 149 = .ok (.if_icmp .ne 28, 3) := by decide +kernel
theorem d_Mo_count_152 : decode b_Mo_count 152 = .ok (.iload 4, 2) := by decide +kernel
theorem d_Mo_count_154 : decode b_Mo_count 154 = .ok (.ifCond .ne 23, 3) := by decide +kernel
theorem d_Mo_count_157 : decode b_Mo_count 157 = .ok (.iload_n 1, 1) := by decide +kernel
theorem d_Mo_count_158 : decode b_Mo_count 158 = .ok (.iconst 5, 1) := by decide +kernel
theorem d_Mo_count_159 : decode b_Mo_count 159 = .ok (.if_icmp .eq 15, 3) := by decide +kernel
theorem d_Mo_count_162 : decode b_Mo_count 162 = .ok (.aload_n 0, 1) := by decide +kernel
theorem d_Mo_count_163 : decode b_Mo_count 163 = .ok (.getfield 31, 3) := by decide +kernel
theorem d_Mo_count_166 : decode b_Mo_count 166 = .ok (.iload_n 3, 1) := by decide +kernel
theorem d_Mo_count_167 : decode b_Mo_count 167 = .ok (.iaload, 1) := by decide +kernel
theorem d_Mo_count_168 : decode b_Mo_count 168 = .ok (.invokestatic 121, 3) := by decide +kernel
theorem d_Mo_count_171 : decode b_Mo_count 171 = .ok (.ifCond .eq 6, 3) := by decide +kernel
theorem d_Mo_count_174 : decode b_Mo_count 174 = .ok (.iinc 2 1, 3) := by decide +kernel
theorem d_Mo_count_177 : decode b_Mo_count 177 = .ok (.iload_n 1, 1) := by decide +kernel
theorem d_Mo_count_178 : decode b_Mo_count 178 = .ok (.iconst 3, 1) := by decide +kernel
theorem d_Mo_count_179 : decode b_Mo_count 179 = .ok (.if_icmp .ne 8, 3) := by decide +kernel
theorem d_Mo_count_182 : decode b_Mo_count 182 = .ok (.iload_n 2, 1) := by decide +kernel
theorem d_Mo_count_183 : decode b_Mo_count 183 = .ok (.iload 4, 2) := by decide +kernel
theorem d_Mo_count_185 : decode b_Mo_count 185 = .ok (.iadd, 1) := by decide +kernel
theorem d_Mo_count_186 : decode b_Mo_count 186 = .ok (.istore_n 2, 1) := by decide +kernel
theorem d_Mo_count_187 : decode b_Mo_count 187 = .ok (.iload_n 1, 1) := by decide +kernel
theorem d_Mo_count_188 : decode b_Mo_count 188 = .ok (.iconst 4, 1) := by decide +kernel
theorem d_Mo_count_189 : decode b_Mo_count 189 = .ok (.if_icmp .ne 20, 3) := by decide +kernel
theorem d_Mo_count_192 : decode b_Mo_count 192 = .ok (.aload_n 0, 1) := by decide +kernel
theorem d_Mo_count_193 : decode b_Mo_count 193 = .ok (.getfield 40, 3) := by decide +kernel
theorem d_Mo_count_196 : decode b_Mo_count 196 = .ok (.iload_n 3, 1) := by decide +kernel
theorem d_Mo_count_197 : decode b_Mo_count 197 = .ok (.iaload, 1) := by decide +kernel
theorem d_Mo_count_198 : decode b_Mo_count 198 = .ok (.iload_n 2, 1) := by decide +kernel
theorem d_Mo_count_199 : decode b_Mo_count 199 = .ok (.if_icmp .le 10, 3) := by decide +kernel
theorem d_Mo_count_202 : decode b_Mo_count 202 = .ok (.aload_n 0, 1) := by decide +kernel
theorem d_Mo_count_203 : decode b_Mo_count 203 = .ok (.getfield 40, 3) := by decide +kernel
theorem d_Mo_count_206 : decode b_Mo_count 206 = .ok (.iload_n 3, 1) := by decide +kernel
theorem d_Mo_count_207 : decode b_Mo_count 207 = .ok (.iaload, 1) := by decide +kernel
theorem d_Mo_count_208 : decode b_Mo_count 208 = .ok (.istore_n 2, 1) := by decide +kernel
theorem d_Mo_count_209 : decode b_Mo_count 209 = .ok (.iinc 3 1, 3) := by decide +kernel
theorem d_Mo_count_212 : decode b_Mo_count 212 = .ok (.goto (-129), 3) := by decide +kernel
theorem d_Mo_count_215 : decode b_Mo_count 215 = .ok (.iload_n 2, 1) := by decide +kernel
theorem d_Mo_count_216 : decode b_Mo_count 216 = .ok (.ireturn, 1) := by decide +kernel
