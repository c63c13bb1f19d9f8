theorem d_Co_parse_36 : decode c_Co_parse 36 = .ok (.aload_n 0, 1) := by decide +kernel
theorem d_Co_parse_37 : decode c_Co_parse 37 = .ok (.getfield 11, 3) := by decide +kernel
theorem d_Co_parse_40 : decode c_Co_parse 40 = .ok (.iconst 4, 1) := by decide +kernel
theorem d_Co_parse_41 : decode c_Co_parse 41 = .ok (.iaload, 1) := by decide +kernel
theorem d_Co_parse_42 : decode c_Co_parse 42 = .ok (.putfield 23, 3) := by decide +kernel
theorem d_Co_parse_45 : decode c_Co_parse 45 = .ok (.aload_n 0, 1) := by decide +kernel
theorem d_Co_parse_46 : decode c_Co_parse 46 = .ok (.getfield 23, 3) := by decide +kernel
theorem d_Co_parse_49 : decode c_Co_parse 49 = .ok (.ifCond .le 12, 3) := by decide +kernel
theorem d_Co_parse_52 : decode c_Co_parse 52 = .ok (.iconst 5, 1) := by decide +kernel
theorem d_Co_parse_53 : decode c_Co_parse 53 = .ok (.aload_n 0, 1) := by decide +kernel
theorem d_Co_parse_54 : decode c_Co_parse 54 = .ok (.getfield 23, 3) := by decide +kernel
theorem d_Co_parse_57 : decode c_Co_parse 57 = .ok (.iadd, 1) := by decide +kernel
theorem d_Co_parse_58 : decode c_Co_parse 58 = .ok (.goto 4, 3) := by decide +kernel
theorem d_Co_parse_61 : decode c_Co_parse 61 = .ok (.iconst 4, 1) := by decide +kernel
theorem d_Co_parse_62 : decode c_Co_parse 62 = .ok (.istore_n 1, 1) := by decide +kernel
theorem d_Co_parse_63 : decode c_Co_parse 63 = .ok (.aload_n 0, 1) := by decide +kernel
theorem d_Co_parse_64 : decode c_Co_parse 64 = .ok (.getfield 23, 3) := by decide +kernel
theorem d_Co_parse_67 : decode c_Co_parse 67 = .ok (.bipush 32, 2) := by decide +kernel
theorem d_Co_parse_69 : decode c_Co_parse 69 = .ok (.if_icmp .gt 21, 3) := by decide +kernel
theorem d_Co_parse_72 : decode c_Co_parse 72 = .ok (.aload_n 0, 1) := by decide +kernel
theorem d_Co_parse_73 : decode c_Co_parse 73 = .ok (.getfield 15, 3) := by decide +kernel
theorem d_Co_parse_76 : decode c_Co_parse 76 = .ok (.iload_n 1, 1) := by decide +kernel
theorem d_Co_parse_77 : decode c_Co_parse 77 = .ok (.if_icmp .lt 13, 3) := by decide +kernel
theorem d_Co_parse_80 : decode c_Co_parse 80 = .ok (.aload_n 0, 1) := by decide +kernel
theorem d_Co_parse_81 : decode c_Co_parse 81 = .ok (.getfield 15, 3) := by decide +kernel
theorem d_Co_parse_84 : decode c_Co_parse 84 = .ok (.iload_n 1, 1) := by decide +kernel
theorem d_Co_parse_85 : decode c_Co_parse 85 = .ok (.iconst 1, 1) := by decide +kernel
theorem d_Co_parse_86 : decode c_Co_parse 86 = .ok (.iadd, 1) := by decide +kernel
theorem d_Co_parse_87 : decode c_Co_parse 87 = .ok (.if_icmp .le 5, 3) := by decide +kernel
theorem d_Co_parse_90 : decode c_Co_parse 90 = .ok (.iconst 0, 1) := by decide +kernel
theorem d_Co_parse_91 : decode c_Co_parse 91 = .ok (.ireturn, 1) := by decide +kernel
theorem d_Co_parse_92 : decode c_Co_parse 92 = .ok (.aload_n 0, 1) := by decide +kernel
theorem d_Co_parse_93 : decode c_Co_parse 93 = .ok (.getfield 15, 3) := by decide +kernel
theorem d_Co_parse_96 : decode c_Co_parse 96 = .ok (.iload_n 1, 1) := by decide +kernel
theorem d_Co_parse_97 : decode c_Co_parse 97 = .ok (.if_icmp .le 27, 3) := by decide +kernel
theorem d_Co_parse_100 : decode c_Co_parse 100 = .ok (.aload_n 0, 1) := by decide +kernel
theorem d_Co_parse_101 : decode c_Co_parse 101 = .ok (.aload_n 0, 1) := by decide +kernel
theorem d_Co_parse_102 : decode c_Co_parse 102 = .ok (.getfield 11, 3) := by decide +kernel
theorem d_Co_parse_105 : decode c_Co_parse 105 = .ok (.iload_n 1, 1) := by decide +kernel
theorem d_Co_parse_106 : decode c_Co_parse 106 = .ok (.iaload, 1) := by decide +kernel
theorem d_Co_parse_107 : decode c_Co_parse 107 = .ok (.ifCond .ne 8, 3) := by decide +kernel
theorem d_Co_parse_110 : decode c_Co_parse 110 = .ok (.bipush 32, 2) := by decide +kernel
theorem d_Co_parse_112 : decode c_Co_parse 112 = .ok (.goto 9, 3) := by decide +kernel
theorem d_Co_parse_115 : decode c_Co_parse 115 = .ok (.aload_n 0, 1) := by decide +kernel
theorem d_Co_parse_116 : decode c_Co_parse 116 = .ok (.getfield 11, 3) := by decide +kernel
theorem d_Co_parse_119 : decode c_Co_parse 119 = .ok (.iload_n 1, 1) := by decide +kernel
theorem d_Co_parse_120 : decode c_Co_parse 120 = .ok (.iaload, 1) := by decide +kernel
theorem d_Co_parse_121 : decode c_Co_parse 121 = .ok (.putfield 26, 3) := by decide +kernel
theorem d_Co_parse_124 : decode c_Co_parse 124 = .ok (.iconst 1, 1) := by decide +kernel
theorem d_Co_parse_125 : decode c_Co_parse 125 = .ok (.ireturn, 1) := by decide +kernel
theorem d_Co_octetClass_0 : decode c_Co_octetClass 0 = .ok (.aload_n 0, 1) := by decide +kernel
theorem d_Co_octetClass_1 : decode c_Co_octetClass 1 = .ok (.getfield 11, 3) := by decide +kernel
theorem d_Co_octetClass_4 : decode c_Co_octetClass 4 = .ok (.iconst 0, 1) := by decide +kernel
theorem d_Co_octetClass_5 : decode c_Co_octetClass 5 = .ok (.iaload, 1) := by decide +kernel
theorem d_Co_octetClass_6 : decode c_Co_octetClass 6 = .ok (.ireturn, 1) := by decide +kernel
theorem d_Co_instruction_0 : decode c_Co_instruction 0 = .ok (.aload_n 0, 1) := by decide +kernel
theorem d_Co_instruction_1 : decode c_Co_instruction 1 = .ok (.getfield 11, 3) := by decide +kernel
theorem d_Co_instruction_4 : decode c_Co_instruction 4 = .ok (.iconst 1, 1) := by decide +kernel
theorem d_Co_instruction_5 : decode c_Co_instruction 5 = .ok (.iaload, 1) := by decide +kernel
theorem d_Co_instruction_6 : decode c_Co_instruction 6 = .ok (.ireturn, 1) := by decide +kernel
theorem d_Wo_find_0 : decode c_Wo_find 0 = .ok (.aload_n 0, 1) := by decide +kernel
theorem d_Wo_find_1 : decode c_Wo_find 1 = .ok (.getfield 21, 3) := by decide +kernel
theorem d_Wo_find_4 : decode c_Wo_find 4 = .ok (.invokevirtual 80, 3) := by decide +kernel
theorem d_Wo_find_7 : decode c_Wo_find 7 = .ok (.ifCond .ne 7, 3) := by decide +kernel
theorem d_Wo_find_10 : decode c_Wo_find 10 = .ok (.iconst 1, 1) := by decide +kernel
theorem d_Wo_find_11 : decode c_Wo_find 11 = .ok (.goto 4, 3) := by decide +kernel
theorem d_Wo_find_14 : decode c_Wo_find 14 = .ok (.iconst 0, 1) := by decide +kernel
theorem d_Wo_find_15 : decode c_Wo_find 15 = .ok (.istore_n 1, 1) := by decide +kernel
theorem d_Wo_find_16 : decode c_Wo_find 16 = .ok (.iload_n 1, 1) := by decide +kernel
theorem d_Wo_find_17 : decode c_Wo_find 17 = .ok (.ifCond .ne 14, 3) := by decide +kernel
theorem d_Wo_find_20 : decode c_Wo_find 20 = .ok (.aload_n 0, 1) := by decide +kernel
theorem d_Wo_find_21 : decode c_Wo_find 21 = .ok (.getfield 21, 3) := by decide +kernel
theorem d_Wo_find_24 : decode c_Wo_find 24 = .ok (.invokevirtual 80, 3) := by decide +kernel
theorem d_Wo_find_27 : decode c_Wo_find 27 = .ok (.iconst 3, 1) := by decide +kernel
theorem d_Wo_find_28 : decode c_Wo_find 28 = .ok (.if_icmp .ne 13, 3) := by decide +kernel
theorem d_Wo_find_31 : decode c_Wo_find 31 = .ok (.aload_n 0, 1) := by decide +kernel
theorem d_Wo_find_32 : decode c_Wo_find 32 = .ok (.getfield 21, 3) := by decide +kernel
theorem d_Wo_find_35 : decode c_Wo_find 35 = .ok (.invokevirtual 83, 3) := by decide +kernel
theorem d_Wo_find_38 : decode c_Wo_find 38 = .ok (.ifCond .eq 7, 3) := by decide +kernel
theorem d_Wo_find_41 : decode c_Wo_find 41 = .ok (.sipush 27270, 3) := by decide +kernel
theorem d_Wo_find_44 : decode c_Wo_find 44 = .ok (.ireturn, 1) := by decide +kernel
theorem d_Wo_find_45 : decode c_Wo_find 45 = .ok (.aload_n 0, 1) := by decide +kernel
theorem d_Wo_find_46 : decode c_Wo_find 46 = .ok (.getfield 21, 3) := by decide +kernel
theorem d_Wo_find_49 : decode c_Wo_find 49 = .ok (.getfield 86, 3) := by decide +kernel
theorem d_Wo_find_52 : decode c_Wo_find 52 = .ok (.iload_n 1, 1) := by decide +kernel
theorem d_Wo_find_53 : decode c_Wo_find 53 = .ok (.ifCond .eq 7, 3) := by decide +kernel
theorem d_Wo_find_56 : decode c_Wo_find 56 = .ok (.iconst 2, 1) := by decide +kernel
theorem d_Wo_find_57 : decode c_Wo_find 57 = .ok (.goto 4, 3) := by decide +kernel
theorem d_Wo_find_60 : decode c_Wo_find 60 = .ok (.iconst 0, 1) := by decide +kernel
theorem d_Wo_find_61 : decode c_Wo_find 61 = .ok (.if_icmp .eq 7, 3) := by decide +kernel
theorem d_Wo_find_64 : decode c_Wo_find 64 = .ok (.sipush 26368, 3) := by decide +kernel
theorem d_Wo_find_67 : decode c_Wo_find 67 = .ok (.ireturn, 1) := by decide +kernel
theorem d_Wo_find_68 : decode c_Wo_find 68 = .ok (.aload_n 0, 1) := by decide +kernel
theorem d_Wo_find_69 : decode c_Wo_find 69 = .ok (.getfield 12, 3) := by decide +kernel
theorem d_Wo_find_72 : decode c_Wo_find 72 = .ok (.getfield 89, 3) := by decide +kernel
theorem d_Wo_find_75 : decode c_Wo_find 75 = .ok (.astore_n 2, 1) := by decide +kernel
theorem d_Wo_find_76 : decode c_Wo_find 76 = .ok (.iload_n 1, 1) := by decide +kernel
theorem d_Wo_find_77 : decode c_Wo_find 77 = .ok (.ifCond .eq 21, 3) := by decide +kernel
theorem d_Wo_find_80 : decode c_Wo_find 80 = .ok (.aload_n 2, 1) := by decide +kernel
theorem d_Wo_find_81 : decode c_Wo_find 81 = .ok (.aload_n 0, 1) := by decide +kernel
theorem d_Wo_find_82 : decode c_Wo_find 82 = .ok (.getfield 40, 3) := by decide +kernel
theorem d_Wo_find_85 : decode c_Wo_find 85 = .ok (.aload_n 0, 1) := by decide +kernel
theorem d_Wo_find_86 : decode c_Wo_find 86 = .ok (.getfield 21, 3) := by decide +kernel
theorem d_Wo_find_89 : decode c_Wo_find 89 = .ok (.invokevirtual 93, 3) := by decide +kernel
theorem d_Wo_find_92 : decode c_Wo_find 92 = .ok (.invokevirtual 96, 3) := by decide +kernel
theorem d_Wo_find_95 : decode c_Wo_find 95 = .ok (.goto 7, 3) := by decide +kernel
theorem d_Wo_find_98 : decode c_Wo_find 98 = .ok (.aload_n 0, 1) := by decide +kernel
theorem d_Wo_find_99 : decode c_Wo_find 99 = .ok (.invokevirtual 101, 3) := by decide +kernel
theorem d_Wo_find_102 : decode c_Wo_find 102 = .ok (.istore_n 3, 1) := by decide +kernel
theorem d_Wo_find_103 : decode c_Wo_find 103 = .ok (.iload_n 3, 1) := by decide +kernel
theorem d_Wo_find_104 : decode c_Wo_find 104 = .ok (.iconst (-1), 1) := by decide +kernel
theorem d_Wo_find_105 : decode c_Wo_find 105 = .ok (.if_icmp .ne 7, 3) := by decide +kernel
theorem d_Wo_find_108 : decode c_Wo_find 108 = .ok (.sipush 27266, 3) := by decide +kernel
theorem d_Wo_find_111 : decode c_Wo_find 111 = .ok (.ireturn, 1) := by decide +kernel
theorem d_Wo_find_112 : decode c_Wo_find 112 = .ok (.aload_n 2, 1) := by decide +kernel
theorem d_Wo_find_113 : decode c_Wo_find 113 = .ok (.iload_n 3, 1) := by decide +kernel
theorem d_Wo_find_114 : decode c_Wo_find 114 = .ok (.invokevirtual 104, 3) := by decide +kernel
theorem d_Wo_find_117 : decode c_Wo_find 117 = .ok (.ifCond .eq 16, 3) := by decide +kernel
theorem d_Wo_find_120 : decode c_Wo_find 120 = .ok (.aload_n 0, 1) := by decide +kernel
theorem d_Wo_find_121 : decode c_Wo_find 121 = .ok (.iload_n 3, 1) := by decide +kernel
theorem d_Wo_find_122 : decode c_Wo_find 122 = .ok (.putfield 40, 3) := by decide +kernel
theorem d_Wo_find_125 : decode c_Wo_find 125 = .ok (.aload_n 0, 1) := by decide +kernel
theorem d_Wo_find_126 : decode c_Wo_find 126 = .ok (.iconst (-1), 1) := by decide +kernel
theorem d_Wo_find_127 : decode c_Wo_find 127 = .ok (.putfield 32, 3) := by decide +kernel
theorem d_Wo_find_130 : decode c_Wo_find 130 = .ok (.goto 8, 3) := by decide +kernel
theorem d_Wo_find_133 : decode c_Wo_find 133 = .ok (.aload_n 0, 1) := by decide +kernel
theorem d_Wo_find_134 : decode c_Wo_find 134 = .ok (.iload_n 3, 1) := by decide +kernel
theorem d_Wo_find_135 : decode c_Wo_find 135 = .ok (.putfield 32, 3) := by decide +kernel
theorem d_Wo_find_138 : decode c_Wo_find 138 = .ok (.ldc 108, 2) := by decide +kernel
theorem d_Wo_find_140 : decode c_Wo_find 140 = .ok (.ireturn, 1) := by decide +kernel
theorem d_Co_a_0 : decode c_Co_a 0 = .ok (.aload_n 0, 1) := by decide +kernel
theorem d_Co_a_1 : decode c_Co_a 1 = .ok (.getfield 11, 3) := by decide +kernel
theorem d_Co_a_4 : decode c_Co_a 4 = .ok (.iconst 2, 1) := by decide +kernel
theorem d_Co_a_5 : decode c_Co_a 5 = .ok (.iaload, 1) := by decide +kernel
theorem d_Co_a_6 : decode c_Co_a 6 = .ok (.ireturn, 1) := by decide +kernel
theorem d_Co_b_0 : decode c_Co_b 0 = .ok (.aload_n 0, 1) := by decide +kernel
theorem d_Co_b_1 : decode c_Co_b 1 = .ok (.getfield 11, 3) := by decide +kernel
theorem d_Co_b_4 : decode c_Co_b 4 = .ok (.iconst 3, 1) := by decide +kernel
theorem d_Co_b_5 : decode c_Co_b 5 = .ok (.iaload, 1) := by decide +kernel
theorem d_Co_b_6 : decode c_Co_b 6 = .ok (.ireturn, 1) := by decide +kernel
theorem d_Co_dataAsName_0 : decode c_Co_dataAsName 0 = .ok (.aload_n 0, 1) := by decide +kernel
theorem d_Co_dataAsName_1 : decode c_Co_dataAsName 1 = .ok (.iconst 0, 1) := by decide +kernel
theorem d_Co_dataAsName_2 : decode c_Co_dataAsName 2 = .ok (.invokevirtual 36, 3) := by decide +kernel
theorem d_Co_dataAsName_5 : decode c_Co_dataAsName 5 = .ok (.bipush 8, 2) := by decide +kernel
theorem d_Co_dataAsName_7 : decode c_Co_dataAsName 7 = .ok (.ishl, 1) := by decide +kernel
theorem d_Co_dataAsName_8 : decode c_Co_dataAsName 8 = .ok (.aload_n 0, 1) := by decide +kernel
theorem d_Co_dataAsName_9 : decode c_Co_dataAsName 9 = .ok (.iconst 1, 1) := by decide +kernel
theorem d_Co_dataAsName_10 : decode c_Co_dataAsName 10 = .ok (.invokevirtual 36, 3) := by decide +kernel
theorem d_Co_dataAsName_13 : decode c_Co_dataAsName 13 = .ok (.ior, 1) := by decide +kernel
theorem d_Co_dataAsName_14 : decode c_Co_dataAsName 14 = .ok (.ireturn, 1) := by decide +kernel
theorem d_Co_data_0 : decode c_Co_data 0 = .ok (.iload_n 1, 1) := by decide +kernel
theorem d_Co_data_1 : decode c_Co_data 1 = .ok (.ifCond .lt 20, 3) := by decide +kernel
theorem d_Co_data_4 : decode c_Co_data 4 = .ok (.iload_n 1, 1) := by decide +kernel
theorem d_Co_data_5 : decode c_Co_data 5 = .ok (.bipush 32, 2) := by decide +kernel
theorem d_Co_data_7 : decode c_Co_data 7 = .ok (.if_icmp .ge 14, 3) := by decide +kernel
theorem d_Co_data_10 : decode c_Co_data 10 = .ok (.aload_n 0, 1) := by decide +kernel
theorem d_Co_data_11 : decode c_Co_data 11 = .ok (.getfield 11, 3) := by decide +kernel
theorem d_Co_data_14 : decode c_Co_data 14 = .ok (.iconst 5, 1) := by decide +kernel
theorem d_Co_data_15 : decode c_Co_data 15 = .ok (.iload_n 1, 1) := by decide +kernel
theorem d_Co_data_16 : decode c_Co_data 16 = .ok (.iadd, 1) := by decide +kernel
theorem d_Co_data_17 : decode c_Co_data 17 = .ok (.iaload, 1) := by decide +kernel
theorem d_Co_data_18 : decode c_Co_data 18 = .ok (.goto 4, 3) := by decide +kernel
theorem d_Co_data_21 : decode c_Co_data 21 = .ok (.iconst 0, 1) := by decide +kernel
theorem d_Co_data_22 : decode c_Co_data 22 = .ok (.ireturn, 1) := by decide +kernel
theorem d_Fi_find_0 : decode c_Fi_find 0 = .ok (.iload_n 2, 1) := by decide +kernel
theorem d_Fi_find_1 : decode c_Fi_find 1 = .ok (.sipush 16128, 3) := by decide +kernel
theorem d_Fi_find_4 : decode c_Fi_find 4 = .ok (.if_icmp .ne 5, 3) := by decide +kernel
theorem d_Fi_find_7 : decode c_Fi_find 7 = .ok (.iconst 0, 1) := by decide +kernel
theorem d_Fi_find_8 : decode c_Fi_find 8 = .ok (.ireturn, 1) := by decide +kernel
theorem d_Fi_find_9 : decode c_Fi_find 9 = .ok (.iconst 1, 1) := by decide +kernel
theorem d_Fi_find_10 : decode c_Fi_find 10 = .ok (.istore_n 3, 1) := by decide +kernel
theorem d_Fi_find_11 : decode c_Fi_find 11 = .ok (.iload_n 3, 1) := by decide +kernel
theorem d_Fi_find_12 : decode c_Fi_find 12 = .ok (.aload_n 0, 1) := by decide +kernel
theorem d_Fi_find_13 : decode c_Fi_find 13 = .ok (.getfield 30, 3) := by decide +kernel
theorem d_Fi_find_16 : decode c_Fi_find 16 = .ok (.if_icmp .ge 31, 3) := by decide +kernel
theorem d_Fi_find_19 : decode c_Fi_find 19 = .ok (.aload_n 0, 1) := by decide +kernel
theorem d_Fi_find_20 : decode c_Fi_find 20 = .ok (.getfield 15, 3) := by decide +kernel
theorem d_Fi_find_23 : decode c_Fi_find 23 = .ok (.iload_n 3, 1) := by decide +kernel
theorem d_Fi_find_24 : decode c_Fi_find 24 = .ok (.iaload, 1) := by decide +kernel
theorem d_Fi_find_25 : decode c_Fi_find 25 = .ok (.iload_n 1, 1) := by decide +kernel
theorem d_Fi_find_26 : decode c_Fi_find 26 = .ok (.if_icmp .ne 15, 3) := by decide +kernel
theorem d_Fi_find_29 : decode c_Fi_find 29 = .ok (.aload_n 0, 1) := by decide +kernel
theorem d_Fi_find_30 : decode c_Fi_find 30 = .ok (.getfield 11, 3) := by decide +kernel
theorem d_Fi_find_33 : decode c_Fi_find 33 = .ok (.iload_n 3, 1) := by decide +kernel
theorem d_Fi_find_34 : decode c_Fi_find 34 = .ok (.iaload, 1) := by decide +kernel
theorem d_Fi_find_35 : decode c_Fi_find 35 = .ok (.iload_n 2, 1) := by decide +kernel
theorem d_Fi_find_36 : decode c_Fi_find 36 = .ok (.if_icmp .ne 5, 3) := by decide +kernel
theorem d_Fi_find_39 : decode c_Fi_find 39 = .ok (.iload_n 3, 1) := by decide +kernel
theorem d_Fi_find_40 : decode c_Fi_find 40 = .ok (.ireturn, 1) := by decide +kernel
theorem d_Fi_find_41 : decode c_Fi_find 41 = .ok (.iinc 3 1, 3) := by decide +kernel
theorem d_Fi_find_44 : decode c_Fi_find 44 = .ok (.goto (-33), 3) := by decide +kernel
theorem d_Fi_find_47 : decode c_Fi_find 47 = .ok (.iconst (-1), 1) := by decide +kernel
theorem d_Fi_find_48 : decode c_Fi_find 48 = .ok (.ireturn, 1) := by decide +kernel
theorem d_Wo_parentOfDirectory_0 : decode c_Wo_parentOfDirectory 0 = .ok (.aload_n 0, 1) := by decide +kernel
theorem d_Wo_parentOfDirectory_1 : decode c_Wo_parentOfDirectory 1 = .ok (.getfield 12, 3) := by decide +kernel
theorem d_Wo_parentOfDirectory_4 : decode c_Wo_parentOfDirectory 4 = .ok (.getfield 89, 3) := by decide +kernel
theorem d_Wo_parentOfDirectory_7 : decode c_Wo_parentOfDirectory 7 = .ok (.aload_n 0, 1) := by decide +kernel
theorem d_Wo_parentOfDirectory_8 : decode c_Wo_parentOfDirectory 8 = .ok (.getfield 40, 3) := by decide +kernel
theorem d_Wo_parentOfDirectory_11 : decode c_Wo_parentOfDirectory 11 = .ok (.invokevirtual 109, 3) := by decide +kernel
theorem d_Wo_parentOfDirectory_14 : decode c_Wo_parentOfDirectory 14 = .ok (.ifCond .eq 21, 3) := by decide +kernel
theorem d_Wo_parentOfDirectory_17 : decode c_Wo_parentOfDirectory 17 = .ok (.aload_n 0, 1) := by decide +kernel
theorem d_Wo_parentOfDirectory_18 : decode c_Wo_parentOfDirectory 18 = .ok (.getfield 12, 3) := by decide +kernel
theorem d_Wo_parentOfDirectory_21 : decode c_Wo_parentOfDirectory 21 = .ok (.getfield 89, 3) := by decide +kernel
theorem d_Wo_parentOfDirectory_24 : decode c_Wo_parentOfDirectory 24 = .ok (.getfield 112, 3) := by decide +kernel
theorem d_Wo_parentOfDirectory_27 : decode c_Wo_parentOfDirectory 27 = .ok (.aload_n 0, 1) := by decide +kernel
theorem d_Wo_parentOfDirectory_28 : decode c_Wo_parentOfDirectory 28 = .ok (.getfield 40, 3) := by decide +kernel
theorem d_Wo_parentOfDirectory_31 : decode c_Wo_parentOfDirectory 31 = .ok (.iaload, 1) := by decide +kernel
theorem d_Wo_parentOfDirectory_32 : decode c_Wo_parentOfDirectory 32 = .ok (.goto 4, 3) := by decide +kernel
theorem d_Wo_parentOfDirectory_35 : decode c_Wo_parentOfDirectory 35 = .ok (.iconst (-1), 1) := by decide +kernel
theorem d_Wo_parentOfDirectory_36 : decode c_Wo_parentOfDirectory 36 = .ok (.ireturn, 1) := by decide +kernel
theorem d_Wo_read_0 : decode c_Wo_read 0 = .ok (.aload_n 0, 1) := by decide +kernel
theorem d_Wo_read_1 : decode c_Wo_read 1 = .ok (.getfield 21, 3) := by decide +kernel
theorem d_Wo_read_4 : decode c_Wo_read 4 = .ok (.getfield 86, 3) := by decide +kernel
theorem d_Wo_read_7 : decode c_Wo_read 7 = .ok (.ifCond .gt 14, 3) := by decide +kernel
theorem d_Wo_read_10 : decode c_Wo_read 10 = .ok (.aload_n 0, 1) := by decide +kernel
theorem d_Wo_read_11 : decode c_Wo_read 11 = .ok (.getfield 21, 3) := by decide +kernel
theorem d_Wo_read_14 : decode c_Wo_read 14 = .ok (.getfield 120, 3) := by decide +kernel
theorem d_Wo_read_17 : decode c_Wo_read 17 = .ok (.iconst (-1), 1) := by decide +kernel
theorem d_Wo_read_18 : decode c_Wo_read 18 = .ok (.if_icmp .ne 7, 3) := by decide +kernel
theorem d_Wo_read_21 : decode c_Wo_read 21 = .ok (.sipush 26368, 3) := by decide +kernel
theorem d_Wo_read_24 : decode c_Wo_read 24 = .ok (.ireturn, 1) := by decide +kernel
theorem d_Wo_read_25 : decode c_Wo_read 25 = .ok (.aload_n 0, 1) := by decide +kernel
theorem d_Wo_read_26 : decode c_Wo_read 26 = .ok (.getfield 21, 3) := by decide +kernel
theorem d_Wo_read_29 : decode c_Wo_read 29 = .ok (.invokevirtual 123, 3) := by decide +kernel
theorem d_Wo_read_32 : decode c_Wo_read 32 = .ok (.istore_n 1, 1) := by decide +kernel
theorem d_Wo_read_33 : decode c_Wo_read 33 = .ok (.aload_n 0, 1) := by decide +kernel
theorem d_Wo_read_34 : decode c_Wo_read 34 = .ok (.iload_n 1, 1) := by decide +kernel
theorem d_Wo_read_35 : decode c_Wo_read 35 = .ok (.aload_n 0, 1) := by decide +kernel
theorem d_Wo_read_36 : decode c_Wo_read 36 = .ok (.getfield 12, 3) := by decide +kernel
theorem d_Wo_read_39 : decode c_Wo_read 39 = .ok (.getfield 89, 3) := by decide +kernel
theorem d_Wo_read_42 : decode c_Wo_read 42 = .ok (.aload_n 0, 1) := by decide +kernel
theorem d_Wo_read_43 : decode c_Wo_read 43 = .ok (.getfield 32, 3) := by decide +kernel
theorem d_Wo_read_46 : decode c_Wo_read 46 = .ok (.aload_n 0, 1) := by decide +kernel
theorem d_Wo_read_47 : decode c_Wo_read 47 = .ok (.getfield 36, 3) := by decide +kernel
theorem d_Wo_read_50 : decode c_Wo_read 50 = .ok (.invokevirtual 126, 3) := by decide +kernel
theorem d_Wo_read_53 : decode c_Wo_read 53 = .ok (.invokevirtual 130, 3) := by decide +kernel
theorem d_Wo_read_56 : decode c_Wo_read 56 = .ok (.istore_n 2, 1) := by decide +kernel
theorem d_Wo_read_57 : decode c_Wo_read 57 = .ok (.iload_n 2, 1) := by decide +kernel
theorem d_Wo_read_58 : decode c_Wo_read 58 = .ok (.ldc 108, 2) := by decide +kernel
theorem d_Wo_read_60 : decode c_Wo_read 60 = .ok (.if_icmp .eq 5, 3) := by decide +kernel
theorem d_Wo_read_63 : decode c_Wo_read 63 = .ok (.iload_n 2, 1) := by decide +kernel
theorem d_Wo_read_64 : decode c_Wo_read 64 = .ok (.ireturn, 1) := by decide +kernel
theorem d_Wo_read_65 : decode c_Wo_read 65 = .ok (.aload_n 0, 1) := by decide +kernel
theorem d_Wo_read_66 : decode c_Wo_read 66 = .ok (.getfield 12, 3) := by decide +kernel
theorem d_Wo_read_69 : decode c_Wo_read 69 = .ok (.getfield 89, 3) := by decide +kernel
theorem d_Wo_read_72 : decode c_Wo_read 72 = .ok (.getfield 134, 3) := by decide +kernel
theorem d_Wo_read_75 : decode c_Wo_read 75 = .ok (.aload_n 0, 1) := by decide +kernel
theorem d_Wo_read_76 : decode c_Wo_read 76 = .ok (.getfield 32, 3) := by decide +kernel
theorem d_Wo_read_79 : decode c_Wo_read 79 = .ok (.iaload, 1) := by decide +kernel
theorem d_Wo_read_80 : decode c_Wo_read 80 = .ok (.iload_n 1, 1) := by decide +kernel
theorem d_Wo_read_81 : decode c_Wo_read 81 = .ok (.isub, 1) := by decide +kernel
theorem d_Wo_read_82 : decode c_Wo_read 82 = .ok (.istore_n 3, 1) := by decide +kernel
theorem d_Wo_read_83 : decode c_Wo_read 83 = .ok (.iload_n 3, 1) := by decide +kernel
theorem d_Wo_read_84 : decode c_Wo_read 84 = .ok (.aload_n 0, 1) := by decide +kernel
theorem d_Wo_read_85 : decode c_Wo_read 85 = .ok (.getfield 21, 3) := by decide +kernel
theorem d_Wo_read_88 : decode c_Wo_read 88 = .ok (.getfield 120, 3) := by decide +kernel
theorem d_Wo_read_91 : decode c_Wo_read 91 = .ok (.invokestatic 137, 3) := by decide +kernel
theorem d_Wo_read_94 : decode c_Wo_read 94 = .ok (.istore 4, 2) := by decide +kernel
theorem d_Wo_read_96 : decode c_Wo_read 96 = .ok (.iconst 0, 1) := by decide +kernel
theorem d_Wo_read_97 : decode c_Wo_read 97 = .ok (.istore 5, 2) := by decide +kernel
theorem d_Wo_read_99 : decode c_Wo_read 99 = .ok (.iload 5, 2) := by decide +kernel
theorem d_Wo_read_101 : decode c_Wo_read 101 = .ok (.iload 4, 2) := by decide +kernel
theorem d_Wo_read_103 : decode c_Wo_read 103 = .ok (.if_icmp .ge 34, 3) := by decide +kernel
theorem d_Wo_read_106 : decode c_Wo_read 106 = .ok (.aload_n 0, 1) := by decide +kernel
theorem d_Wo_read_107 : decode c_Wo_read 107 = .ok (.getfield 28, 3) := by decide +kernel
theorem d_Wo_read_110 : decode c_Wo_read 110 = .ok (.aload_n 0, 1) := by decide +kernel
theorem d_Wo_read_111 : decode c_Wo_read 111 = .ok (.getfield 12, 3) := by decide +kernel
theorem d_Wo_read_114 : decode c_Wo_read 114 = .ok (.getfield 89, 3) := by decide +kernel
theorem d_Wo_read_117 : decode c_Wo_read 117 = .ok (.aload_n 0, 1) := by decide +kernel
theorem d_Wo_read_118 : decode c_Wo_read 118 = .ok (.getfield 32, 3) := by decide +kernel
theorem d_Wo_read_121 : decode c_Wo_read 121 = .ok (.iload_n 1, 1) := by decide +kernel
theorem d_Wo_read_122 : decode c_Wo_read 122 = .ok (.iload 5, 2) := by decide +kernel
theorem d_Wo_read_124 : decode c_Wo_read 124 = .ok (.iadd, 1) := by decide +kernel
theorem d_Wo_read_125 : decode c_Wo_read 125 = .ok (.invokevirtual 142, 3) := by decide +kernel
theorem d_Wo_read_128 : decode c_Wo_read 128 = .ok (.invokevirtual 76, 3) := by decide +kernel
theorem d_Wo_read_131 : decode c_Wo_read 131 = .ok (.iinc 5 1, 3) := by decide +kernel
theorem d_Wo_read_134 : decode c_Wo_read 134 = .ok (.goto (-35), 3) := by decide +kernel
theorem d_Wo_read_137 : decode c_Wo_read 137 = .ok (.iload_n 3, 1) := by decide +kernel
theorem d_Wo_read_138 : decode c_Wo_read 138 = .ok (.aload_n 0, 1) := by decide +kernel
theorem d_Wo_read_139 : decode c_Wo_read 139 = .ok (.getfield 21, 3) := by decide +kernel
theorem d_Wo_read_142 : decode c_Wo_read 142 = .ok (.getfield 120, 3) := by decide +kernel
theorem d_Wo_read_145 : decode c_Wo_read 145 = .ok (.if_icmp .ge 9, 3) := by decide +kernel
theorem d_Wo_read_148 : decode c_Wo_read 148 = .ok (.sipush 25218, 3) := by decide +kernel
theorem d_Wo_read_151 : decode c_Wo_read 151 = .ok (.goto 5, 3) := by decide +kernel
theorem d_Wo_read_154 : decode c_Wo_read 154 = .ok (.ldc 108, 2) := by decide +kernel
theorem d_Wo_read_156 : decode c_Wo_read 156 = .ok (.ireturn, 1) := by decide +kernel
theorem d_Co_place_0 : decode c_Co_place 0 = .ok (.aload_n 0, 1) := by decide +kernel
theorem d_Co_place_1 : decode c_Co_place 1 = .ok (.invokevirtual 29, 3) := by decide +kernel
theorem d_Co_place_4 : decode c_Co_place 4 = .ok (.bipush 8, 2) := by decide +kernel
theorem d_Co_place_6 : decode c_Co_place 6 = .ok (.ishl, 1) := by decide +kernel
theorem d_Co_place_7 : decode c_Co_place 7 = .ok (.aload_n 0, 1) := by decide +kernel
theorem d_Co_place_8 : decode c_Co_place 8 = .ok (.invokevirtual 33, 3) := by decide +kernel
theorem d_Co_place_11 : decode c_Co_place 11 = .ok (.ior, 1) := by decide +kernel
theorem d_Co_place_12 : decode c_Co_place 12 = .ok (.ireturn, 1) := by decide +kernel
theorem d_Fi_mayRead_0 : decode c_Fi_mayRead 0 = .ok (.aload_n 0, 1) := by decide +kernel
theorem d_Fi_mayRead_1 : decode c_Fi_mayRead 1 = .ok (.iload_n 1, 1) := by decide +kernel
theorem d_Fi_mayRead_2 : decode c_Fi_mayRead 2 = .ok (.invokevirtual 34, 3) := by decide +kernel
theorem d_Fi_mayRead_5 : decode c_Fi_mayRead 5 = .ok (.ifCond .eq 20, 3) := by decide +kernel
theorem d_Fi_mayRead_8 : decode c_Fi_mayRead 8 = .ok (.aload_n 0, 1) := by decide +kernel
theorem d_Fi_mayRead_9 : decode c_Fi_mayRead 9 = .ok (.getfield 21, 3) := by decide +kernel
theorem d_Fi_mayRead_12 : decode c_Fi_mayRead 12 = .ok (.iload_n 1, 1) := by decide +kernel
theorem d_Fi_mayRead_13 : decode c_Fi_mayRead 13 = .ok (.iaload, 1) := by decide +kernel
theorem d_Fi_mayRead_14 : decode c_Fi_mayRead 14 = .ok (.iload_n 2, 1) := by decide +kernel
theorem d_Fi_mayRead_15 : decode c_Fi_mayRead 15 = .ok (.invokestatic 42, 3) := by decide +kernel
theorem d_Fi_mayRead_18 : decode c_Fi_mayRead 18 = .ok (.ifCond .eq 7, 3) := by decide +kernel
theorem d_Fi_mayRead_21 : decode c_Fi_mayRead 21 = .ok (.iconst 1, 1) := by decide +kernel
theorem d_Fi_mayRead_22 : decode c_Fi_mayRead 22 = .ok (.goto 4, 3) := by decide +kernel
theorem d_Fi_mayRead_25 : decode c_Fi_mayRead 25 = .ok (.iconst 0, 1) := by decide +kernel
theorem d_Fi_mayRead_26 : decode c_Fi_mayRead 26 = .ok (.ireturn, 1) := by decide +kernel
theorem d_Fi_allows_0 : decode c_Fi_allows 0 = .ok (.iload_n 0, 1) := by decide +kernel
theorem d_Fi_allows_1 : decode c_Fi_allows 1 = .ok (.ifCond .eq 12, 3) := by decide +kernel
theorem d_Fi_allows_4 : decode c_Fi_allows 4 = .ok (.iload_n 0, 1) := by decide +kernel
theorem d_Fi_allows_5 : decode c_Fi_allows 5 = .ok (.iconst 1, 1) := by decide +kernel
theorem d_Fi_allows_6 : decode c_Fi_allows 6 = .ok (.if_icmp .ne 11, 3) := by decide +kernel
theorem d_Fi_allows_9 : decode c_Fi_allows 9 = .ok (.iload_n 1, 1) := by decide +kernel
theorem d_Fi_allows_10 : decode c_Fi_allows 10 = .ok (.ifCond .eq 7, 3) := by decide +kernel
theorem d_Fi_allows_13 : decode c_Fi_allows 13 = .ok (.iconst 1, 1) := by decide +kernel
theorem d_Fi_allows_14 : decode c_Fi_allows 14 = .ok (.goto 4, 3) := by decide +kernel
theorem d_Fi_allows_17 : decode c_Fi_allows 17 = .ok (.iconst 0, 1) := by decide +kernel
theorem d_Fi_allows_18 : decode c_Fi_allows 18 = .ok (.ireturn, 1) := by decide +kernel
theorem d_Wo_testPlace_0 : decode c_Wo_testPlace 0 = .ok (.aload_n 0, 1) := by decide +kernel
theorem d_Wo_testPlace_1 : decode c_Wo_testPlace 1 = .ok (.getfield 32, 3) := by decide +kernel
theorem d_Wo_testPlace_4 : decode c_Wo_testPlace 4 = .ok (.iconst (-1), 1) := by decide +kernel
theorem d_Wo_testPlace_5 : decode c_Wo_testPlace 5 = .ok (.if_icmp .ne 7, 3) := by decide +kernel
theorem d_Wo_testPlace_8 : decode c_Wo_testPlace 8 = .ok (.sipush 27014, 3) := by decide +kernel
theorem d_Wo_testPlace_11 : decode c_Wo_testPlace 11 = .ok (.ireturn, 1) := by decide +kernel
theorem d_Wo_testPlace_12 : decode c_Wo_testPlace 12 = .ok (.iload_n 2, 1) := by decide +kernel
theorem d_Wo_testPlace_13 : decode c_Wo_testPlace 13 = .ok (.ifCond .ne 7, 3) := by decide +kernel
theorem d_Wo_testPlace_16 : decode c_Wo_testPlace 16 = .ok (.sipush 27010, 3) := by decide +kernel
theorem d_Wo_testPlace_19 : decode c_Wo_testPlace 19 = .ok (.ireturn, 1) := by decide +kernel
theorem d_Wo_testPlace_20 : decode c_Wo_testPlace 20 = .ok (.aload_n 0, 1) := by decide +kernel
theorem d_Wo_testPlace_21 : decode c_Wo_testPlace 21 = .ok (.getfield 12, 3) := by decide +kernel
theorem d_Wo_testPlace_24 : decode c_Wo_testPlace 24 = .ok (.getfield 89, 3) := by decide +kernel
theorem d_Wo_testPlace_27 : decode c_Wo_testPlace 27 = .ok (.aload_n 0, 1) := by decide +kernel
theorem d_Wo_testPlace_28 : decode c_Wo_testPlace 28 = .ok (.getfield 32, 3) := by decide +kernel
theorem d_Wo_testPlace_31 : decode c_Wo_testPlace 31 = .ok (.iload_n 1, 1) := by decide +kernel
theorem d_Wo_testPlace_32 : decode c_Wo_testPlace 32 = .ok (.invokevirtual 116, 3) := by decide +kernel
theorem d_Wo_testPlace_35 : decode c_Wo_testPlace 35 = .ok (.ifCond .eq 8, 3) := by decide +kernel
theorem d_Wo_testPlace_38 : decode c_Wo_testPlace 38 = .ok (.ldc 108, 2) := by decide +kernel
theorem d_Wo_testPlace_40 : decode c_Wo_testPlace 40 = .ok (.goto 6, 3) := by decide +kernel
theorem d_Wo_testPlace_43 : decode c_Wo_testPlace 43 = .ok (.sipush 27392, 3) := by decide +kernel
theorem d_Wo_testPlace_46 : decode c_Wo_testPlace 46 = .ok (.ireturn, 1) := by decide +kernel
theorem d_Fi_hasOctet_0 : decode c_Fi_hasOctet 0 = .ok (.iload_n 1, 1) := by decide +kernel
theorem d_Fi_hasOctet_1 : decode c_Fi_hasOctet 1 = .ok (.ifCond .lt 29, 3) := by decide +kernel
theorem d_Fi_hasOctet_4 : decode c_Fi_hasOctet 4 = .ok (.iload_n 1, 1) := by decide +kernel
theorem d_Fi_hasOctet_5 : decode c_Fi_hasOctet 5 = .ok (.aload_n 0, 1) := by decide +kernel
theorem d_Fi_hasOctet_6 : decode c_Fi_hasOctet 6 = .ok (.getfield 30, 3) := by decide +kernel
theorem d_Fi_hasOctet_9 : decode c_Fi_hasOctet 9 = .ok (.if_icmp .ge 21, 3) := by decide +kernel
theorem d_Fi_hasOctet_12 : decode c_Fi_hasOctet 12 = .ok (.iload_n 2, 1) := by decide +kernel
theorem d_Fi_hasOctet_13 : decode c_Fi_hasOctet 13 = .ok (.ifCond .lt 17, 3) := by decide +kernel
theorem d_Fi_hasOctet_16 : decode c_Fi_hasOctet 16 = .ok (.iload_n 2, 1) := by decide +kernel
theorem d_Fi_hasOctet_17 : decode c_Fi_hasOctet 17 = .ok (.aload_n 0, 1) := by decide +kernel
theorem d_Fi_hasOctet_18 : decode c_Fi_hasOctet 18 = .ok (.getfield 18, 3) := by decide +kernel
theorem d_Fi_hasOctet_21 : decode c_Fi_hasOctet 21 = .ok (.iload_n 1, 1) := by decide +kernel
theorem d_Fi_hasOctet_22 : decode c_Fi_hasOctet 22 = .ok (.iaload, 1) := by decide +kernel
theorem d_Fi_hasOctet_23 : decode c_Fi_hasOctet 23 = .ok (.if_icmp .ge 7, 3) := by decide +kernel
theorem d_Fi_hasOctet_26 : decode c_Fi_hasOctet 26 = .ok (.iconst 1, 1) := by decide +kernel
theorem d_Fi_hasOctet_27 : decode c_Fi_hasOctet 27 = .ok (.goto 4, 3) := by decide +kernel
theorem d_Fi_hasOctet_30 : decode c_Fi_hasOctet 30 = .ok (.iconst 0, 1) := by decide +kernel
theorem d_Fi_hasOctet_31 : decode c_Fi_hasOctet 31 = .ok (.ireturn, 1) := by decide +kernel
theorem d_Fi_octet_0 : decode c_Fi_octet 0 = .ok (.aload_n 0, 1) := by decide +kernel
theorem d_Fi_octet_1 : decode c_Fi_octet 1 = .ok (.iload_n 1, 1) := by decide +kernel
theorem d_Fi_octet_2 : decode c_Fi_octet 2 = .ok (.iload_n 2, 1) := by decide +kernel
theorem d_Fi_octet_3 : decode c_Fi_octet 3 = .ok (.invokevirtual 38, 3) := by decide +kernel
theorem d_Fi_octet_6 : decode c_Fi_octet 6 = .ok (.ifCond .eq 17, 3) := by decide +kernel
theorem d_Fi_octet_9 : decode c_Fi_octet 9 = .ok (.aload_n 0, 1) := by decide +kernel
theorem d_Fi_octet_10 : decode c_Fi_octet 10 = .ok (.getfield 27, 3) := by decide +kernel
theorem d_Fi_octet_13 : decode c_Fi_octet 13 = .ok (.iload_n 1, 1) := by decide +kernel
theorem d_Fi_octet_14 : decode c_Fi_octet 14 = .ok (.bipush 24, 2) := by decide +kernel
theorem d_Fi_octet_16 : decode c_Fi_octet 16 = .ok (.imul, 1) := by decide +kernel
theorem d_Fi_octet_17 : decode c_Fi_octet 17 = .ok (.iload_n 2, 1) := by decide +kernel
theorem d_Fi_octet_18 : decode c_Fi_octet 18 = .ok (.iadd, 1) := by decide +kernel
theorem d_Fi_octet_19 : decode c_Fi_octet 19 = .ok (.iaload, 1) := by decide +kernel
theorem d_Fi_octet_20 : decode c_Fi_octet 20 = .ok (.goto 4, 3) := by decide +kernel
theorem d_Fi_octet_23 : decode c_Fi_octet 23 = .ok (.iconst 0, 1) := by decide +kernel
theorem d_Fi_octet_24 : decode c_Fi_octet 24 = .ok (.ireturn, 1) := by decide +kernel
theorem d_An_add_0 : decode c_An_add 0 = .ok (.aload_n 0, 1) := by decide +kernel
theorem d_An_add_1 : decode c_An_add 1 = .ok (.getfield 15, 3) := by decide +kernel
theorem d_An_add_4 : decode c_An_add 4 = .ok (.aload_n 0, 1) := by decide +kernel
theorem d_An_add_5 : decode c_An_add 5 = .ok (.getfield 11, 3) := by decide +kernel
theorem d_An_add_8 : decode c_An_add 8 = .ok (.arraylength, 1) := by decide +kernel
theorem d_An_add_9 : decode c_An_add 9 = .ok (.if_icmp .ge 20, 3) := by decide +kernel
theorem d_An_add_12 : decode c_An_add 12 = .ok (.aload_n 0, 1) := by decide +kernel
theorem d_An_add_13 : decode c_An_add 13 = .ok (.getfield 11, 3) := by decide +kernel
theorem d_An_add_16 : decode c_An_add 16 = .ok (.aload_n 0, 1) := by decide +kernel
theorem d_An_add_17 : decode c_An_add 17 = .ok (.dup, 1) := by decide +kernel
theorem d_An_add_18 : decode c_An_add 18 = .ok (.getfield 15, 3) := by decide +kernel
theorem d_An_add_21 : decode c_An_add 21 = .ok (.dup_x1, 1) := by decide +kernel
theorem d_An_add_22 : decode c_An_add 22 = .ok (.iconst 1, 1) := by decide +kernel
theorem d_An_add_23 : decode c_An_add 23 = .ok (.iadd, 1) := by decide +kernel
theorem d_An_add_24 : decode c_An_add 24 = .ok (.putfield 15, 3) := by decide +kernel
theorem d_An_add_27 : decode c_An_add 27 = .ok (.iload_n 1, 1) := by decide +kernel
theorem d_An_add_28 : decode c_An_add 28 = .ok (.iastore, 1) := by decide +kernel
theorem d_An_add_29 : decode c_An_add 29 = .ok (.return_, 1) := by decide +kernel
theorem d_Wo_change_0 : decode c_Wo_change 0 = .ok (.aload_n 0, 1) := by decide +kernel
theorem d_Wo_change_1 : decode c_Wo_change 1 = .ok (.getfield 21, 3) := by decide +kernel
theorem d_Wo_change_4 : decode c_Wo_change 4 = .ok (.getfield 86, 3) := by decide +kernel
theorem d_Wo_change_7 : decode c_Wo_change 7 = .ok (.ifCond .eq 14, 3) := by decide +kernel
theorem d_Wo_change_10 : decode c_Wo_change 10 = .ok (.aload_n 0, 1) := by decide +kernel
theorem d_Wo_change_11 : decode c_Wo_change 11 = .ok (.getfield 21, 3) := by decide +kernel
theorem d_Wo_change_14 : decode c_Wo_change 14 = .ok (.getfield 120, 3) := by decide +kernel
theorem d_Wo_change_17 : decode c_Wo_change 17 = .ok (.iconst (-1), 1) := by decide +kernel
theorem d_Wo_change_18 : decode c_Wo_change 18 = .ok (.if_icmp .eq 7, 3) := by decide +kernel
theorem d_Wo_change_21 : decode c_Wo_change 21 = .ok (.sipush 26368, 3) := by decide +kernel
theorem d_Wo_change_24 : decode c_Wo_change 24 = .ok (.ireturn, 1) := by decide +kernel
theorem d_Wo_change_25 : decode c_Wo_change 25 = .ok (.aload_n 0, 1) := by decide +kernel
theorem d_Wo_change_26 : decode c_Wo_change 26 = .ok (.getfield 21, 3) := by decide +kernel
theorem d_Wo_change_29 : decode c_Wo_change 29 = .ok (.invokevirtual 123, 3) := by decide +kernel
theorem d_Wo_change_32 : decode c_Wo_change 32 = .ok (.istore_n 1, 1) := by decide +kernel
theorem d_Wo_change_33 : decode c_Wo_change 33 = .ok (.aload_n 0, 1) := by decide +kernel
theorem d_Wo_change_34 : decode c_Wo_change 34 = .ok (.iload_n 1, 1) := by decide +kernel
theorem d_Wo_change_35 : decode c_Wo_change 35 = .ok (.aload_n 0, 1) := by decide +kernel
theorem d_Wo_change_36 : decode c_Wo_change 36 = .ok (.getfield 12, 3) := by decide +kernel
theorem d_Wo_change_39 : decode c_Wo_change 39 = .ok (.getfield 89, 3) := by decide +kernel
theorem d_Wo_change_42 : decode c_Wo_change 42 = .ok (.aload_n 0, 1) := by decide +kernel
theorem d_Wo_change_43 : decode c_Wo_change 43 = .ok (.getfield 32, 3) := by decide +kernel
theorem d_Wo_change_46 : decode c_Wo_change 46 = .ok (.aload_n 0, 1) := by decide +kernel
theorem d_Wo_change_47 : decode c_Wo_change 47 = .ok (.getfield 36, 3) := by decide +kernel
theorem d_Wo_change_50 : decode c_Wo_change 50 = .ok (.invokevirtual 145, 3) := by decide +kernel
theorem d_Wo_change_53 : decode c_Wo_change 53 = .ok (.invokevirtual 130, 3) := by decide +kernel
theorem d_Wo_change_56 : decode c_Wo_change 56 = .ok (.istore_n 2, 1) := by decide +kernel
theorem d_Wo_change_57 : decode c_Wo_change 57 = .ok (.iload_n 2, 1) := by decide +kernel
theorem d_Wo_change_58 : decode c_Wo_change 58 = .ok (.ldc 108, 2) := by decide +kernel
theorem d_Wo_change_60 : decode c_Wo_change 60 = .ok (.if_icmp .eq 5, 3) := by decide +kernel
theorem d_Wo_change_63 : decode c_Wo_change 63 = .ok (.iload_n 2, 1) := by decide +kernel
theorem d_Wo_change_64 : decode c_Wo_change 64 = .ok (.ireturn, 1) := by decide +kernel
theorem d_Wo_change_65 : decode c_Wo_change 65 = .ok (.aload_n 0, 1) := by decide +kernel
theorem d_Wo_change_66 : decode c_Wo_change 66 = .ok (.getfield 12, 3) := by decide +kernel
theorem d_Wo_change_69 : decode c_Wo_change 69 = .ok (.getfield 89, 3) := by decide +kernel
theorem d_Wo_change_72 : decode c_Wo_change 72 = .ok (.aload_n 0, 1) := by decide +kernel
theorem d_Wo_change_73 : decode c_Wo_change 73 = .ok (.getfield 32, 3) := by decide +kernel
theorem d_Wo_change_76 : decode c_Wo_change 76 = .ok (.iload_n 1, 1) := by decide +kernel
theorem d_Wo_change_77 : decode c_Wo_change 77 = .ok (.aload_n 0, 1) := by decide +kernel
theorem d_Wo_change_78 : decode c_Wo_change 78 = .ok (.getfield 21, 3) := by decide +kernel
theorem d_Wo_change_81 : decode c_Wo_change 81 = .ok (.getfield 86, 3) := by decide +kernel
theorem d_Wo_change_84 : decode c_Wo_change 84 = .ok (.iadd, 1) := by decide +kernel
theorem d_Wo_change_85 : decode c_Wo_change 85 = .ok (.iconst 1, 1) := by decide +kernel
theorem d_Wo_change_86 : decode c_Wo_change 86 = .ok (.isub, 1) := by decide +kernel
theorem d_Wo_change_87 : decode c_Wo_change 87 = .ok (.invokevirtual 116, 3) := by decide +kernel
theorem d_Wo_change_90 : decode c_Wo_change 90 = .ok (.ifCond .ne 7, 3) := by decide +kernel
theorem d_Wo_change_93 : decode c_Wo_change 93 = .ok (.sipush 27268, 3) := by decide +kernel
theorem d_Wo_change_96 : decode c_Wo_change 96 = .ok (.ireturn, 1) := by decide +kernel
theorem d_Wo_change_97 : decode c_Wo_change 97 = .ok (.aload_n 0, 1) := by decide +kernel
theorem d_Wo_change_98 : decode c_Wo_change 98 = .ok (.getfield 12, 3) := by decide +kernel
theorem d_Wo_change_101 : decode c_Wo_change 101 = .ok (.aload_n 0, 1) := by decide +kernel
theorem d_Wo_change_102 : decode c_Wo_change 102 = .ok (.getfield 32, 3) := by decide +kernel
theorem d_Wo_change_105 : decode c_Wo_change 105 = .ok (.iload_n 1, 1) := by decide +kernel
theorem d_Wo_change_106 : decode c_Wo_change 106 = .ok (.aload_n 0, 1) := by decide +kernel
theorem d_Wo_change_107 : decode c_Wo_change 107 = .ok (.getfield 21, 3) := by decide +kernel
theorem d_Wo_change_110 : decode c_Wo_change 110 = .ok (.invokevirtual 148, 3) := by decide +kernel
theorem d_Wo_change_113 : decode c_Wo_change 113 = .ok (.ifCond .eq 18, 3) := by decide +kernel
theorem d_Wo_change_116 : decode c_Wo_change 116 = .ok (.aload_n 0, 1) := by decide +kernel
theorem d_Wo_change_117 : decode c_Wo_change 117 = .ok (.getfield 12, 3) := by decide +kernel
theorem d_Wo_change_120 : decode c_Wo_change 120 = .ok (.invokevirtual 152, 3) := by decide +kernel
theorem d_Wo_change_123 : decode c_Wo_change 123 = .ok (.ifCond .eq 8, 3) := by decide +kernel
theorem d_Wo_change_126 : decode c_Wo_change 126 = .ok (.ldc 108, 2) := by decide +kernel
theorem d_Wo_change_128 : decode c_Wo_change 128 = .ok (.goto 4, 3) := by decide +kernel
theorem d_Wo_change_131 : decode c_Wo_change 131 = .ok (.iconst (-1), 1) := by decide +kernel
theorem d_Wo_change_132 : decode c_Wo_change 132 = .ok (.ireturn, 1) := by decide +kernel
theorem d_Fi_mayChange_0 : decode c_Fi_mayChange 0 = .ok (.aload_n 0, 1) := by decide +kernel
theorem d_Fi_mayChange_1 : decode c_Fi_mayChange 1 = .ok (.iload_n 1, 1) := by decide +kernel
theorem d_Fi_mayChange_2 : decode c_Fi_mayChange 2 = .ok (.invokevirtual 34, 3) := by decide +kernel
theorem d_Fi_mayChange_5 : decode c_Fi_mayChange 5 = .ok (.ifCond .eq 20, 3) := by decide +kernel
theorem d_Fi_mayChange_8 : decode c_Fi_mayChange 8 = .ok (.aload_n 0, 1) := by decide +kernel
theorem d_Fi_mayChange_9 : decode c_Fi_mayChange 9 = .ok (.getfield 24, 3) := by decide +kernel
theorem d_Fi_mayChange_12 : decode c_Fi_mayChange 12 = .ok (.iload_n 1, 1) := by decide +kernel
theorem d_Fi_mayChange_13 : decode c_Fi_mayChange 13 = .ok (.iaload, 1) := by decide +kernel
theorem d_Fi_mayChange_14 : decode c_Fi_mayChange 14 = .ok (.iload_n 2, 1) := by decide +kernel
theorem d_Fi_mayChange_15 : decode c_Fi_mayChange 15 = .ok (.invokestatic 42, 3) := by decide +kernel
theorem d_Fi_mayChange_18 : decode c_Fi_mayChange 18 = .ok (.ifCond .eq 7, 3) := by decide +kernel
theorem d_Fi_mayChange_21 : decode c_Fi_mayChange 21 = .ok (.iconst 1, 1) := by decide +kernel
theorem d_Fi_mayChange_22 : decode c_Fi_mayChange 22 = .ok (.goto 4, 3) := by decide +kernel
theorem d_Fi_mayChange_25 : decode c_Fi_mayChange 25 = .ok (.iconst 0, 1) := by decide +kernel
theorem d_Fi_mayChange_26 : decode c_Fi_mayChange 26 = .ok (.ireturn, 1) := by decide +kernel
theorem d_Me_writeNote_0 : decode c_Me_writeNote 0 = .ok (.aload_n 3, 1) := by decide +kernel
theorem d_Me_writeNote_1 : decode c_Me_writeNote 1 = .ok (.getfield 35, 3) := by decide +kernel
theorem d_Me_writeNote_4 : decode c_Me_writeNote 4 = .ok (.aload_n 0, 1) := by decide +kernel
theorem d_Me_writeNote_5 : decode c_Me_writeNote 5 = .ok (.getfield 18, 3) := by decide +kernel
theorem d_Me_writeNote_8 : decode c_Me_writeNote 8 = .ok (.arraylength, 1) := by decide +kernel
theorem d_Me_writeNote_9 : decode c_Me_writeNote 9 = .ok (.invokestatic 40, 3) := by decide +kernel
theorem d_Me_writeNote_12 : decode c_Me_writeNote 12 = .ok (.istore 4, 2) := by decide +kernel
theorem d_Me_writeNote_14 : decode c_Me_writeNote 14 = .ok (.iconst 0, 1) := by decide +kernel
theorem d_Me_writeNote_15 : decode c_Me_writeNote 15 = .ok (.istore 5, 2) := by decide +kernel
theorem d_Me_writeNote_17 : decode c_Me_writeNote 17 = .ok (.iload 5, 2) := by decide +kernel
theorem d_Me_writeNote_19 : decode c_Me_writeNote 19 = .ok (.iload 4, 2) := by decide +kernel
theorem d_Me_writeNote_21 : decode c_Me_writeNote 21 = .ok (.iconst 2, 1) := by decide +kernel
theorem d_Me_writeNote_22 : decode c_Me_writeNote 22 = .ok (.iadd, 1) := by decide +kernel
theorem d_Me_writeNote_23 : decode c_Me_writeNote 23 = .ok (.if_icmp .ge 18, 3) := by decide +kernel
theorem d_Me_writeNote_26 : decode c_Me_writeNote 26 = .ok (.aload_n 0, 1) := by decide +kernel
theorem d_Me_writeNote_27 : decode c_Me_writeNote 27 = .ok (.invokevirtual 46, 3) := by decide +kernel
theorem d_Me_writeNote_30 : decode c_Me_writeNote 30 = .ok (.ifCond .ne 5, 3) := by decide +kernel
theorem d_Me_writeNote_33 : decode c_Me_writeNote 33 = .ok (.iconst 0, 1) := by decide +kernel
theorem d_Me_writeNote_34 : decode c_Me_writeNote 34 = .ok (.ireturn, 1) := by decide +kernel
theorem d_Me_writeNote_35 : decode c_Me_writeNote 35 = .ok (.iinc 5 1, 3) := by decide +kernel
theorem d_Me_writeNote_38 : decode c_Me_writeNote 38 = .ok (.goto (-21), 3) := by decide +kernel
theorem d_Me_writeNote_41 : decode c_Me_writeNote 41 = .ok (.aload_n 0, 1) := by decide +kernel
theorem d_Me_writeNote_42 : decode c_Me_writeNote 42 = .ok (.iload_n 1, 1) := by decide +kernel
theorem d_Me_writeNote_43 : decode c_Me_writeNote 43 = .ok (.putfield 50, 3) := by decide +kernel
theorem d_Me_writeNote_46 : decode c_Me_writeNote 46 = .ok (.aload_n 0, 1) := by decide +kernel
theorem d_Me_writeNote_47 : decode c_Me_writeNote 47 = .ok (.iload_n 2, 1) := by decide +kernel
theorem d_Me_writeNote_48 : decode c_Me_writeNote 48 = .ok (.putfield 53, 3) := by decide +kernel
theorem d_Me_writeNote_51 : decode c_Me_writeNote 51 = .ok (.aload_n 0, 1) := by decide +kernel
theorem d_Me_writeNote_52 : decode c_Me_writeNote 52 = .ok (.iload 4, 2) := by decide +kernel
theorem d_Me_writeNote_54 : decode c_Me_writeNote 54 = .ok (.putfield 56, 3) := by decide +kernel
theorem d_Me_writeNote_57 : decode c_Me_writeNote 57 = .ok (.iconst 0, 1) := by decide +kernel
theorem d_Me_writeNote_58 : decode c_Me_writeNote 58 = .ok (.istore 5, 2) := by decide +kernel
theorem d_Me_writeNote_60 : decode c_Me_writeNote 60 = .ok (.iload 5, 2) := by decide +kernel
theorem d_Me_writeNote_62 : decode c_Me_writeNote 62 = .ok (.iload 4, 2) := by decide +kernel
theorem d_Me_writeNote_64 : decode c_Me_writeNote 64 = .ok (.if_icmp .ge 22, 3) := by decide +kernel
theorem d_Me_writeNote_67 : decode c_Me_writeNote 67 = .ok (.aload_n 0, 1) := by decide +kernel
theorem d_Me_writeNote_68 : decode c_Me_writeNote 68 = .ok (.getfield 18, 3) := by decide +kernel
theorem d_Me_writeNote_71 : decode c_Me_writeNote 71 = .ok (.iload 5, 2) := by decide +kernel
theorem d_Me_writeNote_73 : decode c_Me_writeNote 73 = .ok (.aload_n 3, 1) := by decide +kernel
theorem d_Me_writeNote_74 : decode c_Me_writeNote 74 = .ok (.iload 5, 2) := by decide +kernel
theorem d_Me_writeNote_76 : decode c_Me_writeNote 76 = .ok (.invokevirtual 59, 3) := by decide +kernel
theorem d_Me_writeNote_79 : decode c_Me_writeNote 79 = .ok (.iastore, 1) := by decide +kernel
theorem d_Me_writeNote_80 : decode c_Me_writeNote 80 = .ok (.iinc 5 1, 3) := by decide +kernel
theorem d_Me_writeNote_83 : decode c_Me_writeNote 83 = .ok (.goto (-23), 3) := by decide +kernel
theorem d_Me_writeNote_86 : decode c_Me_writeNote 86 = .ok (.aload_n 0, 1) := by decide +kernel
theorem d_Me_writeNote_87 : decode c_Me_writeNote 87 = .ok (.iconst 1, 1) := by decide +kernel
theorem d_Me_writeNote_88 : decode c_Me_writeNote 88 = .ok (.putfield 63, 3) := by decide +kernel
theorem d_Me_writeNote_91 : decode c_Me_writeNote 91 = .ok (.iconst 1, 1) := by decide +kernel
theorem d_Me_writeNote_92 : decode c_Me_writeNote 92 = .ok (.ireturn, 1) := by decide +kernel
theorem d_Wo_tell_0 : decode c_Wo_tell 0 = .ok (.aload_n 0, 1) := by decide +kernel
theorem d_Wo_tell_1 : decode c_Wo_tell 1 = .ok (.getfield 21, 3) := by decide +kernel
theorem d_Wo_tell_4 : decode c_Wo_tell 4 = .ok (.invokevirtual 80, 3) := by decide +kernel
theorem d_Wo_tell_7 : decode c_Wo_tell 7 = .ok (.ifCond .ne 14, 3) := by decide +kernel
theorem d_Wo_tell_10 : decode c_Wo_tell 10 = .ok (.aload_n 0, 1) := by decide +kernel
theorem d_Wo_tell_11 : decode c_Wo_tell 11 = .ok (.getfield 21, 3) := by decide +kernel
theorem d_Wo_tell_14 : decode c_Wo_tell 14 = .ok (.invokevirtual 83, 3) := by decide +kernel
theorem d_Wo_tell_17 : decode c_Wo_tell 17 = .ok (.iconst 1, 1) := by decide +kernel
theorem d_Wo_tell_18 : decode c_Wo_tell 18 = .ok (.if_icmp .eq 7, 3) := by decide +kernel
theorem d_Wo_tell_21 : decode c_Wo_tell 21 = .ok (.sipush 27270, 3) := by decide +kernel
theorem d_Wo_tell_24 : decode c_Wo_tell 24 = .ok (.ireturn, 1) := by decide +kernel
theorem d_Wo_tell_25 : decode c_Wo_tell 25 = .ok (.aload_n 0, 1) := by decide +kernel
theorem d_Wo_tell_26 : decode c_Wo_tell 26 = .ok (.getfield 21, 3) := by decide +kernel
theorem d_Wo_tell_29 : decode c_Wo_tell 29 = .ok (.getfield 86, 3) := by decide +kernel
theorem d_Wo_tell_32 : decode c_Wo_tell 32 = .ok (.ifCond .ne 7, 3) := by decide +kernel
theorem d_Wo_tell_35 : decode c_Wo_tell 35 = .ok (.iconst 1, 1) := by decide +kernel
theorem d_Wo_tell_36 : decode c_Wo_tell 36 = .ok (.goto 4, 3) := by decide +kernel
theorem d_Wo_tell_39 : decode c_Wo_tell 39 = .ok (.iconst 0, 1) := by decide +kernel
theorem d_Wo_tell_40 : decode c_Wo_tell 40 = .ok (.istore_n 1, 1) := by decide +kernel
theorem d_Wo_tell_41 : decode c_Wo_tell 41 = .ok (.iload_n 1, 1) := by decide +kernel
theorem d_Wo_tell_42 : decode c_Wo_tell 42 = .ok (.ifCond .ne 14, 3) := by decide +kernel
theorem d_Wo_tell_45 : decode c_Wo_tell 45 = .ok (.aload_n 0, 1) := by decide +kernel
theorem d_Wo_tell_46 : decode c_Wo_tell 46 = .ok (.getfield 21, 3) := by decide +kernel
theorem d_Wo_tell_49 : decode c_Wo_tell 49 = .ok (.getfield 86, 3) := by decide +kernel
theorem d_Wo_tell_52 : decode c_Wo_tell 52 = .ok (.iconst 4, 1) := by decide +kernel
theorem d_Wo_tell_53 : decode c_Wo_tell 53 = .ok (.if_icmp .ne 14, 3) := by decide +kernel
theorem d_Wo_tell_56 : decode c_Wo_tell 56 = .ok (.aload_n 0, 1) := by decide +kernel
theorem d_Wo_tell_57 : decode c_Wo_tell 57 = .ok (.getfield 21, 3) := by decide +kernel
theorem d_Wo_tell_60 : decode c_Wo_tell 60 = .ok (.getfield 120, 3) := by decide +kernel
theorem d_Wo_tell_63 : decode c_Wo_tell 63 = .ok (.iconst (-1), 1) := by decide +kernel
theorem d_Wo_tell_64 : decode c_Wo_tell 64 = .ok (.if_icmp .eq 7, 3) := by decide +kernel
theorem d_Wo_tell_67 : decode c_Wo_tell 67 = .ok (.sipush 26368, 3) := by decide +kernel
theorem d_Wo_tell_70 : decode c_Wo_tell 70 = .ok (.ireturn, 1) := by decide +kernel
theorem d_Wo_tell_71 : decode c_Wo_tell 71 = .ok (.iload_n 1, 1) := by decide +kernel
theorem d_Wo_tell_72 : decode c_Wo_tell 72 = .ok (.ifCond .eq 13, 3) := by decide +kernel
theorem d_Wo_tell_75 : decode c_Wo_tell 75 = .ok (.aload_n 0, 1) := by decide +kernel
theorem d_Wo_tell_76 : decode c_Wo_tell 76 = .ok (.getfield 36, 3) := by decide +kernel
theorem d_Wo_tell_79 : decode c_Wo_tell 79 = .ok (.ifCond .eq 6, 3) := by decide +kernel
theorem d_Wo_tell_82 : decode c_Wo_tell 82 = .ok (.ldc 108, 2) := by decide +kernel
theorem d_Wo_tell_84 : decode c_Wo_tell 84 = .ok (.ireturn, 1) := by decide +kernel
theorem d_Wo_tell_85 : decode c_Wo_tell 85 = .ok (.aload_n 0, 1) := by decide +kernel
theorem d_Wo_tell_86 : decode c_Wo_tell 86 = .ok (.getfield 12, 3) := by decide +kernel
theorem d_Wo_tell_89 : decode c_Wo_tell 89 = .ok (.getfield 155, 3) := by decide +kernel
theorem d_Wo_tell_92 : decode c_Wo_tell 92 = .ok (.ifCond .ne 7, 3) := by decide +kernel
theorem d_Wo_tell_95 : decode c_Wo_tell 95 = .ok (.sipush 27011, 3) := by decide +kernel
theorem d_Wo_tell_98 : decode c_Wo_tell 98 = .ok (.ireturn, 1) := by decide +kernel
theorem d_Wo_tell_99 : decode c_Wo_tell 99 = .ok (.iload_n 1, 1) := by decide +kernel
theorem d_Wo_tell_100 : decode c_Wo_tell 100 = .ok (.ifCond .eq 17, 3) := by decide +kernel
theorem d_Wo_tell_103 : decode c_Wo_tell 103 = .ok (.sipush 25536, 3) := by decide +kernel
theorem d_Wo_tell_106 : decode c_Wo_tell 106 = .ok (.aload_n 0, 1) := by decide +kernel
theorem d_Wo_tell_107 : decode c_Wo_tell 107 = .ok (.getfield 12, 3) := by decide +kernel
theorem d_Wo_tell_110 : decode c_Wo_tell 110 = .ok (.getfield 155, 3) := by decide +kernel
theorem d_Wo_tell_113 : decode c_Wo_tell 113 = .ok (.iadd, 1) := by decide +kernel
theorem d_Wo_tell_114 : decode c_Wo_tell 114 = .ok (.goto 14, 3) := by decide +kernel
theorem d_Wo_tell_117 : decode c_Wo_tell 117 = .ok (.aload_n 0, 1) := by decide +kernel
theorem d_Wo_tell_118 : decode c_Wo_tell 118 = .ok (.aload_n 0, 1) := by decide +kernel
theorem d_Wo_tell_119 : decode c_Wo_tell 119 = .ok (.getfield 21, 3) := by decide +kernel
theorem d_Wo_tell_122 : decode c_Wo_tell 122 = .ok (.invokevirtual 158, 3) := by decide +kernel
theorem d_Wo_tell_125 : decode c_Wo_tell 125 = .ok (.invokevirtual 161, 3) := by decide +kernel
theorem d_Wo_tell_128 : decode c_Wo_tell 128 = .ok (.ireturn, 1) := by decide +kernel
theorem d_Co_dataAsSecret_0 : decode c_Co_dataAsSecret 0 = .ok (.aload_n 0, 1) := by decide +kernel
theorem d_Co_dataAsSecret_1 : decode c_Co_dataAsSecret 1 = .ok (.iconst 0, 1) := by decide +kernel
theorem d_Co_dataAsSecret_2 : decode c_Co_dataAsSecret 2 = .ok (.invokevirtual 36, 3) := by decide +kernel
theorem d_Co_dataAsSecret_5 : decode c_Co_dataAsSecret 5 = .ok (.bipush 24, 2) := by decide +kernel
theorem d_Co_dataAsSecret_7 : decode c_Co_dataAsSecret 7 = .ok (.ishl, 1) := by decide +kernel
theorem d_Co_dataAsSecret_8 : decode c_Co_dataAsSecret 8 = .ok (.aload_n 0, 1) := by decide +kernel
theorem d_Co_dataAsSecret_9 : decode c_Co_dataAsSecret 9 = .ok (.iconst 1, 1) := by decide +kernel
theorem d_Co_dataAsSecret_10 : decode c_Co_dataAsSecret 10 = .ok (.invokevirtual 36, 3) := by decide +kernel
theorem d_Co_dataAsSecret_13 : decode c_Co_dataAsSecret 13 = .ok (.bipush 16, 2) := by decide +kernel
theorem d_Co_dataAsSecret_15 : decode c_Co_dataAsSecret 15 = .ok (.ishl, 1) := by decide +kernel
theorem d_Co_dataAsSecret_16 : decode c_Co_dataAsSecret 16 = .ok (.ior, 1) := by decide +kernel
theorem d_Co_dataAsSecret_17 : decode c_Co_dataAsSecret 17 = .ok (.aload_n 0, 1) := by decide +kernel
theorem d_Co_dataAsSecret_18 : decode c_Co_dataAsSecret 18 = .ok (.iconst 2, 1) := by decide +kernel
theorem d_Co_dataAsSecret_19 : decode c_Co_dataAsSecret 19 = .ok (.invokevirtual 36, 3) := by decide +kernel
theorem d_Co_dataAsSecret_22 : decode c_Co_dataAsSecret 22 = .ok (.bipush 8, 2) := by decide +kernel
theorem d_Co_dataAsSecret_24 : decode c_Co_dataAsSecret 24 = .ok (.ishl, 1) := by decide +kernel
theorem d_Co_dataAsSecret_25 : decode c_Co_dataAsSecret 25 = .ok (.ior, 1) := by decide +kernel
theorem d_Co_dataAsSecret_26 : decode c_Co_dataAsSecret 26 = .ok (.aload_n 0, 1) := by decide +kernel
theorem d_Co_dataAsSecret_27 : decode c_Co_dataAsSecret 27 = .ok (.iconst 3, 1) := by decide +kernel
theorem d_Co_dataAsSecret_28 : decode c_Co_dataAsSecret 28 = .ok (.invokevirtual 36, 3) := by decide +kernel
theorem d_Co_dataAsSecret_31 : decode c_Co_dataAsSecret 31 = .ok (.ior, 1) := by decide +kernel
theorem d_Co_dataAsSecret_32 : decode c_Co_dataAsSecret 32 = .ok (.ireturn, 1) := by decide +kernel
theorem d_Wo_compareSecret_0 : decode c_Wo_compareSecret 0 = .ok (.aload_n 0, 1) := by decide +kernel
theorem d_Wo_compareSecret_1 : decode c_Wo_compareSecret 1 = .ok (.getfield 12, 3) := by decide +kernel
theorem d_Wo_compareSecret_4 : decode c_Wo_compareSecret 4 = .ok (.invokevirtual 165, 3) := by decide +kernel
theorem d_Wo_compareSecret_7 : decode c_Wo_compareSecret 7 = .ok (.ifCond .ne 5, 3) := by decide +kernel
theorem d_Wo_compareSecret_10 : decode c_Wo_compareSecret 10 = .ok (.iconst (-1), 1) := by decide +kernel
theorem d_Wo_compareSecret_11 : decode c_Wo_compareSecret 11 = .ok (.ireturn, 1) := by decide +kernel
theorem d_Wo_compareSecret_12 : decode c_Wo_compareSecret 12 = .ok (.aload_n 0, 1) := by decide +kernel
theorem d_Wo_compareSecret_13 : decode c_Wo_compareSecret 13 = .ok (.getfield 12, 3) := by decide +kernel
theorem d_Wo_compareSecret_16 : decode c_Wo_compareSecret 16 = .ok (.dup, 1) := by decide +kernel
theorem d_Wo_compareSecret_17 : decode c_Wo_compareSecret 17 = .ok (.getfield 155, 3) := by decide +kernel
theorem d_Wo_compareSecret_20 : decode c_Wo_compareSecret 20 = .ok (.iconst 1, 1) := by decide +kernel
theorem d_Wo_compareSecret_21 : decode c_Wo_compareSecret 21 = .ok (.isub, 1) := by decide +kernel
theorem d_Wo_compareSecret_22 : decode c_Wo_compareSecret 22 = .ok (.putfield 155, 3) := by decide +kernel
theorem d_Wo_compareSecret_25 : decode c_Wo_compareSecret 25 = .ok (.iload_n 1, 1) := by decide +kernel
theorem d_Wo_compareSecret_26 : decode c_Wo_compareSecret 26 = .ok (.aload_n 0, 1) := by decide +kernel
theorem d_Wo_compareSecret_27 : decode c_Wo_compareSecret 27 = .ok (.getfield 12, 3) := by decide +kernel
theorem d_Wo_compareSecret_30 : decode c_Wo_compareSecret 30 = .ok (.getfield 168, 3) := by decide +kernel
theorem d_Wo_compareSecret_33 : decode c_Wo_compareSecret 33 = .ok (.if_icmp .eq 20, 3) := by decide +kernel
theorem d_Wo_compareSecret_36 : decode c_Wo_compareSecret 36 = .ok (.aload_n 0, 1) := by decide +kernel
theorem d_Wo_compareSecret_37 : decode c_Wo_compareSecret 37 = .ok (.iconst 0, 1) := by decide +kernel
theorem d_Wo_compareSecret_38 : decode c_Wo_compareSecret 38 = .ok (.putfield 36, 3) := by decide +kernel
theorem d_Wo_compareSecret_41 : decode c_Wo_compareSecret 41 = .ok (.sipush 25536, 3) := by decide +kernel
theorem d_Wo_compareSecret_44 : decode c_Wo_compareSecret 44 = .ok (.aload_n 0, 1) := by decide +kernel
theorem d_Wo_compareSecret_45 : decode c_Wo_compareSecret 45 = .ok (.getfield 12, 3) := by decide +kernel
theorem d_Wo_compareSecret_48 : decode c_Wo_compareSecret 48 = .ok (.getfield 155, 3) := by decide +kernel
theorem d_Wo_compareSecret_51 : decode c_Wo_compareSecret 51 = .ok (.iadd, 1) := by decide +kernel
theorem d_Wo_compareSecret_52 : decode c_Wo_compareSecret 52 = .ok (.ireturn, 1) := by decide +kernel
theorem d_Wo_compareSecret_53 : decode c_Wo_compareSecret 53 = .ok (.aload_n 0, 1) := by decide +kernel
theorem d_Wo_compareSecret_54 : decode c_Wo_compareSecret 54 = .ok (.getfield 12, 3) := by decide +kernel
theorem d_Wo_compareSecret_57 : decode c_Wo_compareSecret 57 = .ok (.invokevirtual 165, 3) := by decide +kernel
theorem d_Wo_compareSecret_60 : decode c_Wo_compareSecret 60 = .ok (.ifCond .ne 5, 3) := by decide +kernel
theorem d_Wo_compareSecret_63 : decode c_Wo_compareSecret 63 = .ok (.iconst (-1), 1) := by decide +kernel
theorem d_Wo_compareSecret_64 : decode c_Wo_compareSecret 64 = .ok (.ireturn, 1) := by decide +kernel
theorem d_Wo_compareSecret_65 : decode c_Wo_compareSecret 65 = .ok (.aload_n 0, 1) := by decide +kernel
theorem d_Wo_compareSecret_66 : decode c_Wo_compareSecret 66 = .ok (.getfield 12, 3) := by decide +kernel
theorem d_Wo_compareSecret_69 : decode c_Wo_compareSecret 69 = .ok (.iconst 3, 1) := by decide +kernel
theorem d_Wo_compareSecret_70 : decode c_Wo_compareSecret 70 = .ok (.putfield 155, 3) := by decide +kernel
theorem d_Wo_compareSecret_73 : decode c_Wo_compareSecret 73 = .ok (.aload_n 0, 1) := by decide +kernel
theorem d_Wo_compareSecret_74 : decode c_Wo_compareSecret 74 = .ok (.iconst 1, 1) := by decide +kernel
theorem d_Wo_compareSecret_75 : decode c_Wo_compareSecret 75 = .ok (.putfield 36, 3) := by decide +kernel
theorem d_Wo_compareSecret_78 : decode c_Wo_compareSecret 78 = .ok (.ldc 108, 2) := by decide +kernel
theorem d_Wo_compareSecret_80 : decode c_Wo_compareSecret 80 = .ok (.ireturn, 1) := by decide +kernel
theorem d_Wo_renew_0 : decode c_Wo_renew 0 = .ok (.aload_n 0, 1) := by decide +kernel
theorem d_Wo_renew_1 : decode c_Wo_renew 1 = .ok (.getfield 21, 3) := by decide +kernel
theorem d_Wo_renew_4 : decode c_Wo_renew 4 = .ok (.invokevirtual 80, 3) := by decide +kernel
theorem d_Wo_renew_7 : decode c_Wo_renew 7 = .ok (.ifCond .ne 13, 3) := by decide +kernel
theorem d_Wo_renew_10 : decode c_Wo_renew 10 = .ok (.aload_n 0, 1) := by decide +kernel
theorem d_Wo_renew_11 : decode c_Wo_renew 11 = .ok (.getfield 21, 3) := by decide +kernel
theorem d_Wo_renew_14 : decode c_Wo_renew 14 = .ok (.invokevirtual 83, 3) := by decide +kernel
theorem d_Wo_renew_17 : decode c_Wo_renew 17 = .ok (.ifCond .eq 7, 3) := by decide +kernel
theorem d_Wo_renew_20 : decode c_Wo_renew 20 = .ok (.sipush 27270, 3) := by decide +kernel
theorem d_Wo_renew_23 : decode c_Wo_renew 23 = .ok (.ireturn, 1) := by decide +kernel
theorem d_Wo_renew_24 : decode c_Wo_renew 24 = .ok (.aload_n 0, 1) := by decide +kernel
theorem d_Wo_renew_25 : decode c_Wo_renew 25 = .ok (.getfield 21, 3) := by decide +kernel
theorem d_Wo_renew_28 : decode c_Wo_renew 28 = .ok (.getfield 86, 3) := by decide +kernel
theorem d_Wo_renew_31 : decode c_Wo_renew 31 = .ok (.iconst 4, 1) := by decide +kernel
theorem d_Wo_renew_32 : decode c_Wo_renew 32 = .ok (.if_icmp .ne 14, 3) := by decide +kernel
theorem d_Wo_renew_35 : decode c_Wo_renew 35 = .ok (.aload_n 0, 1) := by decide +kernel
theorem d_Wo_renew_36 : decode c_Wo_renew 36 = .ok (.getfield 21, 3) := by decide +kernel
theorem d_Wo_renew_39 : decode c_Wo_renew 39 = .ok (.getfield 120, 3) := by decide +kernel
theorem d_Wo_renew_42 : decode c_Wo_renew 42 = .ok (.iconst (-1), 1) := by decide +kernel
theorem d_Wo_renew_43 : decode c_Wo_renew 43 = .ok (.if_icmp .eq 7, 3) := by decide +kernel
theorem d_Wo_renew_46 : decode c_Wo_renew 46 = .ok (.sipush 26368, 3) := by decide +kernel
theorem d_Wo_renew_49 : decode c_Wo_renew 49 = .ok (.ireturn, 1) := by decide +kernel
theorem d_Wo_renew_50 : decode c_Wo_renew 50 = .ok (.aload_n 0, 1) := by decide +kernel
theorem d_Wo_renew_51 : decode c_Wo_renew 51 = .ok (.getfield 36, 3) := by decide +kernel
theorem d_Wo_renew_54 : decode c_Wo_renew 54 = .ok (.ifCond .ne 7, 3) := by decide +kernel
theorem d_Wo_renew_57 : decode c_Wo_renew 57 = .ok (.sipush 27010, 3) := by decide +kernel
theorem d_Wo_renew_60 : decode c_Wo_renew 60 = .ok (.ireturn, 1) := by decide +kernel
theorem d_Wo_renew_61 : decode c_Wo_renew 61 = .ok (.aload_n 0, 1) := by decide +kernel
theorem d_Wo_renew_62 : decode c_Wo_renew 62 = .ok (.getfield 12, 3) := by decide +kernel
theorem d_Wo_renew_65 : decode c_Wo_renew 65 = .ok (.invokevirtual 165, 3) := by decide +kernel
theorem d_Wo_renew_68 : decode c_Wo_renew 68 = .ok (.ifCond .ne 5, 3) := by decide +kernel
theorem d_Wo_renew_71 : decode c_Wo_renew 71 = .ok (.iconst (-1), 1) := by decide +kernel
theorem d_Wo_renew_72 : decode c_Wo_renew 72 = .ok (.ireturn, 1) := by decide +kernel
theorem d_Wo_renew_73 : decode c_Wo_renew 73 = .ok (.aload_n 0, 1) := by decide +kernel
theorem d_Wo_renew_74 : decode c_Wo_renew 74 = .ok (.getfield 12, 3) := by decide +kernel
theorem d_Wo_renew_77 : decode c_Wo_renew 77 = .ok (.aload_n 0, 1) := by decide +kernel
theorem d_Wo_renew_78 : decode c_Wo_renew 78 = .ok (.getfield 21, 3) := by decide +kernel
theorem d_Wo_renew_81 : decode c_Wo_renew 81 = .ok (.invokevirtual 158, 3) := by decide +kernel
theorem d_Wo_renew_84 : decode c_Wo_renew 84 = .ok (.putfield 168, 3) := by decide +kernel
theorem d_Wo_renew_87 : decode c_Wo_renew 87 = .ok (.ldc 108, 2) := by decide +kernel
theorem d_Wo_renew_89 : decode c_Wo_renew 89 = .ok (.ireturn, 1) := by decide +kernel
theorem d_Wo_conclude_0 : decode c_Wo_conclude 0 = .ok (.aload_n 0, 1) := by decide +kernel
theorem d_Wo_conclude_1 : decode c_Wo_conclude 1 = .ok (.getfield 21, 3) := by decide +kernel
theorem d_Wo_conclude_4 : decode c_Wo_conclude 4 = .ok (.invokevirtual 46, 3) := by decide +kernel
theorem d_Wo_conclude_7 : decode c_Wo_conclude 7 = .ok (.aload_n 0, 1) := by decide +kernel
theorem d_Wo_conclude_8 : decode c_Wo_conclude 8 = .ok (.getfield 28, 3) := by decide +kernel
theorem d_Wo_conclude_11 : decode c_Wo_conclude 11 = .ok (.iload_n 1, 1) := by decide +kernel
theorem d_Wo_conclude_12 : decode c_Wo_conclude 12 = .ok (.bipush 8, 2) := by decide +kernel
theorem d_Wo_conclude_14 : decode c_Wo_conclude 14 = .ok (.ishr, 1) := by decide +kernel
theorem d_Wo_conclude_15 : decode c_Wo_conclude 15 = .ok (.invokevirtual 76, 3) := by decide +kernel
theorem d_Wo_conclude_18 : decode c_Wo_conclude 18 = .ok (.aload_n 0, 1) := by decide +kernel
theorem d_Wo_conclude_19 : decode c_Wo_conclude 19 = .ok (.getfield 28, 3) := by decide +kernel
theorem d_Wo_conclude_22 : decode c_Wo_conclude 22 = .ok (.iload_n 1, 1) := by decide +kernel
theorem d_Wo_conclude_23 : decode c_Wo_conclude 23 = .ok (.sipush 255, 3) := by decide +kernel
theorem d_Wo_conclude_26 : decode c_Wo_conclude 26 = .ok (.iand, 1) := by decide +kernel
theorem d_Wo_conclude_27 : decode c_Wo_conclude 27 = .ok (.invokevirtual 76, 3) := by decide +kernel
theorem d_Wo_conclude_30 : decode c_Wo_conclude 30 = .ok (.return_, 1) := by decide +kernel
theorem d_Li_sendPiece_0 : decode c_Li_sendPiece 0 = .ok (.aload_n 0, 1) := by decide +kernel
theorem d_Li_sendPiece_1 : decode c_Li_sendPiece 1 = .ok (.getfield 21, 3) := by decide +kernel
theorem d_Li_sendPiece_4 : decode c_Li_sendPiece 4 = .ok (.aload_n 1, 1) := by decide +kernel
theorem d_Li_sendPiece_5 : decode c_Li_sendPiece 5 = .ok (.invokevirtual 68, 3) := by decide +kernel
theorem d_Li_sendPiece_8 : decode c_Li_sendPiece 8 = .ok (.invokestatic 73, 3) := by decide +kernel
theorem d_Li_sendPiece_11 : decode c_Li_sendPiece 11 = .ok (.istore_n 2, 1) := by decide +kernel
theorem d_Li_sendPiece_12 : decode c_Li_sendPiece 12 = .ok (.aload_n 0, 1) := by decide +kernel
theorem d_Li_sendPiece_13 : decode c_Li_sendPiece 13 = .ok (.bipush 64, 2) := by decide +kernel
theorem d_Li_sendPiece_15 : decode c_Li_sendPiece 15 = .ok (.aload_n 0, 1) := by decide +kernel
theorem d_Li_sendPiece_16 : decode c_Li_sendPiece 16 = .ok (.getfield 37, 3) := by decide +kernel
theorem d_Li_sendPiece_19 : decode c_Li_sendPiece 19 = .ok (.imul, 1) := by decide +kernel
theorem d_Li_sendPiece_20 : decode c_Li_sendPiece 20 = .ok (.iload_n 2, 1) := by decide +kernel
theorem d_Li_sendPiece_21 : decode c_Li_sendPiece 21 = .ok (.aload_n 1, 1) := by decide +kernel
theorem d_Li_sendPiece_22 : decode c_Li_sendPiece 22 = .ok (.invokevirtual 68, 3) := by decide +kernel
theorem d_Li_sendPiece_25 : decode c_Li_sendPiece 25 = .ok (.if_icmp .ge 8, 3) := by decide +kernel
theorem d_Li_sendPiece_28 : decode c_Li_sendPiece 28 = .ok (.bipush 32, 2) := by decide +kernel
theorem d_Li_sendPiece_30 : decode c_Li_sendPiece 30 = .ok (.goto 4, 3) := by decide +kernel
theorem d_Li_sendPiece_33 : decode c_Li_sendPiece 33 = .ok (.iconst 0, 1) := by decide +kernel
theorem d_Li_sendPiece_34 : decode c_Li_sendPiece 34 = .ok (.iadd, 1) := by decide +kernel
theorem d_Li_sendPiece_35 : decode c_Li_sendPiece 35 = .ok (.invokevirtual 58, 3) := by decide +kernel
theorem d_Li_sendPiece_38 : decode c_Li_sendPiece 38 = .ok (.iconst 0, 1) := by decide +kernel
theorem d_Li_sendPiece_39 : decode c_Li_sendPiece 39 = .ok (.istore_n 3, 1) := by decide +kernel
theorem d_Li_sendPiece_40 : decode c_Li_sendPiece 40 = .ok (.iload_n 3, 1) := by decide +kernel
theorem d_Li_sendPiece_41 : decode c_Li_sendPiece 41 = .ok (.iload_n 2, 1) := by decide +kernel
theorem d_Li_sendPiece_42 : decode c_Li_sendPiece 42 = .ok (.if_icmp .ge 17, 3) := by decide +kernel
theorem d_Li_sendPiece_45 : decode c_Li_sendPiece 45 = .ok (.aload_n 0, 1) := by decide +kernel
theorem d_Li_sendPiece_46 : decode c_Li_sendPiece 46 = .ok (.aload_n 1, 1) := by decide +kernel
theorem d_Li_sendPiece_47 : decode c_Li_sendPiece 47 = .ok (.invokevirtual 79, 3) := by decide +kernel
theorem d_Li_sendPiece_50 : decode c_Li_sendPiece 50 = .ok (.invokevirtual 65, 3) := by decide +kernel
theorem d_Li_sendPiece_53 : decode c_Li_sendPiece 53 = .ok (.iinc 3 1, 3) := by decide +kernel
theorem d_Li_sendPiece_56 : decode c_Li_sendPiece 56 = .ok (.goto (-16), 3) := by decide +kernel
theorem d_Li_sendPiece_59 : decode c_Li_sendPiece 59 = .ok (.aload_n 0, 1) := by decide +kernel
theorem d_Li_sendPiece_60 : decode c_Li_sendPiece 60 = .ok (.invokevirtual 62, 3) := by decide +kernel
theorem d_Li_sendPiece_63 : decode c_Li_sendPiece 63 = .ok (.aload_n 0, 1) := by decide +kernel
theorem d_Li_sendPiece_64 : decode c_Li_sendPiece 64 = .ok (.dup, 1) := by decide +kernel
theorem d_Li_sendPiece_65 : decode c_Li_sendPiece 65 = .ok (.getfield 37, 3) := by decide +kernel
theorem d_Li_sendPiece_68 : decode c_Li_sendPiece 68 = .ok (.iconst 1, 1) := by decide +kernel
theorem d_Li_sendPiece_69 : decode c_Li_sendPiece 69 = .ok (.ixor, 1) := by decide +kernel
theorem d_Li_sendPiece_70 : decode c_Li_sendPiece 70 = .ok (.putfield 37, 3) := by decide +kernel
theorem d_Li_sendPiece_73 : decode c_Li_sendPiece 73 = .ok (.aload_n 0, 1) := by decide +kernel
theorem d_Li_sendPiece_74 : decode c_Li_sendPiece 74 = .ok (.getfield 15, 3) := by decide +kernel
theorem d_Li_sendPiece_77 : decode c_Li_sendPiece 77 = .ok (.iconst 0, 1) := by decide +kernel
theorem d_Li_sendPiece_78 : decode c_Li_sendPiece 78 = .ok (.aload_n 0, 1) := by decide +kernel
theorem d_Li_sendPiece_79 : decode c_Li_sendPiece 79 = .ok (.getfield 18, 3) := by decide +kernel
theorem d_Li_sendPiece_82 : decode c_Li_sendPiece 82 = .ok (.iconst 0, 1) := by decide +kernel
theorem d_Li_sendPiece_83 : decode c_Li_sendPiece 83 = .ok (.aload_n 0, 1) := by decide +kernel
theorem d_Li_sendPiece_84 : decode c_Li_sendPiece 84 = .ok (.getfield 31, 3) := by decide +kernel
theorem d_Li_sendPiece_87 : decode c_Li_sendPiece 87 = .ok (.invokestatic 82, 3) := by decide +kernel
theorem d_Li_sendPiece_90 : decode c_Li_sendPiece 90 = .ok (.aload_n 0, 1) := by decide +kernel
theorem d_Li_sendPiece_91 : decode c_Li_sendPiece 91 = .ok (.aload_n 0, 1) := by decide +kernel
theorem d_Li_sendPiece_92 : decode c_Li_sendPiece 92 = .ok (.getfield 31, 3) := by decide +kernel
theorem d_Li_sendPiece_95 : decode c_Li_sendPiece 95 = .ok (.putfield 40, 3) := by decide +kernel
theorem d_Li_sendPiece_98 : decode c_Li_sendPiece 98 = .ok (.return_, 1) := by decide +kernel
theorem d_An_left_0 : decode c_An_left 0 = .ok (.aload_n 0, 1) := by decide +kernel
theorem d_An_left_1 : decode c_An_left 1 = .ok (.getfield 15, 3) := by decide +kernel
theorem d_An_left_4 : decode c_An_left 4 = .ok (.aload_n 0, 1) := by decide +kernel
theorem d_An_left_5 : decode c_An_left 5 = .ok (.getfield 19, 3) := by decide +kernel
theorem d_An_left_8 : decode c_An_left 8 = .ok (.isub, 1) := by decide +kernel
theorem d_An_left_9 : decode c_An_left 9 = .ok (.ireturn, 1) := by decide +kernel
theorem d_An_next_0 : decode c_An_next 0 = .ok (.aload_n 0, 1) := by decide +kernel
theorem d_An_next_1 : decode c_An_next 1 = .ok (.getfield 19, 3) := by decide +kernel
theorem d_An_next_4 : decode c_An_next 4 = .ok (.aload_n 0, 1) := by decide +kernel
theorem d_An_next_5 : decode c_An_next 5 = .ok (.getfield 15, 3) := by decide +kernel
theorem d_An_next_8 : decode c_An_next 8 = .ok (.if_icmp .ge 22, 3) := by decide +kernel
theorem d_An_next_11 : decode c_An_next 11 = .ok (.aload_n 0, 1) := by decide +kernel
theorem d_An_next_12 : decode c_An_next 12 = .ok (.getfield 11, 3) := by decide +kernel
theorem d_An_next_15 : decode c_An_next 15 = .ok (.aload_n 0, 1) := by decide +kernel
theorem d_An_next_16 : decode c_An_next 16 = .ok (.dup, 1) := by decide +kernel
theorem d_An_next_17 : decode c_An_next 17 = .ok (.getfield 19, 3) := by decide +kernel
theorem d_An_next_20 : decode c_An_next 20 = .ok (.dup_x1, 1) := by decide +kernel
theorem d_An_next_21 : decode c_An_next 21 = .ok (.iconst 1, 1) := by decide +kernel
theorem d_An_next_22 : decode c_An_next 22 = .ok (.iadd, 1) := by decide +kernel
theorem d_An_next_23 : decode c_An_next 23 = .ok (.putfield 19, 3) := by decide +kernel
theorem d_An_next_26 : decode c_An_next 26 = .ok (.iaload, 1) := by decide +kernel
theorem d_An_next_27 : decode c_An_next 27 = .ok (.goto 4, 3) := by decide +kernel
theorem d_An_next_30 : decode c_An_next 30 = .ok (.iconst 0, 1) := by decide +kernel
theorem d_An_next_31 : decode c_An_next 31 = .ok (.ireturn, 1) := by decide +kernel
theorem d_Li_append_0 : decode c_Li_append 0 = .ok (.aload_n 0, 1) := by decide +kernel
theorem d_Li_append_1 : decode c_Li_append 1 = .ok (.getfield 31, 3) := by decide +kernel
theorem d_Li_append_4 : decode c_Li_append 4 = .ok (.bipush 35, 2) := by decide +kernel
theorem d_Li_append_6 : decode c_Li_append 6 = .ok (.if_icmp .ge 30, 3) := by decide +kernel
theorem d_Li_append_9 : decode c_Li_append 9 = .ok (.aload_n 0, 1) := by decide +kernel
theorem d_Li_append_10 : decode c_Li_append 10 = .ok (.getfield 15, 3) := by decide +kernel
theorem d_Li_append_13 : decode c_Li_append 13 = .ok (.aload_n 0, 1) := by decide +kernel
theorem d_Li_append_14 : decode c_Li_append 14 = .ok (.dup, 1) := by decide +kernel
theorem d_Li_append_15 : decode c_Li_append 15 = .ok (.getfield 31, 3) := by decide +kernel
theorem d_Li_append_18 : decode c_Li_append 18 = .ok (.dup_x1, 1) := by decide +kernel
theorem d_Li_append_19 : decode c_Li_append 19 = .ok (.iconst 1, 1) := by decide +kernel
theorem d_Li_append_20 : decode c_Li_append 20 = .ok (.iadd, 1) := by decide +kernel
theorem d_Li_append_21 : decode c_Li_append 21 = .ok (.putfield 31, 3) := by decide +kernel
theorem d_Li_append_24 : decode c_Li_append 24 = .ok (.iload_n 1, 1) := by decide +kernel
theorem d_Li_append_25 : decode c_Li_append 25 = .ok (.iastore, 1) := by decide +kernel
theorem d_Li_append_26 : decode c_Li_append 26 = .ok (.aload_n 0, 1) := by decide +kernel
theorem d_Li_append_27 : decode c_Li_append 27 = .ok (.getfield 15, 3) := by decide +kernel
theorem d_Li_append_30 : decode c_Li_append 30 = .ok (.iconst 2, 1) := by decide +kernel
theorem d_Li_append_31 : decode c_Li_append 31 = .ok (.dup2, 1) := by decide +kernel
theorem d_Li_append_32 : decode c_Li_append 32 = .ok (.iaload, 1) := by decide +kernel
theorem d_Li_append_33 : decode c_Li_append 33 = .ok (.iconst 1, 1) := by decide +kernel
theorem d_Li_append_34 : decode c_Li_append 34 = .ok (.iadd, 1) := by decide +kernel
theorem d_Li_append_35 : decode c_Li_append 35 = .ok (.iastore, 1) := by decide +kernel
theorem d_Li_append_36 : decode c_Li_append 36 = .ok (.return_, 1) := by decide +kernel
theorem d_Ca_takeReady_0 : decode c_Ca_takeReady 0 = .ok (.aload_n 0, 1) := by decide +kernel
theorem d_Ca_takeReady_1 : decode c_Ca_takeReady 1 = .ok (.getfield 10, 3) := by decide +kernel
theorem d_Ca_takeReady_4 : decode c_Ca_takeReady 4 = .ok (.invokevirtual 207, 3) := by decide +kernel
theorem d_Ca_takeReady_7 : decode c_Ca_takeReady 7 = .ok (.ifCond .eq 5, 3) := by decide +kernel
theorem d_Ca_takeReady_10 : decode c_Ca_takeReady 10 = .ok (.iconst 2, 1) := by decide +kernel
theorem d_Ca_takeReady_11 : decode c_Ca_takeReady 11 = .ok (.ireturn, 1) := by decide +kernel
theorem d_Ca_takeReady_12 : decode c_Ca_takeReady 12 = .ok (.iload_n 1, 1) := by decide +kernel
theorem d_Ca_takeReady_13 : decode c_Ca_takeReady 13 = .ok (.aload_n 0, 1) := by decide +kernel
theorem d_Ca_takeReady_14 : decode c_Ca_takeReady 14 = .ok (.getfield 10, 3) := by decide +kernel
theorem d_Ca_takeReady_17 : decode c_Ca_takeReady 17 = .ok (.getfield 157, 3) := by decide +kernel
theorem d_Ca_takeReady_20 : decode c_Ca_takeReady 20 = .ok (.if_icmp .ne 33, 3) := by decide +kernel
theorem d_Ca_takeReady_23 : decode c_Ca_takeReady 23 = .ok (.aload_n 0, 1) := by decide +kernel
theorem d_Ca_takeReady_24 : decode c_Ca_takeReady 24 = .ok (.getfield 19, 3) := by decide +kernel
theorem d_Ca_takeReady_27 : decode c_Ca_takeReady 27 = .ok (.getfield 172, 3) := by decide +kernel
theorem d_Ca_takeReady_30 : decode c_Ca_takeReady 30 = .ok (.invokevirtual 176, 3) := by decide +kernel
theorem d_Ca_takeReady_33 : decode c_Ca_takeReady 33 = .ok (.ifCond .le 20, 3) := by decide +kernel
theorem d_Ca_takeReady_36 : decode c_Ca_takeReady 36 = .ok (.aload_n 0, 1) := by decide +kernel
theorem d_Ca_takeReady_37 : decode c_Ca_takeReady 37 = .ok (.getfield 10, 3) := by decide +kernel
theorem d_Ca_takeReady_40 : decode c_Ca_takeReady 40 = .ok (.aload_n 0, 1) := by decide +kernel
theorem d_Ca_takeReady_41 : decode c_Ca_takeReady 41 = .ok (.getfield 19, 3) := by decide +kernel
theorem d_Ca_takeReady_44 : decode c_Ca_takeReady 44 = .ok (.getfield 172, 3) := by decide +kernel
theorem d_Ca_takeReady_47 : decode c_Ca_takeReady 47 = .ok (.invokevirtual 221, 3) := by decide +kernel
theorem d_Ca_takeReady_50 : decode c_Ca_takeReady 50 = .ok (.goto 42, 3) := by decide +kernel
theorem d_Ca_takeReady_53 : decode c_Ca_takeReady 53 = .ok (.iload_n 1, 1) := by decide +kernel
theorem d_Ca_takeReady_54 : decode c_Ca_takeReady 54 = .ok (.aload_n 0, 1) := by decide +kernel
theorem d_Ca_takeReady_55 : decode c_Ca_takeReady 55 = .ok (.getfield 10, 3) := by decide +kernel
theorem d_Ca_takeReady_58 : decode c_Ca_takeReady 58 = .ok (.getfield 157, 3) := by decide +kernel
theorem d_Ca_takeReady_61 : decode c_Ca_takeReady 61 = .ok (.if_icmp .eq 23, 3) := by decide +kernel
theorem d_Ca_takeReady_64 : decode c_Ca_takeReady 64 = .ok (.aload_n 0, 1) := by decide +kernel
theorem d_Ca_takeReady_65 : decode c_Ca_takeReady 65 = .ok (.getfield 10, 3) := by decide +kernel
theorem d_Ca_takeReady_68 : decode c_Ca_takeReady 68 = .ok (.getfield 225, 3) := by decide +kernel
theorem d_Ca_takeReady_71 : decode c_Ca_takeReady 71 = .ok (.ifCond .le 13, 3) := by decide +kernel
theorem d_Ca_takeReady_74 : decode c_Ca_takeReady 74 = .ok (.aload_n 0, 1) := by decide +kernel
theorem d_Ca_takeReady_75 : decode c_Ca_takeReady 75 = .ok (.getfield 10, 3) := by decide +kernel
theorem d_Ca_takeReady_78 : decode c_Ca_takeReady 78 = .ok (.invokevirtual 228, 3) := by decide +kernel
theorem d_Ca_takeReady_81 : decode c_Ca_takeReady 81 = .ok (.goto 11, 3) := by decide +kernel
theorem d_Ca_takeReady_84 : decode c_Ca_takeReady 84 = .ok (.aload_n 0, 1) := by decide +kernel
theorem d_Ca_takeReady_85 : decode c_Ca_takeReady 85 = .ok (.getfield 10, 3) := by decide +kernel
theorem d_Ca_takeReady_88 : decode c_Ca_takeReady 88 = .ok (.iconst 0, 1) := by decide +kernel
theorem d_Ca_takeReady_89 : decode c_Ca_takeReady 89 = .ok (.invokevirtual 201, 3) := by decide +kernel
theorem d_Ca_takeReady_92 : decode c_Ca_takeReady 92 = .ok (.iconst 0, 1) := by decide +kernel
theorem d_Ca_takeReady_93 : decode c_Ca_takeReady 93 = .ok (.ireturn, 1) := by decide +kernel
theorem d_Li_sendAgain_0 : decode c_Li_sendAgain 0 = .ok (.aload_n 0, 1) := by decide +kernel
theorem d_Li_sendAgain_1 : decode c_Li_sendAgain 1 = .ok (.getfield 18, 3) := by decide +kernel
theorem d_Li_sendAgain_4 : decode c_Li_sendAgain 4 = .ok (.iconst 0, 1) := by decide +kernel
theorem d_Li_sendAgain_5 : decode c_Li_sendAgain 5 = .ok (.aload_n 0, 1) := by decide +kernel
theorem d_Li_sendAgain_6 : decode c_Li_sendAgain 6 = .ok (.getfield 15, 3) := by decide +kernel
theorem d_Li_sendAgain_9 : decode c_Li_sendAgain 9 = .ok (.iconst 0, 1) := by decide +kernel
theorem d_Li_sendAgain_10 : decode c_Li_sendAgain 10 = .ok (.aload_n 0, 1) := by decide +kernel
theorem d_Li_sendAgain_11 : decode c_Li_sendAgain 11 = .ok (.getfield 40, 3) := by decide +kernel
theorem d_Li_sendAgain_14 : decode c_Li_sendAgain 14 = .ok (.invokestatic 82, 3) := by decide +kernel
theorem d_Li_sendAgain_17 : decode c_Li_sendAgain 17 = .ok (.aload_n 0, 1) := by decide +kernel
theorem d_Li_sendAgain_18 : decode c_Li_sendAgain 18 = .ok (.aload_n 0, 1) := by decide +kernel
theorem d_Li_sendAgain_19 : decode c_Li_sendAgain 19 = .ok (.getfield 40, 3) := by decide +kernel
theorem d_Li_sendAgain_22 : decode c_Li_sendAgain 22 = .ok (.putfield 31, 3) := by decide +kernel
theorem d_Li_sendAgain_25 : decode c_Li_sendAgain 25 = .ok (.return_, 1) := by decide +kernel
theorem d_Ca_takeSupervision_0 : decode c_Ca_takeSupervision 0 = .ok (.aload_n 0, 1) := by decide +kernel
theorem d_Ca_takeSupervision_1 : decode c_Ca_takeSupervision 1 = .ok (.getfield 10, 3) := by decide +kernel
theorem d_Ca_takeSupervision_4 : decode c_Ca_takeSupervision 4 = .ok (.invokevirtual 207, 3) := by decide +kernel
theorem d_Ca_takeSupervision_7 : decode c_Ca_takeSupervision 7 = .ok (.iload_n 1, 1) := by decide +kernel
theorem d_Ca_takeSupervision_8 : decode c_Ca_takeSupervision 8 = .ok (.sipush 193, 3) := by decide +kernel
theorem d_Ca_takeSupervision_11 : decode c_Ca_takeSupervision 11 = .ok (.if_icmp .ne 7, 3) := by decide +kernel
theorem d_Ca_takeSupervision_14 : decode c_Ca_takeSupervision 14 = .ok (.iconst 1, 1) := by decide +kernel
theorem d_Ca_takeSupervision_15 : decode c_Ca_takeSupervision 15 = .ok (.goto 4, 3) := by decide +kernel
theorem d_Ca_takeSupervision_18 : decode c_Ca_takeSupervision 18 = .ok (.iconst 0, 1) := by decide +kernel
theorem d_Ca_takeSupervision_19 : decode c_Ca_takeSupervision 19 = .ok (.if_icmp .eq 5, 3) := by decide +kernel
theorem d_Ca_takeSupervision_22 : decode c_Ca_takeSupervision 22 = .ok (.iconst 2, 1) := by decide +kernel
theorem d_Ca_takeSupervision_23 : decode c_Ca_takeSupervision 23 = .ok (.ireturn, 1) := by decide +kernel
theorem d_Ca_takeSupervision_24 : decode c_Ca_takeSupervision 24 = .ok (.iload_n 1, 1) := by decide +kernel
theorem d_Ca_takeSupervision_25 : decode c_Ca_takeSupervision 25 = .ok (.sipush 193, 3) := by decide +kernel
theorem d_Ca_takeSupervision_28 : decode c_Ca_takeSupervision 28 = .ok (.if_icmp .ne 16, 3) := by decide +kernel
theorem d_Ca_takeSupervision_31 : decode c_Ca_takeSupervision 31 = .ok (.aload_n 0, 1) := by decide +kernel
theorem d_Ca_takeSupervision_32 : decode c_Ca_takeSupervision 32 = .ok (.aload_n 0, 1) := by decide +kernel
theorem d_Ca_takeSupervision_33 : decode c_Ca_takeSupervision 33 = .ok (.getfield 10, 3) := by decide +kernel
theorem d_Ca_takeSupervision_36 : decode c_Ca_takeSupervision 36 = .ok (.iconst 0, 1) := by decide +kernel
theorem d_Ca_takeSupervision_37 : decode c_Ca_takeSupervision 37 = .ok (.invokevirtual 210, 3) := by decide +kernel
theorem d_Ca_takeSupervision_40 : decode c_Ca_takeSupervision 40 = .ok (.invokevirtual 231, 3) := by decide +kernel
theorem d_Ca_takeSupervision_43 : decode c_Ca_takeSupervision 43 = .ok (.ireturn, 1) := by decide +kernel
theorem d_Ca_takeSupervision_44 : decode c_Ca_takeSupervision 44 = .ok (.aload_n 0, 1) := by decide +kernel
theorem d_Ca_takeSupervision_45 : decode c_Ca_takeSupervision 45 = .ok (.getfield 19, 3) := by decide +kernel
theorem d_Ca_takeSupervision_48 : decode c_Ca_takeSupervision 48 = .ok (.invokevirtual 234, 3) := by decide +kernel
theorem d_Ca_takeSupervision_51 : decode c_Ca_takeSupervision 51 = .ok (.iload_n 1, 1) := by decide +kernel
theorem d_Ca_takeSupervision_52 : decode c_Ca_takeSupervision 52 = .ok (.sipush 192, 3) := by decide +kernel
theorem d_Ca_takeSupervision_55 : decode c_Ca_takeSupervision 55 = .ok (.if_icmp .ne 10, 3) := by decide +kernel
theorem d_Ca_takeSupervision_58 : decode c_Ca_takeSupervision 58 = .ok (.aload_n 0, 1) := by decide +kernel
theorem d_Ca_takeSupervision_59 : decode c_Ca_takeSupervision 59 = .ok (.getfield 10, 3) := by decide +kernel
theorem d_Ca_takeSupervision_62 : decode c_Ca_takeSupervision 62 = .ok (.invokevirtual 237, 3) := by decide +kernel
theorem d_Ca_takeSupervision_65 : decode c_Ca_takeSupervision 65 = .ok (.aload_n 0, 1) := by decide +kernel
theorem d_Ca_takeSupervision_66 : decode c_Ca_takeSupervision 66 = .ok (.getfield 10, 3) := by decide +kernel
theorem d_Ca_takeSupervision_69 : decode c_Ca_takeSupervision 69 = .ok (.iload_n 1, 1) := by decide +kernel
theorem d_Ca_takeSupervision_70 : decode c_Ca_takeSupervision 70 = .ok (.bipush 32, 2) := by decide +kernel
theorem d_Ca_takeSupervision_72 : decode c_Ca_takeSupervision 72 = .ok (.iadd, 1) := by decide +kernel
theorem d_Ca_takeSupervision_73 : decode c_Ca_takeSupervision 73 = .ok (.invokevirtual 240, 3) := by decide +kernel
theorem d_Ca_takeSupervision_76 : decode c_Ca_takeSupervision 76 = .ok (.iconst 0, 1) := by decide +kernel
theorem d_Ca_takeSupervision_77 : decode c_Ca_takeSupervision 77 = .ok (.ireturn, 1) := by decide +kernel
