theorem d_Ca_takeSize_0 : decode c_Ca_takeSize 0 = .ok (.iload_n 1, 1) := by decide +kernel
theorem d_Ca_takeSize_1 : decode c_Ca_takeSize 1 = .ok (.iconst 1, 1) := by decide +kernel
theorem d_Ca_takeSize_2 : decode c_Ca_takeSize 2 = .ok (.if_icmp .lt 9, 3) := by decide +kernel
theorem d_Ca_takeSize_5 : decode c_Ca_takeSize 5 = .ok (.iload_n 1, 1) := by decide +kernel
theorem d_Ca_takeSize_6 : decode c_Ca_takeSize 6 = .ok (.bipush 32, 2) := by decide +kernel
theorem d_Ca_takeSize_8 : decode c_Ca_takeSize 8 = .ok (.if_icmp .le 5, 3) := by decide +kernel
theorem d_Ca_takeSize_11 : decode c_Ca_takeSize 11 = .ok (.iconst 2, 1) := by decide +kernel
theorem d_Ca_takeSize_12 : decode c_Ca_takeSize 12 = .ok (.ireturn, 1) := by decide +kernel
theorem d_Ca_takeSize_13 : decode c_Ca_takeSize 13 = .ok (.aload_n 0, 1) := by decide +kernel
theorem d_Ca_takeSize_14 : decode c_Ca_takeSize 14 = .ok (.getfield 10, 3) := by decide +kernel
theorem d_Ca_takeSize_17 : decode c_Ca_takeSize 17 = .ok (.iload_n 1, 1) := by decide +kernel
theorem d_Ca_takeSize_18 : decode c_Ca_takeSize 18 = .ok (.putfield 160, 3) := by decide +kernel
theorem d_Ca_takeSize_21 : decode c_Ca_takeSize 21 = .ok (.aload_n 0, 1) := by decide +kernel
theorem d_Ca_takeSize_22 : decode c_Ca_takeSize 22 = .ok (.getfield 10, 3) := by decide +kernel
theorem d_Ca_takeSize_25 : decode c_Ca_takeSize 25 = .ok (.invokevirtual 243, 3) := by decide +kernel
theorem d_Ca_takeSize_28 : decode c_Ca_takeSize 28 = .ok (.iconst 0, 1) := by decide +kernel
theorem d_Ca_takeSize_29 : decode c_Ca_takeSize 29 = .ok (.ireturn, 1) := by decide +kernel
theorem d_Li_sendSize_0 : decode c_Li_sendSize 0 = .ok (.aload_n 0, 1) := by decide +kernel
theorem d_Li_sendSize_1 : decode c_Li_sendSize 1 = .ok (.sipush 225, 3) := by decide +kernel
theorem d_Li_sendSize_4 : decode c_Li_sendSize 4 = .ok (.invokevirtual 58, 3) := by decide +kernel
theorem d_Li_sendSize_7 : decode c_Li_sendSize 7 = .ok (.aload_n 0, 1) := by decide +kernel
theorem d_Li_sendSize_8 : decode c_Li_sendSize 8 = .ok (.aload_n 0, 1) := by decide +kernel
theorem d_Li_sendSize_9 : decode c_Li_sendSize 9 = .ok (.getfield 21, 3) := by decide +kernel
theorem d_Li_sendSize_12 : decode c_Li_sendSize 12 = .ok (.invokevirtual 65, 3) := by decide +kernel
theorem d_Li_sendSize_15 : decode c_Li_sendSize 15 = .ok (.aload_n 0, 1) := by decide +kernel
theorem d_Li_sendSize_16 : decode c_Li_sendSize 16 = .ok (.invokevirtual 62, 3) := by decide +kernel
theorem d_Li_sendSize_19 : decode c_Li_sendSize 19 = .ok (.return_, 1) := by decide +kernel
theorem d_Li_sendSupervision_0 : decode c_Li_sendSupervision 0 = .ok (.aload_n 0, 1) := by decide +kernel
theorem d_Li_sendSupervision_1 : decode c_Li_sendSupervision 1 = .ok (.iload_n 1, 1) := by decide +kernel
theorem d_Li_sendSupervision_2 : decode c_Li_sendSupervision 2 = .ok (.invokevirtual 58, 3) := by decide +kernel
theorem d_Li_sendSupervision_5 : decode c_Li_sendSupervision 5 = .ok (.aload_n 0, 1) := by decide +kernel
theorem d_Li_sendSupervision_6 : decode c_Li_sendSupervision 6 = .ok (.invokevirtual 62, 3) := by decide +kernel
theorem d_Li_sendSupervision_9 : decode c_Li_sendSupervision 9 = .ok (.return_, 1) := by decide +kernel
theorem d_Ca_block_0 : decode c_Ca_block 0 = .ok (.iload_n 1, 1) := by decide +kernel
theorem d_Ca_block_1 : decode c_Ca_block 1 = .ok (.ifCond .lt 22, 3) := by decide +kernel
theorem d_Ca_block_4 : decode c_Ca_block 4 = .ok (.iload_n 1, 1) := by decide +kernel
theorem d_Ca_block_5 : decode c_Ca_block 5 = .ok (.sipush 255, 3) := by decide +kernel
theorem d_Ca_block_8 : decode c_Ca_block 8 = .ok (.if_icmp .gt 15, 3) := by decide +kernel
theorem d_Ca_block_11 : decode c_Ca_block 11 = .ok (.iload 4, 2) := by decide +kernel
theorem d_Ca_block_13 : decode c_Ca_block 13 = .ok (.ifCond .lt 10, 3) := by decide +kernel
theorem d_Ca_block_16 : decode c_Ca_block 16 = .ok (.iload 4, 2) := by decide +kernel
theorem d_Ca_block_18 : decode c_Ca_block 18 = .ok (.bipush 8, 2) := by decide +kernel
theorem d_Ca_block_20 : decode c_Ca_block 20 = .ok (.if_icmp .le 5, 3) := by decide +kernel
theorem d_Ca_block_23 : decode c_Ca_block 23 = .ok (.iconst (-1), 1) := by decide +kernel
theorem d_Ca_block_24 : decode c_Ca_block 24 = .ok (.ireturn, 1) := by decide +kernel
theorem d_Ca_block_25 : decode c_Ca_block 25 = .ok (.aload_n 0, 1) := by decide +kernel
theorem d_Ca_block_26 : decode c_Ca_block 26 = .ok (.getfield 44, 3) := by decide +kernel
theorem d_Ca_block_29 : decode c_Ca_block 29 = .ok (.ifCond .ne 6, 3) := by decide +kernel
theorem d_Ca_block_32 : decode c_Ca_block 32 = .ok (.bipush (-3), 2) := by decide +kernel
theorem d_Ca_block_34 : decode c_Ca_block 34 = .ok (.ireturn, 1) := by decide +kernel
theorem d_Ca_block_35 : decode c_Ca_block 35 = .ok (.aload_n 0, 1) := by decide +kernel
theorem d_Ca_block_36 : decode c_Ca_block 36 = .ok (.getfield 10, 3) := by decide +kernel
theorem d_Ca_block_39 : decode c_Ca_block 39 = .ok (.iconst 0, 1) := by decide +kernel
theorem d_Ca_block_40 : decode c_Ca_block 40 = .ok (.putfield 86, 3) := by decide +kernel
theorem d_Ca_block_43 : decode c_Ca_block 43 = .ok (.aload_n 0, 1) := by decide +kernel
theorem d_Ca_block_44 : decode c_Ca_block 44 = .ok (.getfield 10, 3) := by decide +kernel
theorem d_Ca_block_47 : decode c_Ca_block 47 = .ok (.iconst 0, 1) := by decide +kernel
theorem d_Ca_block_48 : decode c_Ca_block 48 = .ok (.invokevirtual 77, 3) := by decide +kernel
theorem d_Ca_block_51 : decode c_Ca_block 51 = .ok (.aload_n 0, 1) := by decide +kernel
theorem d_Ca_block_52 : decode c_Ca_block 52 = .ok (.getfield 10, 3) := by decide +kernel
theorem d_Ca_block_55 : decode c_Ca_block 55 = .ok (.iload_n 1, 1) := by decide +kernel
theorem d_Ca_block_56 : decode c_Ca_block 56 = .ok (.invokevirtual 77, 3) := by decide +kernel
theorem d_Ca_block_59 : decode c_Ca_block 59 = .ok (.aload_n 0, 1) := by decide +kernel
theorem d_Ca_block_60 : decode c_Ca_block 60 = .ok (.getfield 10, 3) := by decide +kernel
theorem d_Ca_block_63 : decode c_Ca_block 63 = .ok (.iload 4, 2) := by decide +kernel
theorem d_Ca_block_65 : decode c_Ca_block 65 = .ok (.invokevirtual 77, 3) := by decide +kernel
theorem d_Ca_block_68 : decode c_Ca_block 68 = .ok (.iconst 0, 1) := by decide +kernel
theorem d_Ca_block_69 : decode c_Ca_block 69 = .ok (.istore 5, 2) := by decide +kernel
theorem d_Ca_block_71 : decode c_Ca_block 71 = .ok (.iload 5, 2) := by decide +kernel
theorem d_Ca_block_73 : decode c_Ca_block 73 = .ok (.iload 4, 2) := by decide +kernel
theorem d_Ca_block_75 : decode c_Ca_block 75 = .ok (.if_icmp .ge 22, 3) := by decide +kernel
theorem d_Ca_block_78 : decode c_Ca_block 78 = .ok (.aload_n 0, 1) := by decide +kernel
theorem d_Ca_block_79 : decode c_Ca_block 79 = .ok (.getfield 10, 3) := by decide +kernel
theorem d_Ca_block_82 : decode c_Ca_block 82 = .ok (.lload_n 2, 1) := by decide +kernel
theorem d_Ca_block_83 : decode c_Ca_block 83 = .ok (.iload 5, 2) := by decide +kernel
theorem d_Ca_block_85 : decode c_Ca_block 85 = .ok (.invokestatic 73, 3) := by decide +kernel
theorem d_Ca_block_88 : decode c_Ca_block 88 = .ok (.invokevirtual 77, 3) := by decide +kernel
theorem d_Ca_block_91 : decode c_Ca_block 91 = .ok (.iinc 5 1, 3) := by decide +kernel
theorem d_Ca_block_94 : decode c_Ca_block 94 = .ok (.goto (-23), 3) := by decide +kernel
theorem d_Ca_block_97 : decode c_Ca_block 97 = .ok (.aload_n 0, 1) := by decide +kernel
theorem d_Ca_block_98 : decode c_Ca_block 98 = .ok (.getfield 10, 3) := by decide +kernel
theorem d_Ca_block_101 : decode c_Ca_block 101 = .ok (.aload_n 0, 1) := by decide +kernel
theorem d_Ca_block_102 : decode c_Ca_block 102 = .ok (.getfield 10, 3) := by decide +kernel
theorem d_Ca_block_105 : decode c_Ca_block 105 = .ok (.invokevirtual 89, 3) := by decide +kernel
theorem d_Ca_block_108 : decode c_Ca_block 108 = .ok (.invokevirtual 77, 3) := by decide +kernel
theorem d_Ca_block_111 : decode c_Ca_block 111 = .ok (.aload_n 0, 1) := by decide +kernel
theorem d_Ca_block_112 : decode c_Ca_block 112 = .ok (.invokevirtual 83, 3) := by decide +kernel
theorem d_Ca_block_115 : decode c_Ca_block 115 = .ok (.aload_n 0, 1) := by decide +kernel
theorem d_Ca_block_116 : decode c_Ca_block 116 = .ok (.getfield 10, 3) := by decide +kernel
theorem d_Ca_block_119 : decode c_Ca_block 119 = .ok (.getfield 93, 3) := by decide +kernel
theorem d_Ca_block_122 : decode c_Ca_block 122 = .ok (.ireturn, 1) := by decide +kernel
theorem d_Ca_reply_0 : decode c_Ca_reply 0 = .ok (.iload_n 1, 1) := by decide +kernel
theorem d_Ca_reply_1 : decode c_Ca_reply 1 = .ok (.ifCond .lt 26, 3) := by decide +kernel
theorem d_Ca_reply_4 : decode c_Ca_reply 4 = .ok (.iload_n 1, 1) := by decide +kernel
theorem d_Ca_reply_5 : decode c_Ca_reply 5 = .ok (.aload_n 0, 1) := by decide +kernel
theorem d_Ca_reply_6 : decode c_Ca_reply 6 = .ok (.getfield 10, 3) := by decide +kernel
theorem d_Ca_reply_9 : decode c_Ca_reply 9 = .ok (.getfield 93, 3) := by decide +kernel
theorem d_Ca_reply_12 : decode c_Ca_reply 12 = .ok (.if_icmp .ge 15, 3) := by decide +kernel
theorem d_Ca_reply_15 : decode c_Ca_reply 15 = .ok (.aload_n 0, 1) := by decide +kernel
theorem d_Ca_reply_16 : decode c_Ca_reply 16 = .ok (.getfield 10, 3) := by decide +kernel
theorem d_Ca_reply_19 : decode c_Ca_reply 19 = .ok (.getfield 96, 3) := by decide +kernel
theorem d_Ca_reply_22 : decode c_Ca_reply 22 = .ok (.iload_n 1, 1) := by decide +kernel
theorem d_Ca_reply_23 : decode c_Ca_reply 23 = .ok (.iaload, 1) := by decide +kernel
theorem d_Ca_reply_24 : decode c_Ca_reply 24 = .ok (.goto 4, 3) := by decide +kernel
theorem d_Ca_reply_27 : decode c_Ca_reply 27 = .ok (.iconst (-1), 1) := by decide +kernel
theorem d_Ca_reply_28 : decode c_Ca_reply 28 = .ok (.ireturn, 1) := by decide +kernel
theorem d_Ca_stored_0 : decode c_Ca_stored 0 = .ok (.aload_n 0, 1) := by decide +kernel
theorem d_Ca_stored_1 : decode c_Ca_stored 1 = .ok (.getfield 27, 3) := by decide +kernel
theorem d_Ca_stored_4 : decode c_Ca_stored 4 = .ok (.getfield 28, 3) := by decide +kernel
theorem d_Ca_stored_7 : decode c_Ca_stored 7 = .ok (.iload_n 1, 1) := by decide +kernel
theorem d_Ca_stored_8 : decode c_Ca_stored 8 = .ok (.iload_n 2, 1) := by decide +kernel
theorem d_Ca_stored_9 : decode c_Ca_stored 9 = .ok (.invokevirtual 100, 3) := by decide +kernel
theorem d_Ca_stored_12 : decode c_Ca_stored 12 = .ok (.ifCond .eq 18, 3) := by decide +kernel
theorem d_Ca_stored_15 : decode c_Ca_stored 15 = .ok (.aload_n 0, 1) := by decide +kernel
theorem d_Ca_stored_16 : decode c_Ca_stored 16 = .ok (.getfield 27, 3) := by decide +kernel
theorem d_Ca_stored_19 : decode c_Ca_stored 19 = .ok (.getfield 28, 3) := by decide +kernel
theorem d_Ca_stored_22 : decode c_Ca_stored 22 = .ok (.iload_n 1, 1) := by decide +kernel
theorem d_Ca_stored_23 : decode c_Ca_stored 23 = .ok (.iload_n 2, 1) := by decide +kernel
theorem d_Ca_stored_24 : decode c_Ca_stored 24 = .ok (.invokevirtual 104, 3) := by decide +kernel
theorem d_Ca_stored_27 : decode c_Ca_stored 27 = .ok (.goto 4, 3) := by decide +kernel
theorem d_Ca_stored_30 : decode c_Ca_stored 30 = .ok (.iconst (-1), 1) := by decide +kernel
theorem d_Ca_stored_31 : decode c_Ca_stored 31 = .ok (.ireturn, 1) := by decide +kernel
theorem d_Ca_state_0 : decode c_Ca_state 0 = .ok (.iload_n 1, 1) := by decide +kernel
theorem d_Ca_state_1 : decode c_Ca_state 1 = .ok (.tableswitch 124 0 7 #[47, 60, 71, 79, 87, 103, 111, 119], 47) := by decide +kernel
theorem d_Ca_state_48 : decode c_Ca_state 48 = .ok (.aload_n 0, 1) := by decide +kernel
theorem d_Ca_state_49 : decode c_Ca_state 49 = .ok (.getfield 44, 3) := by decide +kernel
theorem d_Ca_state_52 : decode c_Ca_state 52 = .ok (.ifCond .eq 7, 3) := by decide +kernel
theorem d_Ca_state_55 : decode c_Ca_state 55 = .ok (.iconst 1, 1) := by decide +kernel
theorem d_Ca_state_56 : decode c_Ca_state 56 = .ok (.goto 4, 3) := by decide +kernel
theorem d_Ca_state_59 : decode c_Ca_state 59 = .ok (.iconst 0, 1) := by decide +kernel
theorem d_Ca_state_60 : decode c_Ca_state 60 = .ok (.ireturn, 1) := by decide +kernel
theorem d_Ca_state_61 : decode c_Ca_state 61 = .ok (.aload_n 0, 1) := by decide +kernel
theorem d_Ca_state_62 : decode c_Ca_state 62 = .ok (.getfield 27, 3) := by decide +kernel
theorem d_Ca_state_65 : decode c_Ca_state 65 = .ok (.getfield 28, 3) := by decide +kernel
theorem d_Ca_state_68 : decode c_Ca_state 68 = .ok (.getfield 108, 3) := by decide +kernel
theorem d_Ca_state_71 : decode c_Ca_state 71 = .ok (.ireturn, 1) := by decide +kernel
theorem d_Ca_state_72 : decode c_Ca_state 72 = .ok (.aload_n 0, 1) := by decide +kernel
theorem d_Ca_state_73 : decode c_Ca_state 73 = .ok (.getfield 27, 3) := by decide +kernel
theorem d_Ca_state_76 : decode c_Ca_state 76 = .ok (.getfield 66, 3) := by decide +kernel
theorem d_Ca_state_79 : decode c_Ca_state 79 = .ok (.ireturn, 1) := by decide +kernel
theorem d_Ca_state_80 : decode c_Ca_state 80 = .ok (.aload_n 0, 1) := by decide +kernel
theorem d_Ca_state_81 : decode c_Ca_state 81 = .ok (.getfield 27, 3) := by decide +kernel
theorem d_Ca_state_84 : decode c_Ca_state 84 = .ok (.getfield 111, 3) := by decide +kernel
theorem d_Ca_state_87 : decode c_Ca_state 87 = .ok (.ireturn, 1) := by decide +kernel
theorem d_Ca_state_88 : decode c_Ca_state 88 = .ok (.aload_n 0, 1) := by decide +kernel
theorem d_Ca_state_89 : decode c_Ca_state 89 = .ok (.getfield 27, 3) := by decide +kernel
theorem d_Ca_state_92 : decode c_Ca_state 92 = .ok (.getfield 59, 3) := by decide +kernel
theorem d_Ca_state_95 : decode c_Ca_state 95 = .ok (.ifCond .eq 7, 3) := by decide +kernel
theorem d_Ca_state_98 : decode c_Ca_state 98 = .ok (.iconst 1, 1) := by decide +kernel
theorem d_Ca_state_99 : decode c_Ca_state 99 = .ok (.goto 4, 3) := by decide +kernel
theorem d_Ca_state_102 : decode c_Ca_state 102 = .ok (.iconst 0, 1) := by decide +kernel
theorem d_Ca_state_103 : decode c_Ca_state 103 = .ok (.ireturn, 1) := by decide +kernel
theorem d_Ca_state_104 : decode c_Ca_state 104 = .ok (.aload_n 0, 1) := by decide +kernel
theorem d_Ca_state_105 : decode c_Ca_state 105 = .ok (.getfield 27, 3) := by decide +kernel
theorem d_Ca_state_108 : decode c_Ca_state 108 = .ok (.getfield 114, 3) := by decide +kernel
theorem d_Ca_state_111 : decode c_Ca_state 111 = .ok (.ireturn, 1) := by decide +kernel
theorem d_Ca_state_112 : decode c_Ca_state 112 = .ok (.aload_n 0, 1) := by decide +kernel
theorem d_Ca_state_113 : decode c_Ca_state 113 = .ok (.getfield 27, 3) := by decide +kernel
theorem d_Ca_state_116 : decode c_Ca_state 116 = .ok (.getfield 117, 3) := by decide +kernel
theorem d_Ca_state_119 : decode c_Ca_state 119 = .ok (.ireturn, 1) := by decide +kernel
theorem d_Ca_state_120 : decode c_Ca_state 120 = .ok (.aload_n 0, 1) := by decide +kernel
theorem d_Ca_state_121 : decode c_Ca_state 121 = .ok (.getfield 120, 3) := by decide +kernel
theorem d_Ca_state_124 : decode c_Ca_state 124 = .ok (.ireturn, 1) := by decide +kernel
theorem d_Ca_state_125 : decode c_Ca_state 125 = .ok (.aload_n 0, 1) := by decide +kernel
theorem d_Ca_state_126 : decode c_Ca_state 126 = .ok (.getfield 44, 3) := by decide +kernel
theorem d_Ca_state_129 : decode c_Ca_state 129 = .ok (.ifCond .eq 11, 3) := by decide +kernel
theorem d_Ca_state_132 : decode c_Ca_state 132 = .ok (.aload_n 0, 1) := by decide +kernel
theorem d_Ca_state_133 : decode c_Ca_state 133 = .ok (.iload_n 1, 1) := by decide +kernel
theorem d_Ca_state_134 : decode c_Ca_state 134 = .ok (.invokevirtual 123, 3) := by decide +kernel
theorem d_Ca_state_137 : decode c_Ca_state 137 = .ok (.goto 4, 3) := by decide +kernel
theorem d_Ca_state_140 : decode c_Ca_state 140 = .ok (.iconst (-1), 1) := by decide +kernel
theorem d_Ca_state_141 : decode c_Ca_state 141 = .ok (.ireturn, 1) := by decide +kernel
theorem d_Ca_stateWhileOn_0 : decode c_Ca_stateWhileOn 0 = .ok (.iload_n 1, 1) := by decide +kernel
theorem d_Ca_stateWhileOn_1 : decode c_Ca_stateWhileOn 1 = .ok (.tableswitch 125 8 15 #[47, 63, 71, 79, 87, 95, 103, 114], 47) := by decide +kernel
theorem d_Ca_stateWhileOn_48 : decode c_Ca_stateWhileOn 48 = .ok (.aload_n 0, 1) := by decide +kernel
theorem d_Ca_stateWhileOn_49 : decode c_Ca_stateWhileOn 49 = .ok (.getfield 19, 3) := by decide +kernel
theorem d_Ca_stateWhileOn_52 : decode c_Ca_stateWhileOn 52 = .ok (.getfield 145, 3) := by decide +kernel
theorem d_Ca_stateWhileOn_55 : decode c_Ca_stateWhileOn 55 = .ok (.ifCond .eq 7, 3) := by decide +kernel
theorem d_Ca_stateWhileOn_58 : decode c_Ca_stateWhileOn 58 = .ok (.iconst 1, 1) := by decide +kernel
theorem d_Ca_stateWhileOn_59 : decode c_Ca_stateWhileOn 59 = .ok (.goto 4, 3) := by decide +kernel
theorem d_Ca_stateWhileOn_62 : decode c_Ca_stateWhileOn 62 = .ok (.iconst 0, 1) := by decide +kernel
theorem d_Ca_stateWhileOn_63 : decode c_Ca_stateWhileOn 63 = .ok (.ireturn, 1) := by decide +kernel
theorem d_Ca_stateWhileOn_64 : decode c_Ca_stateWhileOn 64 = .ok (.aload_n 0, 1) := by decide +kernel
theorem d_Ca_stateWhileOn_65 : decode c_Ca_stateWhileOn 65 = .ok (.getfield 19, 3) := by decide +kernel
theorem d_Ca_stateWhileOn_68 : decode c_Ca_stateWhileOn 68 = .ok (.getfield 148, 3) := by decide +kernel
theorem d_Ca_stateWhileOn_71 : decode c_Ca_stateWhileOn 71 = .ok (.ireturn, 1) := by decide +kernel
theorem d_Ca_stateWhileOn_72 : decode c_Ca_stateWhileOn 72 = .ok (.aload_n 0, 1) := by decide +kernel
theorem d_Ca_stateWhileOn_73 : decode c_Ca_stateWhileOn 73 = .ok (.getfield 19, 3) := by decide +kernel
theorem d_Ca_stateWhileOn_76 : decode c_Ca_stateWhileOn 76 = .ok (.getfield 151, 3) := by decide +kernel
theorem d_Ca_stateWhileOn_79 : decode c_Ca_stateWhileOn 79 = .ok (.ireturn, 1) := by decide +kernel
theorem d_Ca_stateWhileOn_80 : decode c_Ca_stateWhileOn 80 = .ok (.aload_n 0, 1) := by decide +kernel
theorem d_Ca_stateWhileOn_81 : decode c_Ca_stateWhileOn 81 = .ok (.getfield 10, 3) := by decide +kernel
theorem d_Ca_stateWhileOn_84 : decode c_Ca_stateWhileOn 84 = .ok (.getfield 154, 3) := by decide +kernel
theorem d_Ca_stateWhileOn_87 : decode c_Ca_stateWhileOn 87 = .ok (.ireturn, 1) := by decide +kernel
theorem d_Ca_stateWhileOn_88 : decode c_Ca_stateWhileOn 88 = .ok (.aload_n 0, 1) := by decide +kernel
theorem d_Ca_stateWhileOn_89 : decode c_Ca_stateWhileOn 89 = .ok (.getfield 10, 3) := by decide +kernel
theorem d_Ca_stateWhileOn_92 : decode c_Ca_stateWhileOn 92 = .ok (.getfield 157, 3) := by decide +kernel
theorem d_Ca_stateWhileOn_95 : decode c_Ca_stateWhileOn 95 = .ok (.ireturn, 1) := by decide +kernel
theorem d_Ca_stateWhileOn_96 : decode c_Ca_stateWhileOn 96 = .ok (.aload_n 0, 1) := by decide +kernel
theorem d_Ca_stateWhileOn_97 : decode c_Ca_stateWhileOn 97 = .ok (.getfield 10, 3) := by decide +kernel
theorem d_Ca_stateWhileOn_100 : decode c_Ca_stateWhileOn 100 = .ok (.getfield 160, 3) := by decide +kernel
theorem d_Ca_stateWhileOn_103 : decode c_Ca_stateWhileOn 103 = .ok (.ireturn, 1) := by decide +kernel
theorem d_Ca_stateWhileOn_104 : decode c_Ca_stateWhileOn 104 = .ok (.aload_n 0, 1) := by decide +kernel
theorem d_Ca_stateWhileOn_105 : decode c_Ca_stateWhileOn 105 = .ok (.getfield 19, 3) := by decide +kernel
theorem d_Ca_stateWhileOn_108 : decode c_Ca_stateWhileOn 108 = .ok (.getfield 163, 3) := by decide +kernel
theorem d_Ca_stateWhileOn_111 : decode c_Ca_stateWhileOn 111 = .ok (.getfield 167, 3) := by decide +kernel
theorem d_Ca_stateWhileOn_114 : decode c_Ca_stateWhileOn 114 = .ok (.ireturn, 1) := by decide +kernel
theorem d_Ca_stateWhileOn_115 : decode c_Ca_stateWhileOn 115 = .ok (.aload_n 0, 1) := by decide +kernel
theorem d_Ca_stateWhileOn_116 : decode c_Ca_stateWhileOn 116 = .ok (.getfield 19, 3) := by decide +kernel
theorem d_Ca_stateWhileOn_119 : decode c_Ca_stateWhileOn 119 = .ok (.getfield 172, 3) := by decide +kernel
theorem d_Ca_stateWhileOn_122 : decode c_Ca_stateWhileOn 122 = .ok (.invokevirtual 176, 3) := by decide +kernel
theorem d_Ca_stateWhileOn_125 : decode c_Ca_stateWhileOn 125 = .ok (.ireturn, 1) := by decide +kernel
theorem d_Ca_stateWhileOn_126 : decode c_Ca_stateWhileOn 126 = .ok (.iconst (-1), 1) := by decide +kernel
theorem d_Ca_stateWhileOn_127 : decode c_Ca_stateWhileOn 127 = .ok (.ireturn, 1) := by decide +kernel
theorem d_Ca_look_0 : decode c_Ca_look 0 = .ok (.aload_n 0, 1) := by decide +kernel
theorem d_Ca_look_1 : decode c_Ca_look 1 = .ok (.getfield 27, 3) := by decide +kernel
theorem d_Ca_look_4 : decode c_Ca_look 4 = .ok (.getfield 28, 3) := by decide +kernel
theorem d_Ca_look_7 : decode c_Ca_look 7 = .ok (.astore_n 3, 1) := by decide +kernel
theorem d_Ca_look_8 : decode c_Ca_look 8 = .ok (.aload_n 3, 1) := by decide +kernel
theorem d_Ca_look_9 : decode c_Ca_look 9 = .ok (.iload_n 1, 1) := by decide +kernel
theorem d_Ca_look_10 : decode c_Ca_look 10 = .ok (.invokevirtual 127, 3) := by decide +kernel
theorem d_Ca_look_13 : decode c_Ca_look 13 = .ok (.ifCond .ne 5, 3) := by decide +kernel
theorem d_Ca_look_16 : decode c_Ca_look 16 = .ok (.iconst (-1), 1) := by decide +kernel
theorem d_Ca_look_17 : decode c_Ca_look 17 = .ok (.ireturn, 1) := by decide +kernel
theorem d_Ca_look_18 : decode c_Ca_look 18 = .ok (.iload_n 2, 1) := by decide +kernel
theorem d_Ca_look_19 : decode c_Ca_look 19 = .ok (.tableswitch 68 0 4 #[33, 40, 47, 54, 61], 33) := by decide +kernel
theorem d_Ca_look_52 : decode c_Ca_look 52 = .ok (.aload_n 3, 1) := by decide +kernel
theorem d_Ca_look_53 : decode c_Ca_look 53 = .ok (.getfield 130, 3) := by decide +kernel
theorem d_Ca_look_56 : decode c_Ca_look 56 = .ok (.iload_n 1, 1) := by decide +kernel
theorem d_Ca_look_57 : decode c_Ca_look 57 = .ok (.iaload, 1) := by decide +kernel
theorem d_Ca_look_58 : decode c_Ca_look 58 = .ok (.ireturn, 1) := by decide +kernel
theorem d_Ca_look_59 : decode c_Ca_look 59 = .ok (.aload_n 3, 1) := by decide +kernel
theorem d_Ca_look_60 : decode c_Ca_look 60 = .ok (.getfield 133, 3) := by decide +kernel
theorem d_Ca_look_63 : decode c_Ca_look 63 = .ok (.iload_n 1, 1) := by decide +kernel
theorem d_Ca_look_64 : decode c_Ca_look 64 = .ok (.iaload, 1) := by decide +kernel
theorem d_Ca_look_65 : decode c_Ca_look 65 = .ok (.ireturn, 1) := by decide +kernel
theorem d_Ca_look_66 : decode c_Ca_look 66 = .ok (.aload_n 3, 1) := by decide +kernel
theorem d_Ca_look_67 : decode c_Ca_look 67 = .ok (.getfield 136, 3) := by decide +kernel
theorem d_Ca_look_70 : decode c_Ca_look 70 = .ok (.iload_n 1, 1) := by decide +kernel
theorem d_Ca_look_71 : decode c_Ca_look 71 = .ok (.iaload, 1) := by decide +kernel
theorem d_Ca_look_72 : decode c_Ca_look 72 = .ok (.ireturn, 1) := by decide +kernel
theorem d_Ca_look_73 : decode c_Ca_look 73 = .ok (.aload_n 3, 1) := by decide +kernel
theorem d_Ca_look_74 : decode c_Ca_look 74 = .ok (.getfield 139, 3) := by decide +kernel
theorem d_Ca_look_77 : decode c_Ca_look 77 = .ok (.iload_n 1, 1) := by decide +kernel
theorem d_Ca_look_78 : decode c_Ca_look 78 = .ok (.iaload, 1) := by decide +kernel
theorem d_Ca_look_79 : decode c_Ca_look 79 = .ok (.ireturn, 1) := by decide +kernel
theorem d_Ca_look_80 : decode c_Ca_look 80 = .ok (.aload_n 3, 1) := by decide +kernel
theorem d_Ca_look_81 : decode c_Ca_look 81 = .ok (.getfield 142, 3) := by decide +kernel
theorem d_Ca_look_84 : decode c_Ca_look 84 = .ok (.iload_n 1, 1) := by decide +kernel
theorem d_Ca_look_85 : decode c_Ca_look 85 = .ok (.iaload, 1) := by decide +kernel
theorem d_Ca_look_86 : decode c_Ca_look 86 = .ok (.ireturn, 1) := by decide +kernel
theorem d_Ca_look_87 : decode c_Ca_look 87 = .ok (.iconst (-1), 1) := by decide +kernel
theorem d_Ca_look_88 : decode c_Ca_look 88 = .ok (.ireturn, 1) := by decide +kernel
theorem d_Mo_init_0 : decode c_Mo_init 0 = .ok (.aload_n 0, 1) := by decide +kernel
theorem d_Mo_init_1 : decode c_Mo_init 1 = .ok (.invokespecial 1, 3) := by decide +kernel
theorem d_Mo_init_4 : decode c_Mo_init 4 = .ok (.aload_n 0, 1) := by decide +kernel
theorem d_Mo_init_5 : decode c_Mo_init 5 = .ok (.bipush 8, 2) := by decide +kernel
theorem d_Mo_init_7 : decode c_Mo_init 7 = .ok (.newarray .int, 2) := by decide +kernel
theorem d_Mo_init_9 : decode c_Mo_init 9 = .ok (.putfield 7, 3) := by decide +kernel
theorem d_Mo_init_12 : decode c_Mo_init 12 = .ok (.aload_n 0, 1) := by decide +kernel
theorem d_Mo_init_13 : decode c_Mo_init 13 = .ok (.bipush 8, 2) := by decide +kernel
theorem d_Mo_init_15 : decode c_Mo_init 15 = .ok (.newarray .int, 2) := by decide +kernel
theorem d_Mo_init_17 : decode c_Mo_init 17 = .ok (.putfield 13, 3) := by decide +kernel
theorem d_Mo_init_20 : decode c_Mo_init 20 = .ok (.aload_n 0, 1) := by decide +kernel
theorem d_Mo_init_21 : decode c_Mo_init 21 = .ok (.bipush 8, 2) := by decide +kernel
theorem d_Mo_init_23 : decode c_Mo_init 23 = .ok (.newarray .int, 2) := by decide +kernel
theorem d_Mo_init_25 : decode c_Mo_init 25 = .ok (.putfield 16, 3) := by decide +kernel
theorem d_Mo_init_28 : decode c_Mo_init 28 = .ok (.aload_n 0, 1) := by decide +kernel
theorem d_Mo_init_29 : decode c_Mo_init 29 = .ok (.bipush 8, 2) := by decide +kernel
theorem d_Mo_init_31 : decode c_Mo_init 31 = .ok (.newarray .int, 2) := by decide +kernel
theorem d_Mo_init_33 : decode c_Mo_init 33 = .ok (.putfield 19, 3) := by decide +kernel
theorem d_Mo_init_36 : decode c_Mo_init 36 = .ok (.aload_n 0, 1) := by decide +kernel
theorem d_Mo_init_37 : decode c_Mo_init 37 = .ok (.bipush 8, 2) := by decide +kernel
theorem d_Mo_init_39 : decode c_Mo_init 39 = .ok (.newarray .int, 2) := by decide +kernel
theorem d_Mo_init_41 : decode c_Mo_init 41 = .ok (.putfield 22, 3) := by decide +kernel
theorem d_Mo_init_44 : decode c_Mo_init 44 = .ok (.aload_n 0, 1) := by decide +kernel
theorem d_Mo_init_45 : decode c_Mo_init 45 = .ok (.sipush 192, 3) := by decide +kernel
theorem d_Mo_init_48 : decode c_Mo_init 48 = .ok (.newarray .int, 2) := by decide +kernel
theorem d_Mo_init_50 : decode c_Mo_init 50 = .ok (.putfield 25, 3) := by decide +kernel
theorem d_Mo_init_53 : decode c_Mo_init 53 = .ok (.aload_n 0, 1) := by decide +kernel
theorem d_Mo_init_54 : decode c_Mo_init 54 = .ok (.iconst 1, 1) := by decide +kernel
theorem d_Mo_init_55 : decode c_Mo_init 55 = .ok (.putfield 28, 3) := by decide +kernel
theorem d_Mo_init_58 : decode c_Mo_init 58 = .ok (.aload_n 0, 1) := by decide +kernel
theorem d_Mo_init_59 : decode c_Mo_init 59 = .ok (.iconst 3, 1) := by decide +kernel
theorem d_Mo_init_60 : decode c_Mo_init 60 = .ok (.putfield 32, 3) := by decide +kernel
theorem d_Mo_init_63 : decode c_Mo_init 63 = .ok (.aload_n 0, 1) := by decide +kernel
theorem d_Mo_init_64 : decode c_Mo_init 64 = .ok (.iconst (-1), 1) := by decide +kernel
theorem d_Mo_init_65 : decode c_Mo_init 65 = .ok (.putfield 35, 3) := by decide +kernel
theorem d_Mo_init_68 : decode c_Mo_init 68 = .ok (.aload_n 0, 1) := by decide +kernel
theorem d_Mo_init_69 : decode c_Mo_init 69 = .ok (.bipush 24, 2) := by decide +kernel
theorem d_Mo_init_71 : decode c_Mo_init 71 = .ok (.newarray .int, 2) := by decide +kernel
theorem d_Mo_init_73 : decode c_Mo_init 73 = .ok (.putfield 38, 3) := by decide +kernel
theorem d_Mo_init_76 : decode c_Mo_init 76 = .ok (.aload_n 0, 1) := by decide +kernel
theorem d_Mo_init_77 : decode c_Mo_init 77 = .ok (.bipush 40, 2) := by decide +kernel
theorem d_Mo_init_79 : decode c_Mo_init 79 = .ok (.newarray .int, 2) := by decide +kernel
theorem d_Mo_init_81 : decode c_Mo_init 81 = .ok (.putfield 41, 3) := by decide +kernel
theorem d_Mo_init_84 : decode c_Mo_init 84 = .ok (.aload_n 0, 1) := by decide +kernel
theorem d_Mo_init_85 : decode c_Mo_init 85 = .ok (.bipush 40, 2) := by decide +kernel
theorem d_Mo_init_87 : decode c_Mo_init 87 = .ok (.newarray .int, 2) := by decide +kernel
theorem d_Mo_init_89 : decode c_Mo_init 89 = .ok (.putfield 44, 3) := by decide +kernel
theorem d_Mo_init_92 : decode c_Mo_init 92 = .ok (.aload_n 0, 1) := by decide +kernel
theorem d_Mo_init_93 : decode c_Mo_init 93 = .ok (.bipush 40, 2) := by decide +kernel
theorem d_Mo_init_95 : decode c_Mo_init 95 = .ok (.newarray .int, 2) := by decide +kernel
theorem d_Mo_init_97 : decode c_Mo_init 97 = .ok (.putfield 47, 3) := by decide +kernel
theorem d_Mo_init_100 : decode c_Mo_init 100 = .ok (.aload_n 0, 1) := by decide +kernel
theorem d_Mo_init_101 : decode c_Mo_init 101 = .ok (.bipush 40, 2) := by decide +kernel
theorem d_Mo_init_103 : decode c_Mo_init 103 = .ok (.newarray .int, 2) := by decide +kernel
theorem d_Mo_init_105 : decode c_Mo_init 105 = .ok (.putfield 50, 3) := by decide +kernel
theorem d_Mo_init_108 : decode c_Mo_init 108 = .ok (.aload_n 0, 1) := by decide +kernel
theorem d_Mo_init_109 : decode c_Mo_init 109 = .ok (.bipush 40, 2) := by decide +kernel
theorem d_Mo_init_111 : decode c_Mo_init 111 = .ok (.newarray .int, 2) := by decide +kernel
theorem d_Mo_init_113 : decode c_Mo_init 113 = .ok (.putfield 53, 3) := by decide +kernel
theorem d_Mo_init_116 : decode c_Mo_init 116 = .ok (.aload_n 0, 1) := by decide +kernel
theorem d_Mo_init_117 : decode c_Mo_init 117 = .ok (.getfield 7, 3) := by decide +kernel
theorem d_Mo_init_120 : decode c_Mo_init 120 = .ok (.iconst 0, 1) := by decide +kernel
theorem d_Mo_init_121 : decode c_Mo_init 121 = .ok (.sipush 16128, 3) := by decide +kernel
theorem d_Mo_init_124 : decode c_Mo_init 124 = .ok (.iastore, 1) := by decide +kernel
theorem d_Mo_init_125 : decode c_Mo_init 125 = .ok (.aload_n 0, 1) := by decide +kernel
theorem d_Mo_init_126 : decode c_Mo_init 126 = .ok (.getfield 13, 3) := by decide +kernel
theorem d_Mo_init_129 : decode c_Mo_init 129 = .ok (.iconst 0, 1) := by decide +kernel
theorem d_Mo_init_130 : decode c_Mo_init 130 = .ok (.iconst (-1), 1) := by decide +kernel
theorem d_Mo_init_131 : decode c_Mo_init 131 = .ok (.iastore, 1) := by decide +kernel
theorem d_Mo_init_132 : decode c_Mo_init 132 = .ok (.return_, 1) := by decide +kernel
theorem d_Mo_file_0 : decode c_Mo_file 0 = .ok (.iload_n 1, 1) := by decide +kernel
theorem d_Mo_file_1 : decode c_Mo_file 1 = .ok (.iconst 0, 1) := by decide +kernel
theorem d_Mo_file_2 : decode c_Mo_file 2 = .ok (.aload_n 0, 1) := by decide +kernel
theorem d_Mo_file_3 : decode c_Mo_file 3 = .ok (.getfield 28, 3) := by decide +kernel
theorem d_Mo_file_6 : decode c_Mo_file 6 = .ok (.iconst 1, 1) := by decide +kernel
theorem d_Mo_file_7 : decode c_Mo_file 7 = .ok (.isub, 1) := by decide +kernel
theorem d_Mo_file_8 : decode c_Mo_file 8 = .ok (.invokestatic 56, 3) := by decide +kernel
theorem d_Mo_file_11 : decode c_Mo_file 11 = .ok (.ifCond .eq 16, 3) := by decide +kernel
theorem d_Mo_file_14 : decode c_Mo_file 14 = .ok (.aload_n 0, 1) := by decide +kernel
theorem d_Mo_file_15 : decode c_Mo_file 15 = .ok (.getfield 16, 3) := by decide +kernel
theorem d_Mo_file_18 : decode c_Mo_file 18 = .ok (.iload_n 1, 1) := by decide +kernel
theorem d_Mo_file_19 : decode c_Mo_file 19 = .ok (.iaload, 1) := by decide +kernel
theorem d_Mo_file_20 : decode c_Mo_file 20 = .ok (.ifCond .ne 7, 3) := by decide +kernel
theorem d_Mo_file_23 : decode c_Mo_file 23 = .ok (.iconst 1, 1) := by decide +kernel
theorem d_Mo_file_24 : decode c_Mo_file 24 = .ok (.goto 4, 3) := by decide +kernel
theorem d_Mo_file_27 : decode c_Mo_file 27 = .ok (.iconst 0, 1) := by decide +kernel
theorem d_Mo_file_28 : decode c_Mo_file 28 = .ok (.istore 6, 2) := by decide +kernel
theorem d_Mo_file_30 : decode c_Mo_file 30 = .ok (.iload 4, 2) := by decide +kernel
theorem d_Mo_file_32 : decode c_Mo_file 32 = .ok (.iconst 0, 1) := by decide +kernel
theorem d_Mo_file_33 : decode c_Mo_file 33 = .ok (.iconst 2, 1) := by decide +kernel
theorem d_Mo_file_34 : decode c_Mo_file 34 = .ok (.invokestatic 56, 3) := by decide +kernel
theorem d_Mo_file_37 : decode c_Mo_file 37 = .ok (.ifCond .eq 17, 3) := by decide +kernel
theorem d_Mo_file_40 : decode c_Mo_file 40 = .ok (.iload 5, 2) := by decide +kernel
theorem d_Mo_file_42 : decode c_Mo_file 42 = .ok (.iconst 0, 1) := by decide +kernel
theorem d_Mo_file_43 : decode c_Mo_file 43 = .ok (.iconst 2, 1) := by decide +kernel
theorem d_Mo_file_44 : decode c_Mo_file 44 = .ok (.invokestatic 56, 3) := by decide +kernel
theorem d_Mo_file_47 : decode c_Mo_file 47 = .ok (.ifCond .eq 7, 3) := by decide +kernel
theorem d_Mo_file_50 : decode c_Mo_file 50 = .ok (.iconst 1, 1) := by decide +kernel
theorem d_Mo_file_51 : decode c_Mo_file 51 = .ok (.goto 4, 3) := by decide +kernel
theorem d_Mo_file_54 : decode c_Mo_file 54 = .ok (.iconst 0, 1) := by decide +kernel
theorem d_Mo_file_55 : decode c_Mo_file 55 = .ok (.istore 7, 2) := by decide +kernel
theorem d_Mo_file_57 : decode c_Mo_file 57 = .ok (.iload_n 2, 1) := by decide +kernel
theorem d_Mo_file_58 : decode c_Mo_file 58 = .ok (.iconst 0, 1) := by decide +kernel
theorem d_Mo_file_59 : decode c_Mo_file 59 = .ok (.ldc 60, 2) := by decide +kernel
theorem d_Mo_file_61 : decode c_Mo_file 61 = .ok (.invokestatic 56, 3) := by decide +kernel
theorem d_Mo_file_64 : decode c_Mo_file 64 = .ok (.ifCond .eq 27, 3) := by decide +kernel
theorem d_Mo_file_67 : decode c_Mo_file 67 = .ok (.iload 6, 2) := by decide +kernel
theorem d_Mo_file_69 : decode c_Mo_file 69 = .ok (.ifCond .eq 22, 3) := by decide +kernel
theorem d_Mo_file_72 : decode c_Mo_file 72 = .ok (.iload_n 3, 1) := by decide +kernel
theorem d_Mo_file_73 : decode c_Mo_file 73 = .ok (.iconst 0, 1) := by decide +kernel
theorem d_Mo_file_74 : decode c_Mo_file 74 = .ok (.bipush 24, 2) := by decide +kernel
theorem d_Mo_file_76 : decode c_Mo_file 76 = .ok (.invokestatic 56, 3) := by decide +kernel
theorem d_Mo_file_79 : decode c_Mo_file 79 = .ok (.ifCond .eq 12, 3) := by decide +kernel
theorem d_Mo_file_82 : decode c_Mo_file 82 = .ok (.iload_n 3, 1) := by decide +kernel
theorem d_Mo_file_83 : decode c_Mo_file 83 = .ok (.ifCond .le 10, 3) := by decide +kernel
theorem d_Mo_file_86 : decode c_Mo_file 86 = .ok (.iload 7, 2) := by decide +kernel
theorem d_Mo_file_88 : decode c_Mo_file 88 = .ok (.ifCond .ne 5, 3) := by decide +kernel
theorem d_Mo_file_91 : decode c_Mo_file 91 = .ok (.iconst (-1), 1) := by decide +kernel
theorem d_Mo_file_92 : decode c_Mo_file 92 = .ok (.ireturn, 1) := by decide +kernel
theorem d_Mo_file_93 : decode c_Mo_file 93 = .ok (.aload_n 0, 1) := by decide +kernel
theorem d_Mo_file_94 : decode c_Mo_file 94 = .ok (.getfield 61, 3) := by decide +kernel
theorem d_Mo_file_97 : decode c_Mo_file 97 = .ok (.ifCond .eq 6, 3) := by decide +kernel
theorem d_Mo_file_100 : decode c_Mo_file 100 = .ok (.bipush (-3), 2) := by decide +kernel
theorem d_Mo_file_102 : decode c_Mo_file 102 = .ok (.ireturn, 1) := by decide +kernel
theorem d_Mo_file_103 : decode c_Mo_file 103 = .ok (.aload_n 0, 1) := by decide +kernel
theorem d_Mo_file_104 : decode c_Mo_file 104 = .ok (.getfield 28, 3) := by decide +kernel
theorem d_Mo_file_107 : decode c_Mo_file 107 = .ok (.bipush 8, 2) := by decide +kernel
theorem d_Mo_file_109 : decode c_Mo_file 109 = .ok (.if_icmp .ne 6, 3) := by decide +kernel
theorem d_Mo_file_112 : decode c_Mo_file 112 = .ok (.bipush (-2), 2) := by decide +kernel
theorem d_Mo_file_114 : decode c_Mo_file 114 = .ok (.ireturn, 1) := by decide +kernel
theorem d_Mo_file_115 : decode c_Mo_file 115 = .ok (.aload_n 0, 1) := by decide +kernel
theorem d_Mo_file_116 : decode c_Mo_file 116 = .ok (.getfield 7, 3) := by decide +kernel
theorem d_Mo_file_119 : decode c_Mo_file 119 = .ok (.aload_n 0, 1) := by decide +kernel
theorem d_Mo_file_120 : decode c_Mo_file 120 = .ok (.getfield 28, 3) := by decide +kernel
theorem d_Mo_file_123 : decode c_Mo_file 123 = .ok (.iload_n 2, 1) := by decide +kernel
theorem d_Mo_file_124 : decode c_Mo_file 124 = .ok (.iastore, 1) := by decide +kernel
theorem d_Mo_file_125 : decode c_Mo_file 125 = .ok (.aload_n 0, 1) := by decide +kernel
theorem d_Mo_file_126 : decode c_Mo_file 126 = .ok (.getfield 13, 3) := by decide +kernel
theorem d_Mo_file_129 : decode c_Mo_file 129 = .ok (.aload_n 0, 1) := by decide +kernel
theorem d_Mo_file_130 : decode c_Mo_file 130 = .ok (.getfield 28, 3) := by decide +kernel
theorem d_Mo_file_133 : decode c_Mo_file 133 = .ok (.iload_n 1, 1) := by decide +kernel
theorem d_Mo_file_134 : decode c_Mo_file 134 = .ok (.iastore, 1) := by decide +kernel
theorem d_Mo_file_135 : decode c_Mo_file 135 = .ok (.aload_n 0, 1) := by decide +kernel
theorem d_Mo_file_136 : decode c_Mo_file 136 = .ok (.getfield 16, 3) := by decide +kernel
theorem d_Mo_file_139 : decode c_Mo_file 139 = .ok (.aload_n 0, 1) := by decide +kernel
theorem d_Mo_file_140 : decode c_Mo_file 140 = .ok (.getfield 28, 3) := by decide +kernel
theorem d_Mo_file_143 : decode c_Mo_file 143 = .ok (.iload_n 3, 1) := by decide +kernel
theorem d_Mo_file_144 : decode c_Mo_file 144 = .ok (.iastore, 1) := by decide +kernel
theorem d_Mo_file_145 : decode c_Mo_file 145 = .ok (.aload_n 0, 1) := by decide +kernel
theorem d_Mo_file_146 : decode c_Mo_file 146 = .ok (.getfield 19, 3) := by decide +kernel
theorem d_Mo_file_149 : decode c_Mo_file 149 = .ok (.aload_n 0, 1) := by decide +kernel
theorem d_Mo_file_150 : decode c_Mo_file 150 = .ok (.getfield 28, 3) := by decide +kernel
theorem d_Mo_file_153 : decode c_Mo_file 153 = .ok (.iload_n 3, 1) := by decide +kernel
theorem d_Mo_file_154 : decode c_Mo_file 154 = .ok (.ifCond .le 8, 3) := by decide +kernel
theorem d_Mo_file_157 : decode c_Mo_file 157 = .ok (.iload 4, 2) := by decide +kernel
theorem d_Mo_file_159 : decode c_Mo_file 159 = .ok (.goto 4, 3) := by decide +kernel
theorem d_Mo_file_162 : decode c_Mo_file 162 = .ok (.iconst 0, 1) := by decide +kernel
theorem d_Mo_file_163 : decode c_Mo_file 163 = .ok (.iastore, 1) := by decide +kernel
theorem d_Mo_file_164 : decode c_Mo_file 164 = .ok (.aload_n 0, 1) := by decide +kernel
theorem d_Mo_file_165 : decode c_Mo_file 165 = .ok (.getfield 22, 3) := by decide +kernel
theorem d_Mo_file_168 : decode c_Mo_file 168 = .ok (.aload_n 0, 1) := by decide +kernel
theorem d_Mo_file_169 : decode c_Mo_file 169 = .ok (.getfield 28, 3) := by decide +kernel
theorem d_Mo_file_172 : decode c_Mo_file 172 = .ok (.iload_n 3, 1) := by decide +kernel
theorem d_Mo_file_173 : decode c_Mo_file 173 = .ok (.ifCond .le 8, 3) := by decide +kernel
theorem d_Mo_file_176 : decode c_Mo_file 176 = .ok (.iload 5, 2) := by decide +kernel
theorem d_Mo_file_178 : decode c_Mo_file 178 = .ok (.goto 4, 3) := by decide +kernel
theorem d_Mo_file_181 : decode c_Mo_file 181 = .ok (.iconst 0, 1) := by decide +kernel
theorem d_Mo_file_182 : decode c_Mo_file 182 = .ok (.iastore, 1) := by decide +kernel
theorem d_Mo_file_183 : decode c_Mo_file 183 = .ok (.aload_n 0, 1) := by decide +kernel
theorem d_Mo_file_184 : decode c_Mo_file 184 = .ok (.dup, 1) := by decide +kernel
theorem d_Mo_file_185 : decode c_Mo_file 185 = .ok (.getfield 28, 3) := by decide +kernel
theorem d_Mo_file_188 : decode c_Mo_file 188 = .ok (.iconst 1, 1) := by decide +kernel
theorem d_Mo_file_189 : decode c_Mo_file 189 = .ok (.iadd, 1) := by decide +kernel
theorem d_Mo_file_190 : decode c_Mo_file 190 = .ok (.putfield 28, 3) := by decide +kernel
theorem d_Mo_file_193 : decode c_Mo_file 193 = .ok (.aload_n 0, 1) := by decide +kernel
theorem d_Mo_file_194 : decode c_Mo_file 194 = .ok (.getfield 28, 3) := by decide +kernel
theorem d_Mo_file_197 : decode c_Mo_file 197 = .ok (.iconst 1, 1) := by decide +kernel
theorem d_Mo_file_198 : decode c_Mo_file 198 = .ok (.isub, 1) := by decide +kernel
theorem d_Mo_file_199 : decode c_Mo_file 199 = .ok (.ireturn, 1) := by decide +kernel
theorem d_Mo_within_0 : decode c_Mo_within 0 = .ok (.iload_n 0, 1) := by decide +kernel
theorem d_Mo_within_1 : decode c_Mo_within 1 = .ok (.iload_n 1, 1) := by decide +kernel
theorem d_Mo_within_2 : decode c_Mo_within 2 = .ok (.if_icmp .lt 12, 3) := by decide +kernel
theorem d_Mo_within_5 : decode c_Mo_within 5 = .ok (.iload_n 0, 1) := by decide +kernel
theorem d_Mo_within_6 : decode c_Mo_within 6 = .ok (.iload_n 2, 1) := by decide +kernel
theorem d_Mo_within_7 : decode c_Mo_within 7 = .ok (.if_icmp .gt 7, 3) := by decide +kernel
theorem d_Mo_within_10 : decode c_Mo_within 10 = .ok (.iconst 1, 1) := by decide +kernel
theorem d_Mo_within_11 : decode c_Mo_within 11 = .ok (.goto 4, 3) := by decide +kernel
theorem d_Mo_within_14 : decode c_Mo_within 14 = .ok (.iconst 0, 1) := by decide +kernel
theorem d_Mo_within_15 : decode c_Mo_within 15 = .ok (.ireturn, 1) := by decide +kernel
theorem d_Mo_tear_0 : decode c_Mo_tear 0 = .ok (.iload_n 1, 1) := by decide +kernel
theorem d_Mo_tear_1 : decode c_Mo_tear 1 = .ok (.iconst (-1), 1) := by decide +kernel
theorem d_Mo_tear_2 : decode c_Mo_tear 2 = .ok (.sipush 200, 3) := by decide +kernel
theorem d_Mo_tear_5 : decode c_Mo_tear 5 = .ok (.invokestatic 56, 3) := by decide +kernel
theorem d_Mo_tear_8 : decode c_Mo_tear 8 = .ok (.ifCond .ne 5, 3) := by decide +kernel
theorem d_Mo_tear_11 : decode c_Mo_tear 11 = .ok (.iconst (-1), 1) := by decide +kernel
theorem d_Mo_tear_12 : decode c_Mo_tear 12 = .ok (.ireturn, 1) := by decide +kernel
theorem d_Mo_tear_13 : decode c_Mo_tear 13 = .ok (.aload_n 0, 1) := by decide +kernel
theorem d_Mo_tear_14 : decode c_Mo_tear 14 = .ok (.getfield 35, 3) := by decide +kernel
theorem d_Mo_tear_17 : decode c_Mo_tear 17 = .ok (.istore_n 2, 1) := by decide +kernel
theorem d_Mo_tear_18 : decode c_Mo_tear 18 = .ok (.aload_n 0, 1) := by decide +kernel
theorem d_Mo_tear_19 : decode c_Mo_tear 19 = .ok (.iload_n 1, 1) := by decide +kernel
theorem d_Mo_tear_20 : decode c_Mo_tear 20 = .ok (.putfield 35, 3) := by decide +kernel
theorem d_Mo_tear_23 : decode c_Mo_tear 23 = .ok (.iload_n 2, 1) := by decide +kernel
theorem d_Mo_tear_24 : decode c_Mo_tear 24 = .ok (.ireturn, 1) := by decide +kernel
theorem d_Mo_on_0 : decode c_Mo_on 0 = .ok (.aload_n 0, 1) := by decide +kernel
theorem d_Mo_on_1 : decode c_Mo_on 1 = .ok (.iconst 1, 1) := by decide +kernel
theorem d_Mo_on_2 : decode c_Mo_on 2 = .ok (.putfield 61, 3) := by decide +kernel
theorem d_Mo_on_5 : decode c_Mo_on 5 = .ok (.aload_n 0, 1) := by decide +kernel
theorem d_Mo_on_6 : decode c_Mo_on 6 = .ok (.getfield 74, 3) := by decide +kernel
theorem d_Mo_on_9 : decode c_Mo_on 9 = .ok (.ifCond .le 14, 3) := by decide +kernel
theorem d_Mo_on_12 : decode c_Mo_on 12 = .ok (.aload_n 0, 1) := by decide +kernel
theorem d_Mo_on_13 : decode c_Mo_on 13 = .ok (.invokevirtual 87, 3) := by decide +kernel
theorem d_Mo_on_16 : decode c_Mo_on 16 = .ok (.istore_n 1, 1) := by decide +kernel
theorem d_Mo_on_17 : decode c_Mo_on 17 = .ok (.iload_n 1, 1) := by decide +kernel
theorem d_Mo_on_18 : decode c_Mo_on 18 = .ok (.ifCond .ne 5, 3) := by decide +kernel
theorem d_Mo_on_21 : decode c_Mo_on 21 = .ok (.iconst 0, 1) := by decide +kernel
theorem d_Mo_on_22 : decode c_Mo_on 22 = .ok (.ireturn, 1) := by decide +kernel
theorem d_Mo_on_23 : decode c_Mo_on 23 = .ok (.aload_n 0, 1) := by decide +kernel
theorem d_Mo_on_24 : decode c_Mo_on 24 = .ok (.iconst 0, 1) := by decide +kernel
theorem d_Mo_on_25 : decode c_Mo_on 25 = .ok (.putfield 90, 3) := by decide +kernel
theorem d_Mo_on_28 : decode c_Mo_on 28 = .ok (.aload_n 0, 1) := by decide +kernel
theorem d_Mo_on_29 : decode c_Mo_on 29 = .ok (.iconst 0, 1) := by decide +kernel
theorem d_Mo_on_30 : decode c_Mo_on 30 = .ok (.putfield 93, 3) := by decide +kernel
theorem d_Mo_on_33 : decode c_Mo_on 33 = .ok (.aload_n 0, 1) := by decide +kernel
theorem d_Mo_on_34 : decode c_Mo_on 34 = .ok (.iconst (-1), 1) := by decide +kernel
theorem d_Mo_on_35 : decode c_Mo_on 35 = .ok (.putfield 96, 3) := by decide +kernel
theorem d_Mo_on_38 : decode c_Mo_on 38 = .ok (.aload_n 0, 1) := by decide +kernel
theorem d_Mo_on_39 : decode c_Mo_on 39 = .ok (.bipush 32, 2) := by decide +kernel
theorem d_Mo_on_41 : decode c_Mo_on 41 = .ok (.putfield 99, 3) := by decide +kernel
theorem d_Mo_on_44 : decode c_Mo_on 44 = .ok (.aload_n 0, 1) := by decide +kernel
theorem d_Mo_on_45 : decode c_Mo_on 45 = .ok (.iconst 0, 1) := by decide +kernel
theorem d_Mo_on_46 : decode c_Mo_on 46 = .ok (.putfield 102, 3) := by decide +kernel
theorem d_Mo_on_49 : decode c_Mo_on 49 = .ok (.aload_n 0, 1) := by decide +kernel
theorem d_Mo_on_50 : decode c_Mo_on 50 = .ok (.invokevirtual 105, 3) := by decide +kernel
theorem d_Mo_on_53 : decode c_Mo_on 53 = .ok (.aload_n 0, 1) := by decide +kernel
theorem d_Mo_on_54 : decode c_Mo_on 54 = .ok (.getfield 50, 3) := by decide +kernel
theorem d_Mo_on_57 : decode c_Mo_on 57 = .ok (.iconst 0, 1) := by decide +kernel
theorem d_Mo_on_58 : decode c_Mo_on 58 = .ok (.bipush 59, 2) := by decide +kernel
theorem d_Mo_on_60 : decode c_Mo_on 60 = .ok (.iastore, 1) := by decide +kernel
theorem d_Mo_on_61 : decode c_Mo_on 61 = .ok (.aload_n 0, 1) := by decide +kernel
theorem d_Mo_on_62 : decode c_Mo_on 62 = .ok (.getfield 50, 3) := by decide +kernel
theorem d_Mo_on_65 : decode c_Mo_on 65 = .ok (.iconst 1, 1) := by decide +kernel
theorem d_Mo_on_66 : decode c_Mo_on 66 = .ok (.iconst 1, 1) := by decide +kernel
theorem d_Mo_on_67 : decode c_Mo_on 67 = .ok (.iastore, 1) := by decide +kernel
theorem d_Mo_on_68 : decode c_Mo_on 68 = .ok (.aload_n 0, 1) := by decide +kernel
theorem d_Mo_on_69 : decode c_Mo_on 69 = .ok (.getfield 50, 3) := by decide +kernel
theorem d_Mo_on_72 : decode c_Mo_on 72 = .ok (.iconst 2, 1) := by decide +kernel
theorem d_Mo_on_73 : decode c_Mo_on 73 = .ok (.aload_n 0, 1) := by decide +kernel
theorem d_Mo_on_74 : decode c_Mo_on 74 = .ok (.getfield 32, 3) := by decide +kernel
theorem d_Mo_on_77 : decode c_Mo_on 77 = .ok (.iastore, 1) := by decide +kernel
theorem d_Mo_on_78 : decode c_Mo_on 78 = .ok (.aload_n 0, 1) := by decide +kernel
theorem d_Mo_on_79 : decode c_Mo_on 79 = .ok (.getfield 50, 3) := by decide +kernel
theorem d_Mo_on_82 : decode c_Mo_on 82 = .ok (.iconst 3, 1) := by decide +kernel
theorem d_Mo_on_83 : decode c_Mo_on 83 = .ok (.bipush 32, 2) := by decide +kernel
theorem d_Mo_on_85 : decode c_Mo_on 85 = .ok (.iastore, 1) := by decide +kernel
theorem d_Mo_on_86 : decode c_Mo_on 86 = .ok (.aload_n 0, 1) := by decide +kernel
theorem d_Mo_on_87 : decode c_Mo_on 87 = .ok (.iconst 4, 1) := by decide +kernel
theorem d_Mo_on_88 : decode c_Mo_on 88 = .ok (.putfield 68, 3) := by decide +kernel
theorem d_Mo_on_91 : decode c_Mo_on 91 = .ok (.iconst 1, 1) := by decide +kernel
theorem d_Mo_on_92 : decode c_Mo_on 92 = .ok (.ireturn, 1) := by decide +kernel
theorem d_Mo_settle_0 : decode c_Mo_settle 0 = .ok (.iconst 0, 1) := by decide +kernel
theorem d_Mo_settle_1 : decode c_Mo_settle 1 = .ok (.istore_n 1, 1) := by decide +kernel
theorem d_Mo_settle_2 : decode c_Mo_settle 2 = .ok (.iload_n 1, 1) := by decide +kernel
theorem d_Mo_settle_3 : decode c_Mo_settle 3 = .ok (.aload_n 0, 1) := by decide +kernel
theorem d_Mo_settle_4 : decode c_Mo_settle 4 = .ok (.getfield 74, 3) := by decide +kernel
theorem d_Mo_settle_7 : decode c_Mo_settle 7 = .ok (.if_icmp .ge 45, 3) := by decide +kernel
theorem d_Mo_settle_10 : decode c_Mo_settle 10 = .ok (.aload_n 0, 1) := by decide +kernel
theorem d_Mo_settle_11 : decode c_Mo_settle 11 = .ok (.invokevirtual 77, 3) := by decide +kernel
theorem d_Mo_settle_14 : decode c_Mo_settle 14 = .ok (.istore_n 2, 1) := by decide +kernel
theorem d_Mo_settle_15 : decode c_Mo_settle 15 = .ok (.iload_n 2, 1) := by decide +kernel
theorem d_Mo_settle_16 : decode c_Mo_settle 16 = .ok (.ifCond .ne 5, 3) := by decide +kernel
theorem d_Mo_settle_19 : decode c_Mo_settle 19 = .ok (.iconst 0, 1) := by decide +kernel
theorem d_Mo_settle_20 : decode c_Mo_settle 20 = .ok (.ireturn, 1) := by decide +kernel
theorem d_Mo_settle_21 : decode c_Mo_settle 21 = .ok (.aload_n 0, 1) := by decide +kernel
theorem d_Mo_settle_22 : decode c_Mo_settle 22 = .ok (.getfield 25, 3) := by decide +kernel
theorem d_Mo_settle_25 : decode c_Mo_settle 25 = .ok (.bipush 24, 2) := by decide +kernel
theorem d_Mo_settle_27 : decode c_Mo_settle 27 = .ok (.aload_n 0, 1) := by decide +kernel
theorem d_Mo_settle_28 : decode c_Mo_settle 28 = .ok (.getfield 81, 3) := by decide +kernel
theorem d_Mo_settle_31 : decode c_Mo_settle 31 = .ok (.imul, 1) := by decide +kernel
theorem d_Mo_settle_32 : decode c_Mo_settle 32 = .ok (.aload_n 0, 1) := by decide +kernel
theorem d_Mo_settle_33 : decode c_Mo_settle 33 = .ok (.getfield 84, 3) := by decide +kernel
theorem d_Mo_settle_36 : decode c_Mo_settle 36 = .ok (.iadd, 1) := by decide +kernel
theorem d_Mo_settle_37 : decode c_Mo_settle 37 = .ok (.iload_n 1, 1) := by decide +kernel
theorem d_Mo_settle_38 : decode c_Mo_settle 38 = .ok (.iadd, 1) := by decide +kernel
theorem d_Mo_settle_39 : decode c_Mo_settle 39 = .ok (.aload_n 0, 1) := by decide +kernel
theorem d_Mo_settle_40 : decode c_Mo_settle 40 = .ok (.getfield 38, 3) := by decide +kernel
theorem d_Mo_settle_43 : decode c_Mo_settle 43 = .ok (.iload_n 1, 1) := by decide +kernel
theorem d_Mo_settle_44 : decode c_Mo_settle 44 = .ok (.iaload, 1) := by decide +kernel
theorem d_Mo_settle_45 : decode c_Mo_settle 45 = .ok (.iastore, 1) := by decide +kernel
theorem d_Mo_settle_46 : decode c_Mo_settle 46 = .ok (.iinc 1 1, 3) := by decide +kernel
theorem d_Mo_settle_49 : decode c_Mo_settle 49 = .ok (.goto (-47), 3) := by decide +kernel
theorem d_Mo_settle_52 : decode c_Mo_settle 52 = .ok (.aload_n 0, 1) := by decide +kernel
theorem d_Mo_settle_53 : decode c_Mo_settle 53 = .ok (.invokevirtual 77, 3) := by decide +kernel
theorem d_Mo_settle_56 : decode c_Mo_settle 56 = .ok (.istore_n 1, 1) := by decide +kernel
theorem d_Mo_settle_57 : decode c_Mo_settle 57 = .ok (.iload_n 1, 1) := by decide +kernel
theorem d_Mo_settle_58 : decode c_Mo_settle 58 = .ok (.ifCond .eq 8, 3) := by decide +kernel
theorem d_Mo_settle_61 : decode c_Mo_settle 61 = .ok (.aload_n 0, 1) := by decide +kernel
theorem d_Mo_settle_62 : decode c_Mo_settle 62 = .ok (.iconst 0, 1) := by decide +kernel
theorem d_Mo_settle_63 : decode c_Mo_settle 63 = .ok (.putfield 74, 3) := by decide +kernel
theorem d_Mo_settle_66 : decode c_Mo_settle 66 = .ok (.iload_n 1, 1) := by decide +kernel
theorem d_Mo_settle_67 : decode c_Mo_settle 67 = .ok (.ireturn, 1) := by decide +kernel
theorem d_Mo_writes_0 : decode c_Mo_writes 0 = .ok (.aload_n 0, 1) := by decide +kernel
theorem d_Mo_writes_1 : decode c_Mo_writes 1 = .ok (.getfield 35, 3) := by decide +kernel
theorem d_Mo_writes_4 : decode c_Mo_writes 4 = .ok (.ifCond .ne 30, 3) := by decide +kernel
theorem d_Mo_writes_7 : decode c_Mo_writes 7 = .ok (.aload_n 0, 1) := by decide +kernel
theorem d_Mo_writes_8 : decode c_Mo_writes 8 = .ok (.iconst (-1), 1) := by decide +kernel
theorem d_Mo_writes_9 : decode c_Mo_writes 9 = .ok (.putfield 35, 3) := by decide +kernel
theorem d_Mo_writes_12 : decode c_Mo_writes 12 = .ok (.aload_n 0, 1) := by decide +kernel
theorem d_Mo_writes_13 : decode c_Mo_writes 13 = .ok (.dup, 1) := by decide +kernel
theorem d_Mo_writes_14 : decode c_Mo_writes 14 = .ok (.getfield 65, 3) := by decide +kernel
theorem d_Mo_writes_17 : decode c_Mo_writes 17 = .ok (.iconst 1, 1) := by decide +kernel
theorem d_Mo_writes_18 : decode c_Mo_writes 18 = .ok (.iadd, 1) := by decide +kernel
theorem d_Mo_writes_19 : decode c_Mo_writes 19 = .ok (.putfield 65, 3) := by decide +kernel
theorem d_Mo_writes_22 : decode c_Mo_writes 22 = .ok (.aload_n 0, 1) := by decide +kernel
theorem d_Mo_writes_23 : decode c_Mo_writes 23 = .ok (.iconst 0, 1) := by decide +kernel
theorem d_Mo_writes_24 : decode c_Mo_writes 24 = .ok (.putfield 61, 3) := by decide +kernel
theorem d_Mo_writes_27 : decode c_Mo_writes 27 = .ok (.aload_n 0, 1) := by decide +kernel
theorem d_Mo_writes_28 : decode c_Mo_writes 28 = .ok (.iconst 0, 1) := by decide +kernel
theorem d_Mo_writes_29 : decode c_Mo_writes 29 = .ok (.putfield 68, 3) := by decide +kernel
theorem d_Mo_writes_32 : decode c_Mo_writes 32 = .ok (.iconst 0, 1) := by decide +kernel
theorem d_Mo_writes_33 : decode c_Mo_writes 33 = .ok (.ireturn, 1) := by decide +kernel
theorem d_Mo_writes_34 : decode c_Mo_writes 34 = .ok (.aload_n 0, 1) := by decide +kernel
theorem d_Mo_writes_35 : decode c_Mo_writes 35 = .ok (.getfield 35, 3) := by decide +kernel
theorem d_Mo_writes_38 : decode c_Mo_writes 38 = .ok (.ifCond .le 13, 3) := by decide +kernel
theorem d_Mo_writes_41 : decode c_Mo_writes 41 = .ok (.aload_n 0, 1) := by decide +kernel
theorem d_Mo_writes_42 : decode c_Mo_writes 42 = .ok (.dup, 1) := by decide +kernel
theorem d_Mo_writes_43 : decode c_Mo_writes 43 = .ok (.getfield 35, 3) := by decide +kernel
theorem d_Mo_writes_46 : decode c_Mo_writes 46 = .ok (.iconst 1, 1) := by decide +kernel
theorem d_Mo_writes_47 : decode c_Mo_writes 47 = .ok (.isub, 1) := by decide +kernel
theorem d_Mo_writes_48 : decode c_Mo_writes 48 = .ok (.putfield 35, 3) := by decide +kernel
theorem d_Mo_writes_51 : decode c_Mo_writes 51 = .ok (.aload_n 0, 1) := by decide +kernel
theorem d_Mo_writes_52 : decode c_Mo_writes 52 = .ok (.dup, 1) := by decide +kernel
theorem d_Mo_writes_53 : decode c_Mo_writes 53 = .ok (.getfield 71, 3) := by decide +kernel
theorem d_Mo_writes_56 : decode c_Mo_writes 56 = .ok (.iconst 1, 1) := by decide +kernel
theorem d_Mo_writes_57 : decode c_Mo_writes 57 = .ok (.iadd, 1) := by decide +kernel
theorem d_Mo_writes_58 : decode c_Mo_writes 58 = .ok (.putfield 71, 3) := by decide +kernel
theorem d_Mo_writes_61 : decode c_Mo_writes 61 = .ok (.iconst 1, 1) := by decide +kernel
theorem d_Mo_writes_62 : decode c_Mo_writes 62 = .ok (.ireturn, 1) := by decide +kernel
theorem d_Mo_begin_0 : decode c_Mo_begin 0 = .ok (.aload_n 0, 1) := by decide +kernel
theorem d_Mo_begin_1 : decode c_Mo_begin 1 = .ok (.iconst 0, 1) := by decide +kernel
theorem d_Mo_begin_2 : decode c_Mo_begin 2 = .ok (.putfield 108, 3) := by decide +kernel
theorem d_Mo_begin_5 : decode c_Mo_begin 5 = .ok (.aload_n 0, 1) := by decide +kernel
theorem d_Mo_begin_6 : decode c_Mo_begin 6 = .ok (.iconst 0, 1) := by decide +kernel
theorem d_Mo_begin_7 : decode c_Mo_begin 7 = .ok (.putfield 111, 3) := by decide +kernel
theorem d_Mo_begin_10 : decode c_Mo_begin 10 = .ok (.aload_n 0, 1) := by decide +kernel
theorem d_Mo_begin_11 : decode c_Mo_begin 11 = .ok (.iconst 0, 1) := by decide +kernel
theorem d_Mo_begin_12 : decode c_Mo_begin 12 = .ok (.putfield 114, 3) := by decide +kernel
theorem d_Mo_begin_15 : decode c_Mo_begin 15 = .ok (.aload_n 0, 1) := by decide +kernel
theorem d_Mo_begin_16 : decode c_Mo_begin 16 = .ok (.invokevirtual 117, 3) := by decide +kernel
theorem d_Mo_begin_19 : decode c_Mo_begin 19 = .ok (.return_, 1) := by decide +kernel
theorem d_Mo_forget_0 : decode c_Mo_forget 0 = .ok (.aload_n 0, 1) := by decide +kernel
theorem d_Mo_forget_1 : decode c_Mo_forget 1 = .ok (.iconst 0, 1) := by decide +kernel
theorem d_Mo_forget_2 : decode c_Mo_forget 2 = .ok (.putfield 120, 3) := by decide +kernel
theorem d_Mo_forget_5 : decode c_Mo_forget 5 = .ok (.aload_n 0, 1) := by decide +kernel
theorem d_Mo_forget_6 : decode c_Mo_forget 6 = .ok (.iconst 0, 1) := by decide +kernel
theorem d_Mo_forget_7 : decode c_Mo_forget 7 = .ok (.putfield 123, 3) := by decide +kernel
theorem d_Mo_forget_10 : decode c_Mo_forget 10 = .ok (.aload_n 0, 1) := by decide +kernel
theorem d_Mo_forget_11 : decode c_Mo_forget 11 = .ok (.iconst 0, 1) := by decide +kernel
theorem d_Mo_forget_12 : decode c_Mo_forget 12 = .ok (.putfield 126, 3) := by decide +kernel
theorem d_Mo_forget_15 : decode c_Mo_forget 15 = .ok (.aload_n 0, 1) := by decide +kernel
theorem d_Mo_forget_16 : decode c_Mo_forget 16 = .ok (.iconst 0, 1) := by decide +kernel
theorem d_Mo_forget_17 : decode c_Mo_forget 17 = .ok (.putfield 129, 3) := by decide +kernel
theorem d_Mo_forget_20 : decode c_Mo_forget 20 = .ok (.return_, 1) := by decide +kernel
theorem d_Mo_off_0 : decode c_Mo_off 0 = .ok (.aload_n 0, 1) := by decide +kernel
theorem d_Mo_off_1 : decode c_Mo_off 1 = .ok (.getfield 61, 3) := by decide +kernel
theorem d_Mo_off_4 : decode c_Mo_off 4 = .ok (.ifCond .ne 5, 3) := by decide +kernel
theorem d_Mo_off_7 : decode c_Mo_off 7 = .ok (.iconst 0, 1) := by decide +kernel
theorem d_Mo_off_8 : decode c_Mo_off 8 = .ok (.ireturn, 1) := by decide +kernel
theorem d_Mo_off_9 : decode c_Mo_off 9 = .ok (.aload_n 0, 1) := by decide +kernel
theorem d_Mo_off_10 : decode c_Mo_off 10 = .ok (.iconst 0, 1) := by decide +kernel
theorem d_Mo_off_11 : decode c_Mo_off 11 = .ok (.putfield 61, 3) := by decide +kernel
theorem d_Mo_off_14 : decode c_Mo_off 14 = .ok (.aload_n 0, 1) := by decide +kernel
theorem d_Mo_off_15 : decode c_Mo_off 15 = .ok (.iconst 0, 1) := by decide +kernel
theorem d_Mo_off_16 : decode c_Mo_off 16 = .ok (.putfield 68, 3) := by decide +kernel
theorem d_Mo_off_19 : decode c_Mo_off 19 = .ok (.iconst 1, 1) := by decide +kernel
theorem d_Mo_off_20 : decode c_Mo_off 20 = .ok (.ireturn, 1) := by decide +kernel
theorem d_Mo_feed_0 : decode c_Mo_feed 0 = .ok (.iload_n 3, 1) := by decide +kernel
theorem d_Mo_feed_1 : decode c_Mo_feed 1 = .ok (.iconst 1, 1) := by decide +kernel
theorem d_Mo_feed_2 : decode c_Mo_feed 2 = .ok (.bipush 8, 2) := by decide +kernel
theorem d_Mo_feed_4 : decode c_Mo_feed 4 = .ok (.invokestatic 56, 3) := by decide +kernel
theorem d_Mo_feed_7 : decode c_Mo_feed 7 = .ok (.ifCond .ne 5, 3) := by decide +kernel
theorem d_Mo_feed_10 : decode c_Mo_feed 10 = .ok (.iconst (-1), 1) := by decide +kernel
theorem d_Mo_feed_11 : decode c_Mo_feed 11 = .ok (.ireturn, 1) := by decide +kernel
theorem d_Mo_feed_12 : decode c_Mo_feed 12 = .ok (.aload_n 0, 1) := by decide +kernel
theorem d_Mo_feed_13 : decode c_Mo_feed 13 = .ok (.getfield 61, 3) := by decide +kernel
theorem d_Mo_feed_16 : decode c_Mo_feed 16 = .ok (.ifCond .ne 6, 3) := by decide +kernel
theorem d_Mo_feed_19 : decode c_Mo_feed 19 = .ok (.bipush (-3), 2) := by decide +kernel
theorem d_Mo_feed_21 : decode c_Mo_feed 21 = .ok (.ireturn, 1) := by decide +kernel
theorem d_Mo_feed_22 : decode c_Mo_feed 22 = .ok (.iconst 0, 1) := by decide +kernel
theorem d_Mo_feed_23 : decode c_Mo_feed 23 = .ok (.istore 4, 2) := by decide +kernel
theorem d_Mo_feed_25 : decode c_Mo_feed 25 = .ok (.iload 4, 2) := by decide +kernel
theorem d_Mo_feed_27 : decode c_Mo_feed 27 = .ok (.iload_n 3, 1) := by decide +kernel
theorem d_Mo_feed_28 : decode c_Mo_feed 28 = .ok (.if_icmp .ge 32, 3) := by decide +kernel
theorem d_Mo_feed_31 : decode c_Mo_feed 31 = .ok (.aload_n 0, 1) := by decide +kernel
theorem d_Mo_feed_32 : decode c_Mo_feed 32 = .ok (.getfield 61, 3) := by decide +kernel
theorem d_Mo_feed_35 : decode c_Mo_feed 35 = .ok (.ifCond .eq 25, 3) := by decide +kernel
theorem d_Mo_feed_38 : decode c_Mo_feed 38 = .ok (.aload_n 0, 1) := by decide +kernel
theorem d_Mo_feed_39 : decode c_Mo_feed 39 = .ok (.lload_n 1, 1) := by decide +kernel
theorem d_Mo_feed_40 : decode c_Mo_feed 40 = .ok (.bipush 8, 2) := by decide +kernel
theorem d_Mo_feed_42 : decode c_Mo_feed 42 = .ok (.iload 4, 2) := by decide +kernel
theorem d_Mo_feed_44 : decode c_Mo_feed 44 = .ok (.imul, 1) := by decide +kernel
theorem d_Mo_feed_45 : decode c_Mo_feed 45 = .ok (.lushr, 1) := by decide +kernel
theorem d_Mo_feed_46 : decode c_Mo_feed 46 = .ok (.ldc2_w 194, 3) := by decide +kernel
theorem d_Mo_feed_49 : decode c_Mo_feed 49 = .ok (.land, 1) := by decide +kernel
theorem d_Mo_feed_50 : decode c_Mo_feed 50 = .ok (.l2i, 1) := by decide +kernel
theorem d_Mo_feed_51 : decode c_Mo_feed 51 = .ok (.invokevirtual 196, 3) := by decide +kernel
theorem d_Mo_feed_54 : decode c_Mo_feed 54 = .ok (.iinc 4 1, 3) := by decide +kernel
theorem d_Mo_feed_57 : decode c_Mo_feed 57 = .ok (.goto (-32), 3) := by decide +kernel
theorem d_Mo_feed_60 : decode c_Mo_feed 60 = .ok (.aload_n 0, 1) := by decide +kernel
theorem d_Mo_feed_61 : decode c_Mo_feed 61 = .ok (.getfield 61, 3) := by decide +kernel
theorem d_Mo_feed_64 : decode c_Mo_feed 64 = .ok (.ifCond .eq 10, 3) := by decide +kernel
theorem d_Mo_feed_67 : decode c_Mo_feed 67 = .ok (.aload_n 0, 1) := by decide +kernel
theorem d_Mo_feed_68 : decode c_Mo_feed 68 = .ok (.getfield 102, 3) := by decide +kernel
theorem d_Mo_feed_71 : decode c_Mo_feed 71 = .ok (.goto 4, 3) := by decide +kernel
theorem d_Mo_feed_74 : decode c_Mo_feed 74 = .ok (.iconst 0, 1) := by decide +kernel
theorem d_Mo_feed_75 : decode c_Mo_feed 75 = .ok (.ireturn, 1) := by decide +kernel
theorem d_Mo_take_0 : decode c_Mo_take 0 = .ok (.aload_n 0, 1) := by decide +kernel
theorem d_Mo_take_1 : decode c_Mo_take 1 = .ok (.getfield 41, 3) := by decide +kernel
theorem d_Mo_take_4 : decode c_Mo_take 4 = .ok (.aload_n 0, 1) := by decide +kernel
theorem d_Mo_take_5 : decode c_Mo_take 5 = .ok (.getfield 102, 3) := by decide +kernel
theorem d_Mo_take_8 : decode c_Mo_take 8 = .ok (.iload_n 1, 1) := by decide +kernel
theorem d_Mo_take_9 : decode c_Mo_take 9 = .ok (.iastore, 1) := by decide +kernel
theorem d_Mo_take_10 : decode c_Mo_take 10 = .ok (.aload_n 0, 1) := by decide +kernel
theorem d_Mo_take_11 : decode c_Mo_take 11 = .ok (.dup, 1) := by decide +kernel
theorem d_Mo_take_12 : decode c_Mo_take 12 = .ok (.getfield 102, 3) := by decide +kernel
theorem d_Mo_take_15 : decode c_Mo_take 15 = .ok (.iconst 1, 1) := by decide +kernel
theorem d_Mo_take_16 : decode c_Mo_take 16 = .ok (.iadd, 1) := by decide +kernel
theorem d_Mo_take_17 : decode c_Mo_take 17 = .ok (.putfield 102, 3) := by decide +kernel
theorem d_Mo_take_20 : decode c_Mo_take 20 = .ok (.aload_n 0, 1) := by decide +kernel
theorem d_Mo_take_21 : decode c_Mo_take 21 = .ok (.getfield 102, 3) := by decide +kernel
theorem d_Mo_take_24 : decode c_Mo_take 24 = .ok (.iconst 3, 1) := by decide +kernel
theorem d_Mo_take_25 : decode c_Mo_take 25 = .ok (.if_icmp .ne 13, 3) := by decide +kernel
theorem d_Mo_take_28 : decode c_Mo_take 28 = .ok (.iload_n 1, 1) := by decide +kernel
theorem d_Mo_take_29 : decode c_Mo_take 29 = .ok (.bipush 32, 2) := by decide +kernel
theorem d_Mo_take_31 : decode c_Mo_take 31 = .ok (.if_icmp .le 7, 3) := by decide +kernel
theorem d_Mo_take_34 : decode c_Mo_take 34 = .ok (.iconst 1, 1) := by decide +kernel
theorem d_Mo_take_35 : decode c_Mo_take 35 = .ok (.goto 4, 3) := by decide +kernel
theorem d_Mo_take_38 : decode c_Mo_take 38 = .ok (.iconst 0, 1) := by decide +kernel
theorem d_Mo_take_39 : decode c_Mo_take 39 = .ok (.istore_n 2, 1) := by decide +kernel
theorem d_Mo_take_40 : decode c_Mo_take 40 = .ok (.iload_n 2, 1) := by decide +kernel
theorem d_Mo_take_41 : decode c_Mo_take 41 = .ok (.ifCond .ne 27, 3) := by decide +kernel
theorem d_Mo_take_44 : decode c_Mo_take 44 = .ok (.aload_n 0, 1) := by decide +kernel
theorem d_Mo_take_45 : decode c_Mo_take 45 = .ok (.getfield 102, 3) := by decide +kernel
theorem d_Mo_take_48 : decode c_Mo_take 48 = .ok (.iconst 4, 1) := by decide +kernel
theorem d_Mo_take_49 : decode c_Mo_take 49 = .ok (.if_icmp .lt 18, 3) := by decide +kernel
theorem d_Mo_take_52 : decode c_Mo_take 52 = .ok (.aload_n 0, 1) := by decide +kernel
theorem d_Mo_take_53 : decode c_Mo_take 53 = .ok (.getfield 102, 3) := by decide +kernel
theorem d_Mo_take_56 : decode c_Mo_take 56 = .ok (.aload_n 0, 1) := by decide +kernel
theorem d_Mo_take_57 : decode c_Mo_take 57 = .ok (.getfield 41, 3) := by decide +kernel
theorem d_Mo_take_60 : decode c_Mo_take 60 = .ok (.iconst 2, 1) := by decide +kernel
theorem d_Mo_take_61 : decode c_Mo_take 61 = .ok (.iaload, 1) := by decide +kernel
theorem d_Mo_take_62 : decode c_Mo_take 62 = .ok (.iconst 4, 1) := by decide +kernel
theorem d_Mo_take_63 : decode c_Mo_take 63 = .ok (.iadd, 1) := by decide +kernel
theorem d_Mo_take_64 : decode c_Mo_take 64 = .ok (.if_icmp .ge 4, 3) := by decide +kernel
theorem d_Mo_take_67 : decode c_Mo_take 67 = .ok (.return_, 1) := by decide +kernel
theorem d_Mo_take_68 : decode c_Mo_take 68 = .ok (.iconst 0, 1) := by decide +kernel
theorem d_Mo_take_69 : decode c_Mo_take 69 = .ok (.istore_n 3, 1) := by decide +kernel
theorem d_Mo_take_70 : decode c_Mo_take 70 = .ok (.aload_n 0, 1) := by decide +kernel
theorem d_Mo_take_71 : decode c_Mo_take 71 = .ok (.getfield 102, 3) := by decide +kernel
theorem d_Mo_take_74 : decode c_Mo_take 74 = .ok (.istore 4, 2) := by decide +kernel
theorem d_Mo_take_76 : decode c_Mo_take 76 = .ok (.iconst 0, 1) := by decide +kernel
theorem d_Mo_take_77 : decode c_Mo_take 77 = .ok (.istore 5, 2) := by decide +kernel
theorem d_Mo_take_79 : decode c_Mo_take 79 = .ok (.iload 5, 2) := by decide +kernel
theorem d_Mo_take_81 : decode c_Mo_take 81 = .ok (.iload 4, 2) := by decide +kernel
theorem d_Mo_take_83 : decode c_Mo_take 83 = .ok (.if_icmp .ge 19, 3) := by decide +kernel
theorem d_Mo_take_86 : decode c_Mo_take 86 = .ok (.iload_n 3, 1) := by decide +kernel
theorem d_Mo_take_87 : decode c_Mo_take 87 = .ok (.aload_n 0, 1) := by decide +kernel
theorem d_Mo_take_88 : decode c_Mo_take 88 = .ok (.getfield 41, 3) := by decide +kernel
theorem d_Mo_take_91 : decode c_Mo_take 91 = .ok (.iload 5, 2) := by decide +kernel
theorem d_Mo_take_93 : decode c_Mo_take 93 = .ok (.iaload, 1) := by decide +kernel
theorem d_Mo_take_94 : decode c_Mo_take 94 = .ok (.ixor, 1) := by decide +kernel
theorem d_Mo_take_95 : decode c_Mo_take 95 = .ok (.istore_n 3, 1) := by decide +kernel
theorem d_Mo_take_96 : decode c_Mo_take 96 = .ok (.iinc 5 1, 3) := by decide +kernel
theorem d_Mo_take_99 : decode c_Mo_take 99 = .ok (.goto (-20), 3) := by decide +kernel
theorem d_Mo_take_102 : decode c_Mo_take 102 = .ok (.aload_n 0, 1) := by decide +kernel
theorem d_Mo_take_103 : decode c_Mo_take 103 = .ok (.iconst 0, 1) := by decide +kernel
theorem d_Mo_take_104 : decode c_Mo_take 104 = .ok (.putfield 102, 3) := by decide +kernel
theorem d_Mo_take_107 : decode c_Mo_take 107 = .ok (.iload_n 2, 1) := by decide +kernel
theorem d_Mo_take_108 : decode c_Mo_take 108 = .ok (.ifCond .ne 15, 3) := by decide +kernel
theorem d_Mo_take_111 : decode c_Mo_take 111 = .ok (.iload_n 3, 1) := by decide +kernel
theorem d_Mo_take_112 : decode c_Mo_take 112 = .ok (.ifCond .eq 11, 3) := by decide +kernel
theorem d_Mo_take_115 : decode c_Mo_take 115 = .ok (.aload_n 0, 1) := by decide +kernel
theorem d_Mo_take_116 : decode c_Mo_take 116 = .ok (.iconst 1, 1) := by decide +kernel
theorem d_Mo_take_117 : decode c_Mo_take 117 = .ok (.invokevirtual 132, 3) := by decide +kernel
theorem d_Mo_take_120 : decode c_Mo_take 120 = .ok (.goto 40, 3) := by decide +kernel
theorem d_Mo_take_123 : decode c_Mo_take 123 = .ok (.iload_n 2, 1) := by decide +kernel
theorem d_Mo_take_124 : decode c_Mo_take 124 = .ok (.ifCond .ne 12, 3) := by decide +kernel
theorem d_Mo_take_127 : decode c_Mo_take 127 = .ok (.aload_n 0, 1) := by decide +kernel
theorem d_Mo_take_128 : decode c_Mo_take 128 = .ok (.getfield 41, 3) := by decide +kernel
theorem d_Mo_take_131 : decode c_Mo_take 131 = .ok (.iconst 0, 1) := by decide +kernel
theorem d_Mo_take_132 : decode c_Mo_take 132 = .ok (.iaload, 1) := by decide +kernel
theorem d_Mo_take_133 : decode c_Mo_take 133 = .ok (.ifCond .eq 11, 3) := by decide +kernel
theorem d_Mo_take_136 : decode c_Mo_take 136 = .ok (.aload_n 0, 1) := by decide +kernel
theorem d_Mo_take_137 : decode c_Mo_take 137 = .ok (.iconst 2, 1) := by decide +kernel
theorem d_Mo_take_138 : decode c_Mo_take 138 = .ok (.invokevirtual 132, 3) := by decide +kernel
theorem d_Mo_take_141 : decode c_Mo_take 141 = .ok (.goto 19, 3) := by decide +kernel
theorem d_Mo_take_144 : decode c_Mo_take 144 = .ok (.aload_n 0, 1) := by decide +kernel
theorem d_Mo_take_145 : decode c_Mo_take 145 = .ok (.aload_n 0, 1) := by decide +kernel
theorem d_Mo_take_146 : decode c_Mo_take 146 = .ok (.getfield 41, 3) := by decide +kernel
theorem d_Mo_take_149 : decode c_Mo_take 149 = .ok (.iconst 1, 1) := by decide +kernel
theorem d_Mo_take_150 : decode c_Mo_take 150 = .ok (.iaload, 1) := by decide +kernel
theorem d_Mo_take_151 : decode c_Mo_take 151 = .ok (.aload_n 0, 1) := by decide +kernel
theorem d_Mo_take_152 : decode c_Mo_take 152 = .ok (.getfield 41, 3) := by decide +kernel
theorem d_Mo_take_155 : decode c_Mo_take 155 = .ok (.iconst 2, 1) := by decide +kernel
theorem d_Mo_take_156 : decode c_Mo_take 156 = .ok (.iaload, 1) := by decide +kernel
theorem d_Mo_take_157 : decode c_Mo_take 157 = .ok (.invokevirtual 136, 3) := by decide +kernel
theorem d_Mo_take_160 : decode c_Mo_take 160 = .ok (.return_, 1) := by decide +kernel
theorem d_Mo_answerR_0 : decode c_Mo_answerR 0 = .ok (.aload_n 0, 1) := by decide +kernel
theorem d_Mo_answerR_1 : decode c_Mo_answerR 1 = .ok (.sipush 128, 3) := by decide +kernel
theorem d_Mo_answerR_4 : decode c_Mo_answerR 4 = .ok (.bipush 16, 2) := by decide +kernel
theorem d_Mo_answerR_6 : decode c_Mo_answerR 6 = .ok (.aload_n 0, 1) := by decide +kernel
theorem d_Mo_answerR_7 : decode c_Mo_answerR 7 = .ok (.getfield 108, 3) := by decide +kernel
theorem d_Mo_answerR_10 : decode c_Mo_answerR 10 = .ok (.imul, 1) := by decide +kernel
theorem d_Mo_answerR_11 : decode c_Mo_answerR 11 = .ok (.iadd, 1) := by decide +kernel
theorem d_Mo_answerR_12 : decode c_Mo_answerR 12 = .ok (.iload_n 1, 1) := by decide +kernel
theorem d_Mo_answerR_13 : decode c_Mo_answerR 13 = .ok (.iadd, 1) := by decide +kernel
theorem d_Mo_answerR_14 : decode c_Mo_answerR 14 = .ok (.iconst 0, 1) := by decide +kernel
theorem d_Mo_answerR_15 : decode c_Mo_answerR 15 = .ok (.invokevirtual 147, 3) := by decide +kernel
theorem d_Mo_answerR_18 : decode c_Mo_answerR 18 = .ok (.return_, 1) := by decide +kernel
theorem d_Mo_say_0 : decode c_Mo_say 0 = .ok (.aload_n 0, 1) := by decide +kernel
theorem d_Mo_say_1 : decode c_Mo_say 1 = .ok (.getfield 50, 3) := by decide +kernel
theorem d_Mo_say_4 : decode c_Mo_say 4 = .ok (.iconst 0, 1) := by decide +kernel
theorem d_Mo_say_5 : decode c_Mo_say 5 = .ok (.iconst 0, 1) := by decide +kernel
theorem d_Mo_say_6 : decode c_Mo_say 6 = .ok (.iastore, 1) := by decide +kernel
theorem d_Mo_say_7 : decode c_Mo_say 7 = .ok (.aload_n 0, 1) := by decide +kernel
theorem d_Mo_say_8 : decode c_Mo_say 8 = .ok (.getfield 50, 3) := by decide +kernel
theorem d_Mo_say_11 : decode c_Mo_say 11 = .ok (.iconst 1, 1) := by decide +kernel
theorem d_Mo_say_12 : decode c_Mo_say 12 = .ok (.iload_n 1, 1) := by decide +kernel
theorem d_Mo_say_13 : decode c_Mo_say 13 = .ok (.iastore, 1) := by decide +kernel
theorem d_Mo_say_14 : decode c_Mo_say 14 = .ok (.aload_n 0, 1) := by decide +kernel
theorem d_Mo_say_15 : decode c_Mo_say 15 = .ok (.getfield 50, 3) := by decide +kernel
theorem d_Mo_say_18 : decode c_Mo_say 18 = .ok (.iconst 2, 1) := by decide +kernel
theorem d_Mo_say_19 : decode c_Mo_say 19 = .ok (.iload_n 2, 1) := by decide +kernel
theorem d_Mo_say_20 : decode c_Mo_say 20 = .ok (.iastore, 1) := by decide +kernel
theorem d_Mo_say_21 : decode c_Mo_say 21 = .ok (.iload_n 1, 1) := by decide +kernel
theorem d_Mo_say_22 : decode c_Mo_say 22 = .ok (.iload_n 2, 1) := by decide +kernel
theorem d_Mo_say_23 : decode c_Mo_say 23 = .ok (.ixor, 1) := by decide +kernel
theorem d_Mo_say_24 : decode c_Mo_say 24 = .ok (.istore_n 3, 1) := by decide +kernel
theorem d_Mo_say_25 : decode c_Mo_say 25 = .ok (.iconst 0, 1) := by decide +kernel
theorem d_Mo_say_26 : decode c_Mo_say 26 = .ok (.istore 4, 2) := by decide +kernel
theorem d_Mo_say_28 : decode c_Mo_say 28 = .ok (.iload 4, 2) := by decide +kernel
theorem d_Mo_say_30 : decode c_Mo_say 30 = .ok (.iload_n 2, 1) := by decide +kernel
theorem d_Mo_say_31 : decode c_Mo_say 31 = .ok (.if_icmp .ge 21, 3) := by decide +kernel
theorem d_Mo_say_34 : decode c_Mo_say 34 = .ok (.iload_n 3, 1) := by decide +kernel
theorem d_Mo_say_35 : decode c_Mo_say 35 = .ok (.aload_n 0, 1) := by decide +kernel
theorem d_Mo_say_36 : decode c_Mo_say 36 = .ok (.getfield 50, 3) := by decide +kernel
theorem d_Mo_say_39 : decode c_Mo_say 39 = .ok (.iconst 3, 1) := by decide +kernel
theorem d_Mo_say_40 : decode c_Mo_say 40 = .ok (.iload 4, 2) := by decide +kernel
theorem d_Mo_say_42 : decode c_Mo_say 42 = .ok (.iadd, 1) := by decide +kernel
theorem d_Mo_say_43 : decode c_Mo_say 43 = .ok (.iaload, 1) := by decide +kernel
theorem d_Mo_say_44 : decode c_Mo_say 44 = .ok (.ixor, 1) := by decide +kernel
theorem d_Mo_say_45 : decode c_Mo_say 45 = .ok (.istore_n 3, 1) := by decide +kernel
theorem d_Mo_say_46 : decode c_Mo_say 46 = .ok (.iinc 4 1, 3) := by decide +kernel
theorem d_Mo_say_49 : decode c_Mo_say 49 = .ok (.goto (-21), 3) := by decide +kernel
theorem d_Mo_say_52 : decode c_Mo_say 52 = .ok (.aload_n 0, 1) := by decide +kernel
theorem d_Mo_say_53 : decode c_Mo_say 53 = .ok (.getfield 50, 3) := by decide +kernel
theorem d_Mo_say_56 : decode c_Mo_say 56 = .ok (.iconst 3, 1) := by decide +kernel
theorem d_Mo_say_57 : decode c_Mo_say 57 = .ok (.iload_n 2, 1) := by decide +kernel
theorem d_Mo_say_58 : decode c_Mo_say 58 = .ok (.iadd, 1) := by decide +kernel
theorem d_Mo_say_59 : decode c_Mo_say 59 = .ok (.iload_n 3, 1) := by decide +kernel
theorem d_Mo_say_60 : decode c_Mo_say 60 = .ok (.iastore, 1) := by decide +kernel
theorem d_Mo_say_61 : decode c_Mo_say 61 = .ok (.aload_n 0, 1) := by decide +kernel
theorem d_Mo_say_62 : decode c_Mo_say 62 = .ok (.iload_n 2, 1) := by decide +kernel
theorem d_Mo_say_63 : decode c_Mo_say 63 = .ok (.iconst 4, 1) := by decide +kernel
theorem d_Mo_say_64 : decode c_Mo_say 64 = .ok (.iadd, 1) := by decide +kernel
theorem d_Mo_say_65 : decode c_Mo_say 65 = .ok (.putfield 68, 3) := by decide +kernel
theorem d_Mo_say_68 : decode c_Mo_say 68 = .ok (.iload_n 1, 1) := by decide +kernel
theorem d_Mo_say_69 : decode c_Mo_say 69 = .ok (.sipush 192, 3) := by decide +kernel
theorem d_Mo_say_72 : decode c_Mo_say 72 = .ok (.if_icmp .lt 4, 3) := by decide +kernel
theorem d_Mo_say_75 : decode c_Mo_say 75 = .ok (.return_, 1) := by decide +kernel
theorem d_Mo_say_76 : decode c_Mo_say 76 = .ok (.aload_n 0, 1) := by decide +kernel
theorem d_Mo_say_77 : decode c_Mo_say 77 = .ok (.aload_n 0, 1) := by decide +kernel
theorem d_Mo_say_78 : decode c_Mo_say 78 = .ok (.getfield 68, 3) := by decide +kernel
theorem d_Mo_say_81 : decode c_Mo_say 81 = .ok (.putfield 114, 3) := by decide +kernel
theorem d_Mo_say_84 : decode c_Mo_say 84 = .ok (.aload_n 0, 1) := by decide +kernel
theorem d_Mo_say_85 : decode c_Mo_say 85 = .ok (.iload_n 1, 1) := by decide +kernel
theorem d_Mo_say_86 : decode c_Mo_say 86 = .ok (.sipush 128, 3) := by decide +kernel
theorem d_Mo_say_89 : decode c_Mo_say 89 = .ok (.if_icmp .ge 7, 3) := by decide +kernel
theorem d_Mo_say_92 : decode c_Mo_say 92 = .ok (.iconst 1, 1) := by decide +kernel
theorem d_Mo_say_93 : decode c_Mo_say 93 = .ok (.goto 4, 3) := by decide +kernel
theorem d_Mo_say_96 : decode c_Mo_say 96 = .ok (.iconst 0, 1) := by decide +kernel
theorem d_Mo_say_97 : decode c_Mo_say 97 = .ok (.putfield 150, 3) := by decide +kernel
theorem d_Mo_say_100 : decode c_Mo_say 100 = .ok (.iconst 0, 1) := by decide +kernel
theorem d_Mo_say_101 : decode c_Mo_say 101 = .ok (.istore 4, 2) := by decide +kernel
theorem d_Mo_say_103 : decode c_Mo_say 103 = .ok (.iload 4, 2) := by decide +kernel
theorem d_Mo_say_105 : decode c_Mo_say 105 = .ok (.aload_n 0, 1) := by decide +kernel
theorem d_Mo_say_106 : decode c_Mo_say 106 = .ok (.getfield 68, 3) := by decide +kernel
theorem d_Mo_say_109 : decode c_Mo_say 109 = .ok (.if_icmp .ge 23, 3) := by decide +kernel
theorem d_Mo_say_112 : decode c_Mo_say 112 = .ok (.aload_n 0, 1) := by decide +kernel
theorem d_Mo_say_113 : decode c_Mo_say 113 = .ok (.getfield 53, 3) := by decide +kernel
theorem d_Mo_say_116 : decode c_Mo_say 116 = .ok (.iload 4, 2) := by decide +kernel
theorem d_Mo_say_118 : decode c_Mo_say 118 = .ok (.aload_n 0, 1) := by decide +kernel
theorem d_Mo_say_119 : decode c_Mo_say 119 = .ok (.getfield 50, 3) := by decide +kernel
theorem d_Mo_say_122 : decode c_Mo_say 122 = .ok (.iload 4, 2) := by decide +kernel
theorem d_Mo_say_124 : decode c_Mo_say 124 = .ok (.iaload, 1) := by decide +kernel
theorem d_Mo_say_125 : decode c_Mo_say 125 = .ok (.iastore, 1) := by decide +kernel
theorem d_Mo_say_126 : decode c_Mo_say 126 = .ok (.iinc 4 1, 3) := by decide +kernel
theorem d_Mo_say_129 : decode c_Mo_say 129 = .ok (.goto (-26), 3) := by decide +kernel
theorem d_Mo_say_132 : decode c_Mo_say 132 = .ok (.return_, 1) := by decide +kernel
theorem d_Mo_work_0 : decode c_Mo_work 0 = .ok (.iload_n 1, 1) := by decide +kernel
theorem d_Mo_work_1 : decode c_Mo_work 1 = .ok (.sipush 128, 3) := by decide +kernel
theorem d_Mo_work_4 : decode c_Mo_work 4 = .ok (.if_icmp .ge 51, 3) := by decide +kernel
theorem d_Mo_work_7 : decode c_Mo_work 7 = .ok (.iload_n 1, 1) := by decide +kernel
theorem d_Mo_work_8 : decode c_Mo_work 8 = .ok (.bipush 32, 2) := by decide +kernel
theorem d_Mo_work_10 : decode c_Mo_work 10 = .ok (.irem, 1) := by decide +kernel
theorem d_Mo_work_11 : decode c_Mo_work 11 = .ok (.ifCond .ne 44, 3) := by decide +kernel
theorem d_Mo_work_14 : decode c_Mo_work 14 = .ok (.iload_n 1, 1) := by decide +kernel
theorem d_Mo_work_15 : decode c_Mo_work 15 = .ok (.bipush 64, 2) := by decide +kernel
theorem d_Mo_work_17 : decode c_Mo_work 17 = .ok (.idiv, 1) := by decide +kernel
theorem d_Mo_work_18 : decode c_Mo_work 18 = .ok (.aload_n 0, 1) := by decide +kernel
theorem d_Mo_work_19 : decode c_Mo_work 19 = .ok (.getfield 108, 3) := by decide +kernel
theorem d_Mo_work_22 : decode c_Mo_work 22 = .ok (.if_icmp .eq 11, 3) := by decide +kernel
theorem d_Mo_work_25 : decode c_Mo_work 25 = .ok (.aload_n 0, 1) := by decide +kernel
theorem d_Mo_work_26 : decode c_Mo_work 26 = .ok (.iconst 2, 1) := by decide +kernel
theorem d_Mo_work_27 : decode c_Mo_work 27 = .ok (.invokevirtual 132, 3) := by decide +kernel
theorem d_Mo_work_30 : decode c_Mo_work 30 = .ok (.goto 196, 3) := by decide +kernel
theorem d_Mo_work_33 : decode c_Mo_work 33 = .ok (.aload_n 0, 1) := by decide +kernel
theorem d_Mo_work_34 : decode c_Mo_work 34 = .ok (.iload_n 2, 1) := by decide +kernel
theorem d_Mo_work_35 : decode c_Mo_work 35 = .ok (.iload_n 1, 1) := by decide +kernel
theorem d_Mo_work_36 : decode c_Mo_work 36 = .ok (.bipush 64, 2) := by decide +kernel
theorem d_Mo_work_38 : decode c_Mo_work 38 = .ok (.irem, 1) := by decide +kernel
theorem d_Mo_work_39 : decode c_Mo_work 39 = .ok (.bipush 32, 2) := by decide +kernel
theorem d_Mo_work_41 : decode c_Mo_work 41 = .ok (.if_icmp .ne 7, 3) := by decide +kernel
theorem d_Mo_work_44 : decode c_Mo_work 44 = .ok (.iconst 1, 1) := by decide +kernel
theorem d_Mo_work_45 : decode c_Mo_work 45 = .ok (.goto 4, 3) := by decide +kernel
theorem d_Mo_work_48 : decode c_Mo_work 48 = .ok (.iconst 0, 1) := by decide +kernel
theorem d_Mo_work_49 : decode c_Mo_work 49 = .ok (.invokevirtual 140, 3) := by decide +kernel
theorem d_Mo_work_52 : decode c_Mo_work 52 = .ok (.goto 174, 3) := by decide +kernel
theorem d_Mo_work_55 : decode c_Mo_work 55 = .ok (.iload_n 1, 1) := by decide +kernel
theorem d_Mo_work_56 : decode c_Mo_work 56 = .ok (.sipush 192, 3) := by decide +kernel
theorem d_Mo_work_59 : decode c_Mo_work 59 = .ok (.if_icmp .ge 52, 3) := by decide +kernel
theorem d_Mo_work_62 : decode c_Mo_work 62 = .ok (.iload_n 1, 1) := by decide +kernel
theorem d_Mo_work_63 : decode c_Mo_work 63 = .ok (.sipush 128, 3) := by decide +kernel
theorem d_Mo_work_66 : decode c_Mo_work 66 = .ok (.if_icmp .lt 45, 3) := by decide +kernel
theorem d_Mo_work_69 : decode c_Mo_work 69 = .ok (.iload_n 1, 1) := by decide +kernel
theorem d_Mo_work_70 : decode c_Mo_work 70 = .ok (.bipush 16, 2) := by decide +kernel
theorem d_Mo_work_72 : decode c_Mo_work 72 = .ok (.irem, 1) := by decide +kernel
theorem d_Mo_work_73 : decode c_Mo_work 73 = .ok (.iconst 3, 1) := by decide +kernel
theorem d_Mo_work_74 : decode c_Mo_work 74 = .ok (.if_icmp .ge 37, 3) := by decide +kernel
theorem d_Mo_work_77 : decode c_Mo_work 77 = .ok (.iload_n 1, 1) := by decide +kernel
theorem d_Mo_work_78 : decode c_Mo_work 78 = .ok (.sipush 160, 3) := by decide +kernel
theorem d_Mo_work_81 : decode c_Mo_work 81 = .ok (.if_icmp .ge 30, 3) := by decide +kernel
theorem d_Mo_work_84 : decode c_Mo_work 84 = .ok (.iload_n 2, 1) := by decide +kernel
theorem d_Mo_work_85 : decode c_Mo_work 85 = .ok (.ifCond .le 11, 3) := by decide +kernel
theorem d_Mo_work_88 : decode c_Mo_work 88 = .ok (.aload_n 0, 1) := by decide +kernel
theorem d_Mo_work_89 : decode c_Mo_work 89 = .ok (.iconst 2, 1) := by decide +kernel
theorem d_Mo_work_90 : decode c_Mo_work 90 = .ok (.invokevirtual 132, 3) := by decide +kernel
