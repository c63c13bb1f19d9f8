theorem d_Mo_work_93 : decode c_Mo_work 93 = .ok (.goto 133, 3) := by decide +kernel
theorem d_Mo_work_96 : decode c_Mo_work 96 = .ok (.aload_n 0, 1) := by decide +kernel
theorem d_Mo_work_97 : decode c_Mo_work 97 = .ok (.iload_n 1, 1) := by decide +kernel
theorem d_Mo_work_98 : decode c_Mo_work 98 = .ok (.sipush 128, 3) := by decide +kernel
theorem d_Mo_work_101 : decode c_Mo_work 101 = .ok (.isub, 1) := by decide +kernel
theorem d_Mo_work_102 : decode c_Mo_work 102 = .ok (.bipush 16, 2) := by decide +kernel
theorem d_Mo_work_104 : decode c_Mo_work 104 = .ok (.idiv, 1) := by decide +kernel
theorem d_Mo_work_105 : decode c_Mo_work 105 = .ok (.invokevirtual 144, 3) := by decide +kernel
theorem d_Mo_work_108 : decode c_Mo_work 108 = .ok (.goto 118, 3) := by decide +kernel
theorem d_Mo_work_111 : decode c_Mo_work 111 = .ok (.iload_n 1, 1) := by decide +kernel
theorem d_Mo_work_112 : decode c_Mo_work 112 = .ok (.sipush 192, 3) := by decide +kernel
theorem d_Mo_work_115 : decode c_Mo_work 115 = .ok (.if_icmp .ne 22, 3) := by decide +kernel
theorem d_Mo_work_118 : decode c_Mo_work 118 = .ok (.iload_n 2, 1) := by decide +kernel
theorem d_Mo_work_119 : decode c_Mo_work 119 = .ok (.ifCond .ne 18, 3) := by decide +kernel
theorem d_Mo_work_122 : decode c_Mo_work 122 = .ok (.aload_n 0, 1) := by decide +kernel
theorem d_Mo_work_123 : decode c_Mo_work 123 = .ok (.invokevirtual 105, 3) := by decide +kernel
theorem d_Mo_work_126 : decode c_Mo_work 126 = .ok (.aload_n 0, 1) := by decide +kernel
theorem d_Mo_work_127 : decode c_Mo_work 127 = .ok (.sipush 224, 3) := by decide +kernel
theorem d_Mo_work_130 : decode c_Mo_work 130 = .ok (.iconst 0, 1) := by decide +kernel
theorem d_Mo_work_131 : decode c_Mo_work 131 = .ok (.invokevirtual 147, 3) := by decide +kernel
theorem d_Mo_work_134 : decode c_Mo_work 134 = .ok (.goto 92, 3) := by decide +kernel
theorem d_Mo_work_137 : decode c_Mo_work 137 = .ok (.iload_n 1, 1) := by decide +kernel
theorem d_Mo_work_138 : decode c_Mo_work 138 = .ok (.sipush 193, 3) := by decide +kernel
theorem d_Mo_work_141 : decode c_Mo_work 141 = .ok (.if_icmp .ne 54, 3) := by decide +kernel
theorem d_Mo_work_144 : decode c_Mo_work 144 = .ok (.iload_n 2, 1) := by decide +kernel
theorem d_Mo_work_145 : decode c_Mo_work 145 = .ok (.iconst 1, 1) := by decide +kernel
theorem d_Mo_work_146 : decode c_Mo_work 146 = .ok (.if_icmp .ne 49, 3) := by decide +kernel
theorem d_Mo_work_149 : decode c_Mo_work 149 = .ok (.aload_n 0, 1) := by decide +kernel
theorem d_Mo_work_150 : decode c_Mo_work 150 = .ok (.getfield 41, 3) := by decide +kernel
theorem d_Mo_work_153 : decode c_Mo_work 153 = .ok (.iconst 3, 1) := by decide +kernel
theorem d_Mo_work_154 : decode c_Mo_work 154 = .ok (.iaload, 1) := by decide +kernel
theorem d_Mo_work_155 : decode c_Mo_work 155 = .ok (.iconst 1, 1) := by decide +kernel
theorem d_Mo_work_156 : decode c_Mo_work 156 = .ok (.bipush 32, 2) := by decide +kernel
theorem d_Mo_work_158 : decode c_Mo_work 158 = .ok (.invokestatic 56, 3) := by decide +kernel
theorem d_Mo_work_161 : decode c_Mo_work 161 = .ok (.ifCond .eq 34, 3) := by decide +kernel
theorem d_Mo_work_164 : decode c_Mo_work 164 = .ok (.aload_n 0, 1) := by decide +kernel
theorem d_Mo_work_165 : decode c_Mo_work 165 = .ok (.aload_n 0, 1) := by decide +kernel
theorem d_Mo_work_166 : decode c_Mo_work 166 = .ok (.getfield 41, 3) := by decide +kernel
theorem d_Mo_work_169 : decode c_Mo_work 169 = .ok (.iconst 3, 1) := by decide +kernel
theorem d_Mo_work_170 : decode c_Mo_work 170 = .ok (.iaload, 1) := by decide +kernel
theorem d_Mo_work_171 : decode c_Mo_work 171 = .ok (.putfield 99, 3) := by decide +kernel
theorem d_Mo_work_174 : decode c_Mo_work 174 = .ok (.aload_n 0, 1) := by decide +kernel
theorem d_Mo_work_175 : decode c_Mo_work 175 = .ok (.getfield 50, 3) := by decide +kernel
theorem d_Mo_work_178 : decode c_Mo_work 178 = .ok (.iconst 3, 1) := by decide +kernel
theorem d_Mo_work_179 : decode c_Mo_work 179 = .ok (.aload_n 0, 1) := by decide +kernel
theorem d_Mo_work_180 : decode c_Mo_work 180 = .ok (.getfield 99, 3) := by decide +kernel
theorem d_Mo_work_183 : decode c_Mo_work 183 = .ok (.iastore, 1) := by decide +kernel
theorem d_Mo_work_184 : decode c_Mo_work 184 = .ok (.aload_n 0, 1) := by decide +kernel
theorem d_Mo_work_185 : decode c_Mo_work 185 = .ok (.sipush 225, 3) := by decide +kernel
theorem d_Mo_work_188 : decode c_Mo_work 188 = .ok (.iconst 1, 1) := by decide +kernel
theorem d_Mo_work_189 : decode c_Mo_work 189 = .ok (.invokevirtual 147, 3) := by decide +kernel
theorem d_Mo_work_192 : decode c_Mo_work 192 = .ok (.goto 34, 3) := by decide +kernel
theorem d_Mo_work_195 : decode c_Mo_work 195 = .ok (.iload_n 1, 1) := by decide +kernel
theorem d_Mo_work_196 : decode c_Mo_work 196 = .ok (.sipush 194, 3) := by decide +kernel
theorem d_Mo_work_199 : decode c_Mo_work 199 = .ok (.if_icmp .ne 22, 3) := by decide +kernel
theorem d_Mo_work_202 : decode c_Mo_work 202 = .ok (.iload_n 2, 1) := by decide +kernel
theorem d_Mo_work_203 : decode c_Mo_work 203 = .ok (.ifCond .ne 18, 3) := by decide +kernel
theorem d_Mo_work_206 : decode c_Mo_work 206 = .ok (.aload_n 0, 1) := by decide +kernel
theorem d_Mo_work_207 : decode c_Mo_work 207 = .ok (.invokevirtual 117, 3) := by decide +kernel
theorem d_Mo_work_210 : decode c_Mo_work 210 = .ok (.aload_n 0, 1) := by decide +kernel
theorem d_Mo_work_211 : decode c_Mo_work 211 = .ok (.sipush 226, 3) := by decide +kernel
theorem d_Mo_work_214 : decode c_Mo_work 214 = .ok (.iconst 0, 1) := by decide +kernel
theorem d_Mo_work_215 : decode c_Mo_work 215 = .ok (.invokevirtual 147, 3) := by decide +kernel
theorem d_Mo_work_218 : decode c_Mo_work 218 = .ok (.goto 8, 3) := by decide +kernel
theorem d_Mo_work_221 : decode c_Mo_work 221 = .ok (.aload_n 0, 1) := by decide +kernel
theorem d_Mo_work_222 : decode c_Mo_work 222 = .ok (.iconst 2, 1) := by decide +kernel
theorem d_Mo_work_223 : decode c_Mo_work 223 = .ok (.invokevirtual 132, 3) := by decide +kernel
theorem d_Mo_work_226 : decode c_Mo_work 226 = .ok (.return_, 1) := by decide +kernel
theorem d_Mo_comes_0 : decode c_Mo_comes 0 = .ok (.aload_n 0, 1) := by decide +kernel
theorem d_Mo_comes_1 : decode c_Mo_comes 1 = .ok (.iconst 1, 1) := by decide +kernel
theorem d_Mo_comes_2 : decode c_Mo_comes 2 = .ok (.aload_n 0, 1) := by decide +kernel
theorem d_Mo_comes_3 : decode c_Mo_comes 3 = .ok (.getfield 108, 3) := by decide +kernel
theorem d_Mo_comes_6 : decode c_Mo_comes 6 = .ok (.isub, 1) := by decide +kernel
theorem d_Mo_comes_7 : decode c_Mo_comes 7 = .ok (.putfield 108, 3) := by decide +kernel
theorem d_Mo_comes_10 : decode c_Mo_comes 10 = .ok (.aload_n 0, 1) := by decide +kernel
theorem d_Mo_comes_11 : decode c_Mo_comes 11 = .ok (.iconst 0, 1) := by decide +kernel
theorem d_Mo_comes_12 : decode c_Mo_comes 12 = .ok (.putfield 126, 3) := by decide +kernel
theorem d_Mo_comes_15 : decode c_Mo_comes 15 = .ok (.aload_n 0, 1) := by decide +kernel
theorem d_Mo_comes_16 : decode c_Mo_comes 16 = .ok (.iconst 0, 1) := by decide +kernel
theorem d_Mo_comes_17 : decode c_Mo_comes 17 = .ok (.putfield 129, 3) := by decide +kernel
theorem d_Mo_comes_20 : decode c_Mo_comes 20 = .ok (.iconst 0, 1) := by decide +kernel
theorem d_Mo_comes_21 : decode c_Mo_comes 21 = .ok (.istore_n 3, 1) := by decide +kernel
theorem d_Mo_comes_22 : decode c_Mo_comes 22 = .ok (.iload_n 3, 1) := by decide +kernel
theorem d_Mo_comes_23 : decode c_Mo_comes 23 = .ok (.iload_n 1, 1) := by decide +kernel
theorem d_Mo_comes_24 : decode c_Mo_comes 24 = .ok (.if_icmp .ge 53, 3) := by decide +kernel
theorem d_Mo_comes_27 : decode c_Mo_comes 27 = .ok (.aload_n 0, 1) := by decide +kernel
theorem d_Mo_comes_28 : decode c_Mo_comes 28 = .ok (.getfield 120, 3) := by decide +kernel
theorem d_Mo_comes_31 : decode c_Mo_comes 31 = .ok (.bipush 40, 2) := by decide +kernel
theorem d_Mo_comes_33 : decode c_Mo_comes 33 = .ok (.if_icmp .ne 11, 3) := by decide +kernel
theorem d_Mo_comes_36 : decode c_Mo_comes 36 = .ok (.aload_n 0, 1) := by decide +kernel
theorem d_Mo_comes_37 : decode c_Mo_comes 37 = .ok (.iconst 1, 1) := by decide +kernel
theorem d_Mo_comes_38 : decode c_Mo_comes 38 = .ok (.putfield 123, 3) := by decide +kernel
theorem d_Mo_comes_41 : decode c_Mo_comes 41 = .ok (.goto 30, 3) := by decide +kernel
theorem d_Mo_comes_44 : decode c_Mo_comes 44 = .ok (.aload_n 0, 1) := by decide +kernel
theorem d_Mo_comes_45 : decode c_Mo_comes 45 = .ok (.getfield 44, 3) := by decide +kernel
theorem d_Mo_comes_48 : decode c_Mo_comes 48 = .ok (.aload_n 0, 1) := by decide +kernel
theorem d_Mo_comes_49 : decode c_Mo_comes 49 = .ok (.getfield 120, 3) := by decide +kernel
theorem d_Mo_comes_52 : decode c_Mo_comes 52 = .ok (.aload_n 0, 1) := by decide +kernel
theorem d_Mo_comes_53 : decode c_Mo_comes 53 = .ok (.getfield 41, 3) := by decide +kernel
theorem d_Mo_comes_56 : decode c_Mo_comes 56 = .ok (.iconst 3, 1) := by decide +kernel
theorem d_Mo_comes_57 : decode c_Mo_comes 57 = .ok (.iload_n 3, 1) := by decide +kernel
theorem d_Mo_comes_58 : decode c_Mo_comes 58 = .ok (.iadd, 1) := by decide +kernel
theorem d_Mo_comes_59 : decode c_Mo_comes 59 = .ok (.iaload, 1) := by decide +kernel
theorem d_Mo_comes_60 : decode c_Mo_comes 60 = .ok (.iastore, 1) := by decide +kernel
theorem d_Mo_comes_61 : decode c_Mo_comes 61 = .ok (.aload_n 0, 1) := by decide +kernel
theorem d_Mo_comes_62 : decode c_Mo_comes 62 = .ok (.dup, 1) := by decide +kernel
theorem d_Mo_comes_63 : decode c_Mo_comes 63 = .ok (.getfield 120, 3) := by decide +kernel
theorem d_Mo_comes_66 : decode c_Mo_comes 66 = .ok (.iconst 1, 1) := by decide +kernel
theorem d_Mo_comes_67 : decode c_Mo_comes 67 = .ok (.iadd, 1) := by decide +kernel
theorem d_Mo_comes_68 : decode c_Mo_comes 68 = .ok (.putfield 120, 3) := by decide +kernel
theorem d_Mo_comes_71 : decode c_Mo_comes 71 = .ok (.iinc 3 1, 3) := by decide +kernel
theorem d_Mo_comes_74 : decode c_Mo_comes 74 = .ok (.goto (-52), 3) := by decide +kernel
theorem d_Mo_comes_77 : decode c_Mo_comes 77 = .ok (.iload_n 2, 1) := by decide +kernel
theorem d_Mo_comes_78 : decode c_Mo_comes 78 = .ok (.ifCond .eq 9, 3) := by decide +kernel
theorem d_Mo_comes_81 : decode c_Mo_comes 81 = .ok (.aload_n 0, 1) := by decide +kernel
theorem d_Mo_comes_82 : decode c_Mo_comes 82 = .ok (.iconst 0, 1) := by decide +kernel
theorem d_Mo_comes_83 : decode c_Mo_comes 83 = .ok (.invokevirtual 132, 3) := by decide +kernel
theorem d_Mo_comes_86 : decode c_Mo_comes 86 = .ok (.return_, 1) := by decide +kernel
theorem d_Mo_comes_87 : decode c_Mo_comes 87 = .ok (.aload_n 0, 1) := by decide +kernel
theorem d_Mo_comes_88 : decode c_Mo_comes 88 = .ok (.invokevirtual 153, 3) := by decide +kernel
theorem d_Mo_comes_91 : decode c_Mo_comes 91 = .ok (.istore_n 3, 1) := by decide +kernel
theorem d_Mo_comes_92 : decode c_Mo_comes 92 = .ok (.aload_n 0, 1) := by decide +kernel
theorem d_Mo_comes_93 : decode c_Mo_comes 93 = .ok (.getfield 61, 3) := by decide +kernel
theorem d_Mo_comes_96 : decode c_Mo_comes 96 = .ok (.ifCond .ne 4, 3) := by decide +kernel
theorem d_Mo_comes_99 : decode c_Mo_comes 99 = .ok (.return_, 1) := by decide +kernel
theorem d_Mo_comes_100 : decode c_Mo_comes 100 = .ok (.aload_n 0, 1) := by decide +kernel
theorem d_Mo_comes_101 : decode c_Mo_comes 101 = .ok (.iload_n 3, 1) := by decide +kernel
theorem d_Mo_comes_102 : decode c_Mo_comes 102 = .ok (.bipush 8, 2) := by decide +kernel
theorem d_Mo_comes_104 : decode c_Mo_comes 104 = .ok (.ishr, 1) := by decide +kernel
theorem d_Mo_comes_105 : decode c_Mo_comes 105 = .ok (.invokevirtual 157, 3) := by decide +kernel
theorem d_Mo_comes_108 : decode c_Mo_comes 108 = .ok (.aload_n 0, 1) := by decide +kernel
theorem d_Mo_comes_109 : decode c_Mo_comes 109 = .ok (.iload_n 3, 1) := by decide +kernel
theorem d_Mo_comes_110 : decode c_Mo_comes 110 = .ok (.sipush 255, 3) := by decide +kernel
theorem d_Mo_comes_113 : decode c_Mo_comes 113 = .ok (.iand, 1) := by decide +kernel
theorem d_Mo_comes_114 : decode c_Mo_comes 114 = .ok (.invokevirtual 157, 3) := by decide +kernel
theorem d_Mo_comes_117 : decode c_Mo_comes 117 = .ok (.aload_n 0, 1) := by decide +kernel
theorem d_Mo_comes_118 : decode c_Mo_comes 118 = .ok (.dup, 1) := by decide +kernel
theorem d_Mo_comes_119 : decode c_Mo_comes 119 = .ok (.getfield 160, 3) := by decide +kernel
theorem d_Mo_comes_122 : decode c_Mo_comes 122 = .ok (.iconst 1, 1) := by decide +kernel
theorem d_Mo_comes_123 : decode c_Mo_comes 123 = .ok (.iadd, 1) := by decide +kernel
theorem d_Mo_comes_124 : decode c_Mo_comes 124 = .ok (.putfield 160, 3) := by decide +kernel
theorem d_Mo_comes_127 : decode c_Mo_comes 127 = .ok (.aload_n 0, 1) := by decide +kernel
theorem d_Mo_comes_128 : decode c_Mo_comes 128 = .ok (.iconst 0, 1) := by decide +kernel
theorem d_Mo_comes_129 : decode c_Mo_comes 129 = .ok (.putfield 120, 3) := by decide +kernel
theorem d_Mo_comes_132 : decode c_Mo_comes 132 = .ok (.aload_n 0, 1) := by decide +kernel
theorem d_Mo_comes_133 : decode c_Mo_comes 133 = .ok (.iconst 0, 1) := by decide +kernel
theorem d_Mo_comes_134 : decode c_Mo_comes 134 = .ok (.putfield 123, 3) := by decide +kernel
theorem d_Mo_comes_137 : decode c_Mo_comes 137 = .ok (.aload_n 0, 1) := by decide +kernel
theorem d_Mo_comes_138 : decode c_Mo_comes 138 = .ok (.invokevirtual 163, 3) := by decide +kernel
theorem d_Mo_comes_141 : decode c_Mo_comes 141 = .ok (.return_, 1) := by decide +kernel
theorem d_Mo_execute_0 : decode c_Mo_execute 0 = .ok (.aload_n 0, 1) := by decide +kernel
theorem d_Mo_execute_1 : decode c_Mo_execute 1 = .ok (.getfield 120, 3) := by decide +kernel
theorem d_Mo_execute_4 : decode c_Mo_execute 4 = .ok (.istore_n 1, 1) := by decide +kernel
theorem d_Mo_execute_5 : decode c_Mo_execute 5 = .ok (.iconst 0, 1) := by decide +kernel
theorem d_Mo_execute_6 : decode c_Mo_execute 6 = .ok (.istore_n 2, 1) := by decide +kernel
theorem d_Mo_execute_7 : decode c_Mo_execute 7 = .ok (.iconst (-1), 1) := by decide +kernel
theorem d_Mo_execute_8 : decode c_Mo_execute 8 = .ok (.istore_n 3, 1) := by decide +kernel
theorem d_Mo_execute_9 : decode c_Mo_execute 9 = .ok (.aload_n 0, 1) := by decide +kernel
theorem d_Mo_execute_10 : decode c_Mo_execute 10 = .ok (.getfield 123, 3) := by decide +kernel
theorem d_Mo_execute_13 : decode c_Mo_execute 13 = .ok (.ifCond .ne 8, 3) := by decide +kernel
theorem d_Mo_execute_16 : decode c_Mo_execute 16 = .ok (.iload_n 1, 1) := by decide +kernel
theorem d_Mo_execute_17 : decode c_Mo_execute 17 = .ok (.iconst 4, 1) := by decide +kernel
theorem d_Mo_execute_18 : decode c_Mo_execute 18 = .ok (.if_icmp .ge 7, 3) := by decide +kernel
theorem d_Mo_execute_21 : decode c_Mo_execute 21 = .ok (.sipush 26368, 3) := by decide +kernel
theorem d_Mo_execute_24 : decode c_Mo_execute 24 = .ok (.ireturn, 1) := by decide +kernel
theorem d_Mo_execute_25 : decode c_Mo_execute 25 = .ok (.iload_n 1, 1) := by decide +kernel
theorem d_Mo_execute_26 : decode c_Mo_execute 26 = .ok (.iconst 5, 1) := by decide +kernel
theorem d_Mo_execute_27 : decode c_Mo_execute 27 = .ok (.if_icmp .ne 13, 3) := by decide +kernel
theorem d_Mo_execute_30 : decode c_Mo_execute 30 = .ok (.aload_n 0, 1) := by decide +kernel
theorem d_Mo_execute_31 : decode c_Mo_execute 31 = .ok (.getfield 44, 3) := by decide +kernel
theorem d_Mo_execute_34 : decode c_Mo_execute 34 = .ok (.iconst 4, 1) := by decide +kernel
theorem d_Mo_execute_35 : decode c_Mo_execute 35 = .ok (.iaload, 1) := by decide +kernel
theorem d_Mo_execute_36 : decode c_Mo_execute 36 = .ok (.istore_n 3, 1) := by decide +kernel
theorem d_Mo_execute_37 : decode c_Mo_execute 37 = .ok (.goto 61, 3) := by decide +kernel
theorem d_Mo_execute_40 : decode c_Mo_execute 40 = .ok (.iload_n 1, 1) := by decide +kernel
theorem d_Mo_execute_41 : decode c_Mo_execute 41 = .ok (.iconst 5, 1) := by decide +kernel
theorem d_Mo_execute_42 : decode c_Mo_execute 42 = .ok (.if_icmp .le 56, 3) := by decide +kernel
theorem d_Mo_execute_45 : decode c_Mo_execute 45 = .ok (.aload_n 0, 1) := by decide +kernel
theorem d_Mo_execute_46 : decode c_Mo_execute 46 = .ok (.getfield 44, 3) := by decide +kernel
theorem d_Mo_execute_49 : decode c_Mo_execute 49 = .ok (.iconst 4, 1) := by decide +kernel
theorem d_Mo_execute_50 : decode c_Mo_execute 50 = .ok (.iaload, 1) := by decide +kernel
theorem d_Mo_execute_51 : decode c_Mo_execute 51 = .ok (.istore_n 2, 1) := by decide +kernel
theorem d_Mo_execute_52 : decode c_Mo_execute 52 = .ok (.iload_n 2, 1) := by decide +kernel
theorem d_Mo_execute_53 : decode c_Mo_execute 53 = .ok (.iconst 1, 1) := by decide +kernel
theorem d_Mo_execute_54 : decode c_Mo_execute 54 = .ok (.bipush 32, 2) := by decide +kernel
theorem d_Mo_execute_56 : decode c_Mo_execute 56 = .ok (.invokestatic 56, 3) := by decide +kernel
theorem d_Mo_execute_59 : decode c_Mo_execute 59 = .ok (.ifCond .eq 18, 3) := by decide +kernel
theorem d_Mo_execute_62 : decode c_Mo_execute 62 = .ok (.iload_n 1, 1) := by decide +kernel
theorem d_Mo_execute_63 : decode c_Mo_execute 63 = .ok (.iconst 5, 1) := by decide +kernel
theorem d_Mo_execute_64 : decode c_Mo_execute 64 = .ok (.iload_n 2, 1) := by decide +kernel
theorem d_Mo_execute_65 : decode c_Mo_execute 65 = .ok (.iadd, 1) := by decide +kernel
theorem d_Mo_execute_66 : decode c_Mo_execute 66 = .ok (.if_icmp .eq 15, 3) := by decide +kernel
theorem d_Mo_execute_69 : decode c_Mo_execute 69 = .ok (.iload_n 1, 1) := by decide +kernel
theorem d_Mo_execute_70 : decode c_Mo_execute 70 = .ok (.bipush 6, 2) := by decide +kernel
theorem d_Mo_execute_72 : decode c_Mo_execute 72 = .ok (.iload_n 2, 1) := by decide +kernel
theorem d_Mo_execute_73 : decode c_Mo_execute 73 = .ok (.iadd, 1) := by decide +kernel
theorem d_Mo_execute_74 : decode c_Mo_execute 74 = .ok (.if_icmp .eq 7, 3) := by decide +kernel
theorem d_Mo_execute_77 : decode c_Mo_execute 77 = .ok (.sipush 26368, 3) := by decide +kernel
theorem d_Mo_execute_80 : decode c_Mo_execute 80 = .ok (.ireturn, 1) := by decide +kernel
theorem d_Mo_execute_81 : decode c_Mo_execute 81 = .ok (.iload_n 1, 1) := by decide +kernel
theorem d_Mo_execute_82 : decode c_Mo_execute 82 = .ok (.bipush 6, 2) := by decide +kernel
theorem d_Mo_execute_84 : decode c_Mo_execute 84 = .ok (.iload_n 2, 1) := by decide +kernel
theorem d_Mo_execute_85 : decode c_Mo_execute 85 = .ok (.iadd, 1) := by decide +kernel
theorem d_Mo_execute_86 : decode c_Mo_execute 86 = .ok (.if_icmp .ne 12, 3) := by decide +kernel
theorem d_Mo_execute_89 : decode c_Mo_execute 89 = .ok (.aload_n 0, 1) := by decide +kernel
theorem d_Mo_execute_90 : decode c_Mo_execute 90 = .ok (.getfield 44, 3) := by decide +kernel
theorem d_Mo_execute_93 : decode c_Mo_execute 93 = .ok (.iload_n 1, 1) := by decide +kernel
theorem d_Mo_execute_94 : decode c_Mo_execute 94 = .ok (.iconst 1, 1) := by decide +kernel
theorem d_Mo_execute_95 : decode c_Mo_execute 95 = .ok (.isub, 1) := by decide +kernel
theorem d_Mo_execute_96 : decode c_Mo_execute 96 = .ok (.iaload, 1) := by decide +kernel
theorem d_Mo_execute_97 : decode c_Mo_execute 97 = .ok (.istore_n 3, 1) := by decide +kernel
theorem d_Mo_execute_98 : decode c_Mo_execute 98 = .ok (.aload_n 0, 1) := by decide +kernel
theorem d_Mo_execute_99 : decode c_Mo_execute 99 = .ok (.getfield 44, 3) := by decide +kernel
theorem d_Mo_execute_102 : decode c_Mo_execute 102 = .ok (.iconst 0, 1) := by decide +kernel
theorem d_Mo_execute_103 : decode c_Mo_execute 103 = .ok (.iaload, 1) := by decide +kernel
theorem d_Mo_execute_104 : decode c_Mo_execute 104 = .ok (.ifCond .eq 7, 3) := by decide +kernel
theorem d_Mo_execute_107 : decode c_Mo_execute 107 = .ok (.sipush 28160, 3) := by decide +kernel
theorem d_Mo_execute_110 : decode c_Mo_execute 110 = .ok (.ireturn, 1) := by decide +kernel
theorem d_Mo_execute_111 : decode c_Mo_execute 111 = .ok (.aload_n 0, 1) := by decide +kernel
theorem d_Mo_execute_112 : decode c_Mo_execute 112 = .ok (.getfield 44, 3) := by decide +kernel
theorem d_Mo_execute_115 : decode c_Mo_execute 115 = .ok (.iconst 2, 1) := by decide +kernel
theorem d_Mo_execute_116 : decode c_Mo_execute 116 = .ok (.iaload, 1) := by decide +kernel
theorem d_Mo_execute_117 : decode c_Mo_execute 117 = .ok (.istore 4, 2) := by decide +kernel
theorem d_Mo_execute_119 : decode c_Mo_execute 119 = .ok (.aload_n 0, 1) := by decide +kernel
theorem d_Mo_execute_120 : decode c_Mo_execute 120 = .ok (.getfield 44, 3) := by decide +kernel
theorem d_Mo_execute_123 : decode c_Mo_execute 123 = .ok (.iconst 3, 1) := by decide +kernel
theorem d_Mo_execute_124 : decode c_Mo_execute 124 = .ok (.iaload, 1) := by decide +kernel
theorem d_Mo_execute_125 : decode c_Mo_execute 125 = .ok (.istore 5, 2) := by decide +kernel
theorem d_Mo_execute_127 : decode c_Mo_execute 127 = .ok (.aload_n 0, 1) := by decide +kernel
theorem d_Mo_execute_128 : decode c_Mo_execute 128 = .ok (.getfield 44, 3) := by decide +kernel
theorem d_Mo_execute_131 : decode c_Mo_execute 131 = .ok (.iconst 1, 1) := by decide +kernel
theorem d_Mo_execute_132 : decode c_Mo_execute 132 = .ok (.iaload, 1) := by decide +kernel
theorem d_Mo_execute_133 : decode c_Mo_execute 133 = .ok (.lookupswitch 115 #[(32, 93), (36, 104), (164, 51), (176, 61), (214, 77)], 51) := by decide +kernel
theorem d_Mo_execute_184 : decode c_Mo_execute 184 = .ok (.aload_n 0, 1) := by decide +kernel
theorem d_Mo_execute_185 : decode c_Mo_execute 185 = .ok (.iload 4, 2) := by decide +kernel
theorem d_Mo_execute_187 : decode c_Mo_execute 187 = .ok (.iload 5, 2) := by decide +kernel
theorem d_Mo_execute_189 : decode c_Mo_execute 189 = .ok (.iload_n 2, 1) := by decide +kernel
theorem d_Mo_execute_190 : decode c_Mo_execute 190 = .ok (.invokevirtual 166, 3) := by decide +kernel
theorem d_Mo_execute_193 : decode c_Mo_execute 193 = .ok (.ireturn, 1) := by decide +kernel
theorem d_Mo_execute_194 : decode c_Mo_execute 194 = .ok (.aload_n 0, 1) := by decide +kernel
theorem d_Mo_execute_195 : decode c_Mo_execute 195 = .ok (.sipush 256, 3) := by decide +kernel
theorem d_Mo_execute_198 : decode c_Mo_execute 198 = .ok (.iload 4, 2) := by decide +kernel
theorem d_Mo_execute_200 : decode c_Mo_execute 200 = .ok (.imul, 1) := by decide +kernel
theorem d_Mo_execute_201 : decode c_Mo_execute 201 = .ok (.iload 5, 2) := by decide +kernel
theorem d_Mo_execute_203 : decode c_Mo_execute 203 = .ok (.iadd, 1) := by decide +kernel
theorem d_Mo_execute_204 : decode c_Mo_execute 204 = .ok (.iload_n 2, 1) := by decide +kernel
theorem d_Mo_execute_205 : decode c_Mo_execute 205 = .ok (.iload_n 3, 1) := by decide +kernel
theorem d_Mo_execute_206 : decode c_Mo_execute 206 = .ok (.invokevirtual 170, 3) := by decide +kernel
theorem d_Mo_execute_209 : decode c_Mo_execute 209 = .ok (.ireturn, 1) := by decide +kernel
theorem d_Mo_execute_210 : decode c_Mo_execute 210 = .ok (.aload_n 0, 1) := by decide +kernel
theorem d_Mo_execute_211 : decode c_Mo_execute 211 = .ok (.sipush 256, 3) := by decide +kernel
theorem d_Mo_execute_214 : decode c_Mo_execute 214 = .ok (.iload 4, 2) := by decide +kernel
theorem d_Mo_execute_216 : decode c_Mo_execute 216 = .ok (.imul, 1) := by decide +kernel
theorem d_Mo_execute_217 : decode c_Mo_execute 217 = .ok (.iload 5, 2) := by decide +kernel
theorem d_Mo_execute_219 : decode c_Mo_execute 219 = .ok (.iadd, 1) := by decide +kernel
theorem d_Mo_execute_220 : decode c_Mo_execute 220 = .ok (.iload_n 2, 1) := by decide +kernel
theorem d_Mo_execute_221 : decode c_Mo_execute 221 = .ok (.iload_n 3, 1) := by decide +kernel
theorem d_Mo_execute_222 : decode c_Mo_execute 222 = .ok (.invokevirtual 173, 3) := by decide +kernel
theorem d_Mo_execute_225 : decode c_Mo_execute 225 = .ok (.ireturn, 1) := by decide +kernel
theorem d_Mo_execute_226 : decode c_Mo_execute 226 = .ok (.aload_n 0, 1) := by decide +kernel
theorem d_Mo_execute_227 : decode c_Mo_execute 227 = .ok (.iload 4, 2) := by decide +kernel
theorem d_Mo_execute_229 : decode c_Mo_execute 229 = .ok (.iload 5, 2) := by decide +kernel
theorem d_Mo_execute_231 : decode c_Mo_execute 231 = .ok (.iload_n 2, 1) := by decide +kernel
theorem d_Mo_execute_232 : decode c_Mo_execute 232 = .ok (.iload_n 3, 1) := by decide +kernel
theorem d_Mo_execute_233 : decode c_Mo_execute 233 = .ok (.invokevirtual 176, 3) := by decide +kernel
theorem d_Mo_execute_236 : decode c_Mo_execute 236 = .ok (.ireturn, 1) := by decide +kernel
theorem d_Mo_execute_237 : decode c_Mo_execute 237 = .ok (.aload_n 0, 1) := by decide +kernel
theorem d_Mo_execute_238 : decode c_Mo_execute 238 = .ok (.iload 4, 2) := by decide +kernel
theorem d_Mo_execute_240 : decode c_Mo_execute 240 = .ok (.iload 5, 2) := by decide +kernel
theorem d_Mo_execute_242 : decode c_Mo_execute 242 = .ok (.iload_n 2, 1) := by decide +kernel
theorem d_Mo_execute_243 : decode c_Mo_execute 243 = .ok (.iload_n 3, 1) := by decide +kernel
theorem d_Mo_execute_244 : decode c_Mo_execute 244 = .ok (.invokevirtual 180, 3) := by decide +kernel
theorem d_Mo_execute_247 : decode c_Mo_execute 247 = .ok (.ireturn, 1) := by decide +kernel
theorem d_Mo_execute_248 : decode c_Mo_execute 248 = .ok (.sipush 27904, 3) := by decide +kernel
theorem d_Mo_execute_251 : decode c_Mo_execute 251 = .ok (.ireturn, 1) := by decide +kernel
theorem d_Mo_find_0 : decode c_Mo_find 0 = .ok (.iload_n 1, 1) := by decide +kernel
theorem d_Mo_find_1 : decode c_Mo_find 1 = .ok (.ifCond .eq 8, 3) := by decide +kernel
theorem d_Mo_find_4 : decode c_Mo_find 4 = .ok (.iload_n 1, 1) := by decide +kernel
theorem d_Mo_find_5 : decode c_Mo_find 5 = .ok (.iconst 3, 1) := by decide +kernel
theorem d_Mo_find_6 : decode c_Mo_find 6 = .ok (.if_icmp .ne 7, 3) := by decide +kernel
theorem d_Mo_find_9 : decode c_Mo_find 9 = .ok (.iload_n 2, 1) := by decide +kernel
theorem d_Mo_find_10 : decode c_Mo_find 10 = .ok (.ifCond .eq 7, 3) := by decide +kernel
theorem d_Mo_find_13 : decode c_Mo_find 13 = .ok (.sipush 27270, 3) := by decide +kernel
theorem d_Mo_find_16 : decode c_Mo_find 16 = .ok (.ireturn, 1) := by decide +kernel
theorem d_Mo_find_17 : decode c_Mo_find 17 = .ok (.iload_n 1, 1) := by decide +kernel
theorem d_Mo_find_18 : decode c_Mo_find 18 = .ok (.ifCond .ne 11, 3) := by decide +kernel
theorem d_Mo_find_21 : decode c_Mo_find 21 = .ok (.iload_n 3, 1) := by decide +kernel
theorem d_Mo_find_22 : decode c_Mo_find 22 = .ok (.iconst 2, 1) := by decide +kernel
theorem d_Mo_find_23 : decode c_Mo_find 23 = .ok (.if_icmp .eq 14, 3) := by decide +kernel
theorem d_Mo_find_26 : decode c_Mo_find 26 = .ok (.goto 7, 3) := by decide +kernel
theorem d_Mo_find_29 : decode c_Mo_find 29 = .ok (.iload_n 3, 1) := by decide +kernel
theorem d_Mo_find_30 : decode c_Mo_find 30 = .ok (.ifCond .le 7, 3) := by decide +kernel
theorem d_Mo_find_33 : decode c_Mo_find 33 = .ok (.sipush 26368, 3) := by decide +kernel
theorem d_Mo_find_36 : decode c_Mo_find 36 = .ok (.ireturn, 1) := by decide +kernel
theorem d_Mo_find_37 : decode c_Mo_find 37 = .ok (.iload_n 1, 1) := by decide +kernel
theorem d_Mo_find_38 : decode c_Mo_find 38 = .ok (.iconst 3, 1) := by decide +kernel
theorem d_Mo_find_39 : decode c_Mo_find 39 = .ok (.if_icmp .ne 15, 3) := by decide +kernel
theorem d_Mo_find_42 : decode c_Mo_find 42 = .ok (.aload_n 0, 1) := by decide +kernel
theorem d_Mo_find_43 : decode c_Mo_find 43 = .ok (.getfield 13, 3) := by decide +kernel
theorem d_Mo_find_46 : decode c_Mo_find 46 = .ok (.aload_n 0, 1) := by decide +kernel
theorem d_Mo_find_47 : decode c_Mo_find 47 = .ok (.getfield 93, 3) := by decide +kernel
theorem d_Mo_find_50 : decode c_Mo_find 50 = .ok (.iaload, 1) := by decide +kernel
theorem d_Mo_find_51 : decode c_Mo_find 51 = .ok (.goto 4, 3) := by decide +kernel
theorem d_Mo_find_54 : decode c_Mo_find 54 = .ok (.iconst (-1), 1) := by decide +kernel
theorem d_Mo_find_55 : decode c_Mo_find 55 = .ok (.istore 4, 2) := by decide +kernel
theorem d_Mo_find_57 : decode c_Mo_find 57 = .ok (.iload_n 1, 1) := by decide +kernel
theorem d_Mo_find_58 : decode c_Mo_find 58 = .ok (.ifCond .ne 24, 3) := by decide +kernel
theorem d_Mo_find_61 : decode c_Mo_find 61 = .ok (.sipush 256, 3) := by decide +kernel
theorem d_Mo_find_64 : decode c_Mo_find 64 = .ok (.aload_n 0, 1) := by decide +kernel
theorem d_Mo_find_65 : decode c_Mo_find 65 = .ok (.getfield 44, 3) := by decide +kernel
theorem d_Mo_find_68 : decode c_Mo_find 68 = .ok (.iconst 5, 1) := by decide +kernel
theorem d_Mo_find_69 : decode c_Mo_find 69 = .ok (.iaload, 1) := by decide +kernel
theorem d_Mo_find_70 : decode c_Mo_find 70 = .ok (.imul, 1) := by decide +kernel
theorem d_Mo_find_71 : decode c_Mo_find 71 = .ok (.aload_n 0, 1) := by decide +kernel
theorem d_Mo_find_72 : decode c_Mo_find 72 = .ok (.getfield 44, 3) := by decide +kernel
theorem d_Mo_find_75 : decode c_Mo_find 75 = .ok (.bipush 6, 2) := by decide +kernel
theorem d_Mo_find_77 : decode c_Mo_find 77 = .ok (.iaload, 1) := by decide +kernel
theorem d_Mo_find_78 : decode c_Mo_find 78 = .ok (.iadd, 1) := by decide +kernel
theorem d_Mo_find_79 : decode c_Mo_find 79 = .ok (.goto 4, 3) := by decide +kernel
theorem d_Mo_find_82 : decode c_Mo_find 82 = .ok (.iconst (-1), 1) := by decide +kernel
theorem d_Mo_find_83 : decode c_Mo_find 83 = .ok (.istore 5, 2) := by decide +kernel
theorem d_Mo_find_85 : decode c_Mo_find 85 = .ok (.aload_n 0, 1) := by decide +kernel
theorem d_Mo_find_86 : decode c_Mo_find 86 = .ok (.getfield 28, 3) := by decide +kernel
theorem d_Mo_find_89 : decode c_Mo_find 89 = .ok (.iconst 1, 1) := by decide +kernel
theorem d_Mo_find_90 : decode c_Mo_find 90 = .ok (.isub, 1) := by decide +kernel
theorem d_Mo_find_91 : decode c_Mo_find 91 = .ok (.istore 6, 2) := by decide +kernel
theorem d_Mo_find_93 : decode c_Mo_find 93 = .ok (.iload 6, 2) := by decide +kernel
theorem d_Mo_find_95 : decode c_Mo_find 95 = .ok (.ifCond .lt 44, 3) := by decide +kernel
theorem d_Mo_find_98 : decode c_Mo_find 98 = .ok (.aload_n 0, 1) := by decide +kernel
theorem d_Mo_find_99 : decode c_Mo_find 99 = .ok (.getfield 7, 3) := by decide +kernel
theorem d_Mo_find_102 : decode c_Mo_find 102 = .ok (.iload 6, 2) := by decide +kernel
theorem d_Mo_find_104 : decode c_Mo_find 104 = .ok (.iaload, 1) := by decide +kernel
theorem d_Mo_find_105 : decode c_Mo_find 105 = .ok (.iload 5, 2) := by decide +kernel
theorem d_Mo_find_107 : decode c_Mo_find 107 = .ok (.if_icmp .ne 26, 3) := by decide +kernel
theorem d_Mo_find_110 : decode c_Mo_find 110 = .ok (.iload 6, 2) := by decide +kernel
theorem d_Mo_find_112 : decode c_Mo_find 112 = .ok (.ifCond .eq 17, 3) := by decide +kernel
theorem d_Mo_find_115 : decode c_Mo_find 115 = .ok (.aload_n 0, 1) := by decide +kernel
theorem d_Mo_find_116 : decode c_Mo_find 116 = .ok (.getfield 13, 3) := by decide +kernel
theorem d_Mo_find_119 : decode c_Mo_find 119 = .ok (.iload 6, 2) := by decide +kernel
theorem d_Mo_find_121 : decode c_Mo_find 121 = .ok (.iaload, 1) := by decide +kernel
theorem d_Mo_find_122 : decode c_Mo_find 122 = .ok (.aload_n 0, 1) := by decide +kernel
theorem d_Mo_find_123 : decode c_Mo_find 123 = .ok (.getfield 93, 3) := by decide +kernel
theorem d_Mo_find_126 : decode c_Mo_find 126 = .ok (.if_icmp .ne 7, 3) := by decide +kernel
theorem d_Mo_find_129 : decode c_Mo_find 129 = .ok (.iload 6, 2) := by decide +kernel
theorem d_Mo_find_131 : decode c_Mo_find 131 = .ok (.istore 4, 2) := by decide +kernel
theorem d_Mo_find_133 : decode c_Mo_find 133 = .ok (.iinc 6 (-1), 3) := by decide +kernel
theorem d_Mo_find_136 : decode c_Mo_find 136 = .ok (.goto (-43), 3) := by decide +kernel
theorem d_Mo_find_139 : decode c_Mo_find 139 = .ok (.iload 4, 2) := by decide +kernel
theorem d_Mo_find_141 : decode c_Mo_find 141 = .ok (.ifCond .ge 7, 3) := by decide +kernel
theorem d_Mo_find_144 : decode c_Mo_find 144 = .ok (.sipush 27266, 3) := by decide +kernel
theorem d_Mo_find_147 : decode c_Mo_find 147 = .ok (.ireturn, 1) := by decide +kernel
theorem d_Mo_find_148 : decode c_Mo_find 148 = .ok (.aload_n 0, 1) := by decide +kernel
theorem d_Mo_find_149 : decode c_Mo_find 149 = .ok (.aload_n 0, 1) := by decide +kernel
theorem d_Mo_find_150 : decode c_Mo_find 150 = .ok (.getfield 16, 3) := by decide +kernel
theorem d_Mo_find_153 : decode c_Mo_find 153 = .ok (.iload 4, 2) := by decide +kernel
theorem d_Mo_find_155 : decode c_Mo_find 155 = .ok (.iaload, 1) := by decide +kernel
theorem d_Mo_find_156 : decode c_Mo_find 156 = .ok (.ifCond .le 8, 3) := by decide +kernel
theorem d_Mo_find_159 : decode c_Mo_find 159 = .ok (.iload 4, 2) := by decide +kernel
theorem d_Mo_find_161 : decode c_Mo_find 161 = .ok (.goto 4, 3) := by decide +kernel
theorem d_Mo_find_164 : decode c_Mo_find 164 = .ok (.iconst (-1), 1) := by decide +kernel
theorem d_Mo_find_165 : decode c_Mo_find 165 = .ok (.putfield 96, 3) := by decide +kernel
theorem d_Mo_find_168 : decode c_Mo_find 168 = .ok (.aload_n 0, 1) := by decide +kernel
theorem d_Mo_find_169 : decode c_Mo_find 169 = .ok (.getfield 96, 3) := by decide +kernel
theorem d_Mo_find_172 : decode c_Mo_find 172 = .ok (.ifCond .ge 9, 3) := by decide +kernel
theorem d_Mo_find_175 : decode c_Mo_find 175 = .ok (.aload_n 0, 1) := by decide +kernel
theorem d_Mo_find_176 : decode c_Mo_find 176 = .ok (.iload 4, 2) := by decide +kernel
theorem d_Mo_find_178 : decode c_Mo_find 178 = .ok (.putfield 93, 3) := by decide +kernel
theorem d_Mo_find_181 : decode c_Mo_find 181 = .ok (.ldc 183, 2) := by decide +kernel
theorem d_Mo_find_183 : decode c_Mo_find 183 = .ok (.ireturn, 1) := by decide +kernel
theorem d_Mo_reads_0 : decode c_Mo_reads 0 = .ok (.iload_n 2, 1) := by decide +kernel
theorem d_Mo_reads_1 : decode c_Mo_reads 1 = .ok (.ifCond .gt 7, 3) := by decide +kernel
theorem d_Mo_reads_4 : decode c_Mo_reads 4 = .ok (.iload_n 3, 1) := by decide +kernel
theorem d_Mo_reads_5 : decode c_Mo_reads 5 = .ok (.ifCond .ge 7, 3) := by decide +kernel
theorem d_Mo_reads_8 : decode c_Mo_reads 8 = .ok (.sipush 26368, 3) := by decide +kernel
theorem d_Mo_reads_11 : decode c_Mo_reads 11 = .ok (.ireturn, 1) := by decide +kernel
theorem d_Mo_reads_12 : decode c_Mo_reads 12 = .ok (.aload_n 0, 1) := by decide +kernel
theorem d_Mo_reads_13 : decode c_Mo_reads 13 = .ok (.iconst 0, 1) := by decide +kernel
theorem d_Mo_reads_14 : decode c_Mo_reads 14 = .ok (.iload_n 1, 1) := by decide +kernel
theorem d_Mo_reads_15 : decode c_Mo_reads 15 = .ok (.invokevirtual 184, 3) := by decide +kernel
theorem d_Mo_reads_18 : decode c_Mo_reads 18 = .ok (.istore 4, 2) := by decide +kernel
theorem d_Mo_reads_20 : decode c_Mo_reads 20 = .ok (.iload 4, 2) := by decide +kernel
theorem d_Mo_reads_22 : decode c_Mo_reads 22 = .ok (.ifCond .le 6, 3) := by decide +kernel
theorem d_Mo_reads_25 : decode c_Mo_reads 25 = .ok (.iload 4, 2) := by decide +kernel
theorem d_Mo_reads_27 : decode c_Mo_reads 27 = .ok (.ireturn, 1) := by decide +kernel
theorem d_Mo_reads_28 : decode c_Mo_reads 28 = .ok (.iload_n 3, 1) := by decide +kernel
theorem d_Mo_reads_29 : decode c_Mo_reads 29 = .ok (.ifCond .ne 8, 3) := by decide +kernel
theorem d_Mo_reads_32 : decode c_Mo_reads 32 = .ok (.bipush 32, 2) := by decide +kernel
theorem d_Mo_reads_34 : decode c_Mo_reads 34 = .ok (.goto 4, 3) := by decide +kernel
theorem d_Mo_reads_37 : decode c_Mo_reads 37 = .ok (.iload_n 3, 1) := by decide +kernel
theorem d_Mo_reads_38 : decode c_Mo_reads 38 = .ok (.istore 5, 2) := by decide +kernel
theorem d_Mo_reads_40 : decode c_Mo_reads 40 = .ok (.aload_n 0, 1) := by decide +kernel
theorem d_Mo_reads_41 : decode c_Mo_reads 41 = .ok (.getfield 16, 3) := by decide +kernel
theorem d_Mo_reads_44 : decode c_Mo_reads 44 = .ok (.aload_n 0, 1) := by decide +kernel
theorem d_Mo_reads_45 : decode c_Mo_reads 45 = .ok (.getfield 96, 3) := by decide +kernel
theorem d_Mo_reads_48 : decode c_Mo_reads 48 = .ok (.iaload, 1) := by decide +kernel
theorem d_Mo_reads_49 : decode c_Mo_reads 49 = .ok (.iload_n 1, 1) := by decide +kernel
theorem d_Mo_reads_50 : decode c_Mo_reads 50 = .ok (.isub, 1) := by decide +kernel
theorem d_Mo_reads_51 : decode c_Mo_reads 51 = .ok (.istore 6, 2) := by decide +kernel
theorem d_Mo_reads_53 : decode c_Mo_reads 53 = .ok (.iconst 0, 1) := by decide +kernel
theorem d_Mo_reads_54 : decode c_Mo_reads 54 = .ok (.istore 7, 2) := by decide +kernel
theorem d_Mo_reads_56 : decode c_Mo_reads 56 = .ok (.iload 7, 2) := by decide +kernel
theorem d_Mo_reads_58 : decode c_Mo_reads 58 = .ok (.iload 5, 2) := by decide +kernel
theorem d_Mo_reads_60 : decode c_Mo_reads 60 = .ok (.if_icmp .ge 37, 3) := by decide +kernel
theorem d_Mo_reads_63 : decode c_Mo_reads 63 = .ok (.iload 7, 2) := by decide +kernel
theorem d_Mo_reads_65 : decode c_Mo_reads 65 = .ok (.iload 6, 2) := by decide +kernel
theorem d_Mo_reads_67 : decode c_Mo_reads 67 = .ok (.if_icmp .ge 30, 3) := by decide +kernel
theorem d_Mo_reads_70 : decode c_Mo_reads 70 = .ok (.aload_n 0, 1) := by decide +kernel
theorem d_Mo_reads_71 : decode c_Mo_reads 71 = .ok (.aload_n 0, 1) := by decide +kernel
theorem d_Mo_reads_72 : decode c_Mo_reads 72 = .ok (.getfield 25, 3) := by decide +kernel
theorem d_Mo_reads_75 : decode c_Mo_reads 75 = .ok (.bipush 24, 2) := by decide +kernel
theorem d_Mo_reads_77 : decode c_Mo_reads 77 = .ok (.aload_n 0, 1) := by decide +kernel
theorem d_Mo_reads_78 : decode c_Mo_reads 78 = .ok (.getfield 96, 3) := by decide +kernel
theorem d_Mo_reads_81 : decode c_Mo_reads 81 = .ok (.imul, 1) := by decide +kernel
theorem d_Mo_reads_82 : decode c_Mo_reads 82 = .ok (.iload_n 1, 1) := by decide +kernel
theorem d_Mo_reads_83 : decode c_Mo_reads 83 = .ok (.iadd, 1) := by decide +kernel
theorem d_Mo_reads_84 : decode c_Mo_reads 84 = .ok (.iload 7, 2) := by decide +kernel
theorem d_Mo_reads_86 : decode c_Mo_reads 86 = .ok (.iadd, 1) := by decide +kernel
theorem d_Mo_reads_87 : decode c_Mo_reads 87 = .ok (.iaload, 1) := by decide +kernel
theorem d_Mo_reads_88 : decode c_Mo_reads 88 = .ok (.invokevirtual 157, 3) := by decide +kernel
theorem d_Mo_reads_91 : decode c_Mo_reads 91 = .ok (.iinc 7 1, 3) := by decide +kernel
theorem d_Mo_reads_94 : decode c_Mo_reads 94 = .ok (.goto (-38), 3) := by decide +kernel
theorem d_Mo_reads_97 : decode c_Mo_reads 97 = .ok (.iload 5, 2) := by decide +kernel
theorem d_Mo_reads_99 : decode c_Mo_reads 99 = .ok (.iload 6, 2) := by decide +kernel
theorem d_Mo_reads_101 : decode c_Mo_reads 101 = .ok (.if_icmp .le 9, 3) := by decide +kernel
theorem d_Mo_reads_104 : decode c_Mo_reads 104 = .ok (.sipush 25218, 3) := by decide +kernel
theorem d_Mo_reads_107 : decode c_Mo_reads 107 = .ok (.goto 5, 3) := by decide +kernel
theorem d_Mo_reads_110 : decode c_Mo_reads 110 = .ok (.ldc 183, 2) := by decide +kernel
theorem d_Mo_reads_112 : decode c_Mo_reads 112 = .ok (.ireturn, 1) := by decide +kernel
theorem d_Mo_wrong_0 : decode c_Mo_wrong 0 = .ok (.aload_n 0, 1) := by decide +kernel
theorem d_Mo_wrong_1 : decode c_Mo_wrong 1 = .ok (.getfield 96, 3) := by decide +kernel
theorem d_Mo_wrong_4 : decode c_Mo_wrong 4 = .ok (.ifCond .ge 7, 3) := by decide +kernel
theorem d_Mo_wrong_7 : decode c_Mo_wrong 7 = .ok (.sipush 27014, 3) := by decide +kernel
theorem d_Mo_wrong_10 : decode c_Mo_wrong 10 = .ok (.ireturn, 1) := by decide +kernel
theorem d_Mo_wrong_11 : decode c_Mo_wrong 11 = .ok (.iload_n 1, 1) := by decide +kernel
theorem d_Mo_wrong_12 : decode c_Mo_wrong 12 = .ok (.ifCond .ne 15, 3) := by decide +kernel
theorem d_Mo_wrong_15 : decode c_Mo_wrong 15 = .ok (.aload_n 0, 1) := by decide +kernel
theorem d_Mo_wrong_16 : decode c_Mo_wrong 16 = .ok (.getfield 19, 3) := by decide +kernel
theorem d_Mo_wrong_19 : decode c_Mo_wrong 19 = .ok (.aload_n 0, 1) := by decide +kernel
theorem d_Mo_wrong_20 : decode c_Mo_wrong 20 = .ok (.getfield 96, 3) := by decide +kernel
theorem d_Mo_wrong_23 : decode c_Mo_wrong 23 = .ok (.iaload, 1) := by decide +kernel
theorem d_Mo_wrong_24 : decode c_Mo_wrong 24 = .ok (.goto 12, 3) := by decide +kernel
theorem d_Mo_wrong_27 : decode c_Mo_wrong 27 = .ok (.aload_n 0, 1) := by decide +kernel
theorem d_Mo_wrong_28 : decode c_Mo_wrong 28 = .ok (.getfield 22, 3) := by decide +kernel
theorem d_Mo_wrong_31 : decode c_Mo_wrong 31 = .ok (.aload_n 0, 1) := by decide +kernel
theorem d_Mo_wrong_32 : decode c_Mo_wrong 32 = .ok (.getfield 96, 3) := by decide +kernel
theorem d_Mo_wrong_35 : decode c_Mo_wrong 35 = .ok (.iaload, 1) := by decide +kernel
theorem d_Mo_wrong_36 : decode c_Mo_wrong 36 = .ok (.istore_n 3, 1) := by decide +kernel
theorem d_Mo_wrong_37 : decode c_Mo_wrong 37 = .ok (.iload_n 3, 1) := by decide +kernel
theorem d_Mo_wrong_38 : decode c_Mo_wrong 38 = .ok (.iconst 2, 1) := by decide +kernel
theorem d_Mo_wrong_39 : decode c_Mo_wrong 39 = .ok (.if_icmp .eq 15, 3) := by decide +kernel
theorem d_Mo_wrong_42 : decode c_Mo_wrong 42 = .ok (.iload_n 3, 1) := by decide +kernel
theorem d_Mo_wrong_43 : decode c_Mo_wrong 43 = .ok (.iconst 1, 1) := by decide +kernel
theorem d_Mo_wrong_44 : decode c_Mo_wrong 44 = .ok (.if_icmp .ne 14, 3) := by decide +kernel
theorem d_Mo_wrong_47 : decode c_Mo_wrong 47 = .ok (.aload_n 0, 1) := by decide +kernel
theorem d_Mo_wrong_48 : decode c_Mo_wrong 48 = .ok (.getfield 90, 3) := by decide +kernel
theorem d_Mo_wrong_51 : decode c_Mo_wrong 51 = .ok (.ifCond .ne 7, 3) := by decide +kernel
theorem d_Mo_wrong_54 : decode c_Mo_wrong 54 = .ok (.sipush 27010, 3) := by decide +kernel
theorem d_Mo_wrong_57 : decode c_Mo_wrong 57 = .ok (.ireturn, 1) := by decide +kernel
theorem d_Mo_wrong_58 : decode c_Mo_wrong 58 = .ok (.iload_n 2, 1) := by decide +kernel
theorem d_Mo_wrong_59 : decode c_Mo_wrong 59 = .ok (.aload_n 0, 1) := by decide +kernel
theorem d_Mo_wrong_60 : decode c_Mo_wrong 60 = .ok (.getfield 16, 3) := by decide +kernel
theorem d_Mo_wrong_63 : decode c_Mo_wrong 63 = .ok (.aload_n 0, 1) := by decide +kernel
theorem d_Mo_wrong_64 : decode c_Mo_wrong 64 = .ok (.getfield 96, 3) := by decide +kernel
theorem d_Mo_wrong_67 : decode c_Mo_wrong 67 = .ok (.iaload, 1) := by decide +kernel
theorem d_Mo_wrong_68 : decode c_Mo_wrong 68 = .ok (.if_icmp .lt 9, 3) := by decide +kernel
theorem d_Mo_wrong_71 : decode c_Mo_wrong 71 = .ok (.sipush 27392, 3) := by decide +kernel
theorem d_Mo_wrong_74 : decode c_Mo_wrong 74 = .ok (.goto 4, 3) := by decide +kernel
theorem d_Mo_wrong_77 : decode c_Mo_wrong 77 = .ok (.iconst 0, 1) := by decide +kernel
theorem d_Mo_wrong_78 : decode c_Mo_wrong 78 = .ok (.ireturn, 1) := by decide +kernel
theorem d_Mo_put_0 : decode c_Mo_put 0 = .ok (.aload_n 0, 1) := by decide +kernel
theorem d_Mo_put_1 : decode c_Mo_put 1 = .ok (.getfield 47, 3) := by decide +kernel
theorem d_Mo_put_4 : decode c_Mo_put 4 = .ok (.aload_n 0, 1) := by decide +kernel
theorem d_Mo_put_5 : decode c_Mo_put 5 = .ok (.getfield 126, 3) := by decide +kernel
theorem d_Mo_put_8 : decode c_Mo_put 8 = .ok (.iload_n 1, 1) := by decide +kernel
theorem d_Mo_put_9 : decode c_Mo_put 9 = .ok (.iastore, 1) := by decide +kernel
theorem d_Mo_put_10 : decode c_Mo_put 10 = .ok (.aload_n 0, 1) := by decide +kernel
theorem d_Mo_put_11 : decode c_Mo_put 11 = .ok (.dup, 1) := by decide +kernel
theorem d_Mo_put_12 : decode c_Mo_put 12 = .ok (.getfield 126, 3) := by decide +kernel
theorem d_Mo_put_15 : decode c_Mo_put 15 = .ok (.iconst 1, 1) := by decide +kernel
theorem d_Mo_put_16 : decode c_Mo_put 16 = .ok (.iadd, 1) := by decide +kernel
theorem d_Mo_put_17 : decode c_Mo_put 17 = .ok (.putfield 126, 3) := by decide +kernel
theorem d_Mo_put_20 : decode c_Mo_put 20 = .ok (.return_, 1) := by decide +kernel
theorem d_Mo_changes_0 : decode c_Mo_changes 0 = .ok (.iload_n 2, 1) := by decide +kernel
theorem d_Mo_changes_1 : decode c_Mo_changes 1 = .ok (.ifCond .eq 7, 3) := by decide +kernel
theorem d_Mo_changes_4 : decode c_Mo_changes 4 = .ok (.iload_n 3, 1) := by decide +kernel
theorem d_Mo_changes_5 : decode c_Mo_changes 5 = .ok (.ifCond .lt 7, 3) := by decide +kernel
theorem d_Mo_changes_8 : decode c_Mo_changes 8 = .ok (.sipush 26368, 3) := by decide +kernel
theorem d_Mo_changes_11 : decode c_Mo_changes 11 = .ok (.ireturn, 1) := by decide +kernel
theorem d_Mo_changes_12 : decode c_Mo_changes 12 = .ok (.aload_n 0, 1) := by decide +kernel
theorem d_Mo_changes_13 : decode c_Mo_changes 13 = .ok (.iconst 1, 1) := by decide +kernel
theorem d_Mo_changes_14 : decode c_Mo_changes 14 = .ok (.iload_n 1, 1) := by decide +kernel
theorem d_Mo_changes_15 : decode c_Mo_changes 15 = .ok (.invokevirtual 184, 3) := by decide +kernel
theorem d_Mo_changes_18 : decode c_Mo_changes 18 = .ok (.istore 4, 2) := by decide +kernel
theorem d_Mo_changes_20 : decode c_Mo_changes 20 = .ok (.iload 4, 2) := by decide +kernel
theorem d_Mo_changes_22 : decode c_Mo_changes 22 = .ok (.ifCond .le 6, 3) := by decide +kernel
theorem d_Mo_changes_25 : decode c_Mo_changes 25 = .ok (.iload 4, 2) := by decide +kernel
theorem d_Mo_changes_27 : decode c_Mo_changes 27 = .ok (.ireturn, 1) := by decide +kernel
theorem d_Mo_changes_28 : decode c_Mo_changes 28 = .ok (.iload_n 1, 1) := by decide +kernel
theorem d_Mo_changes_29 : decode c_Mo_changes 29 = .ok (.iload_n 2, 1) := by decide +kernel
theorem d_Mo_changes_30 : decode c_Mo_changes 30 = .ok (.iadd, 1) := by decide +kernel
theorem d_Mo_changes_31 : decode c_Mo_changes 31 = .ok (.aload_n 0, 1) := by decide +kernel
theorem d_Mo_changes_32 : decode c_Mo_changes 32 = .ok (.getfield 16, 3) := by decide +kernel
theorem d_Mo_changes_35 : decode c_Mo_changes 35 = .ok (.aload_n 0, 1) := by decide +kernel
theorem d_Mo_changes_36 : decode c_Mo_changes 36 = .ok (.getfield 96, 3) := by decide +kernel
theorem d_Mo_changes_39 : decode c_Mo_changes 39 = .ok (.iaload, 1) := by decide +kernel
theorem d_Mo_changes_40 : decode c_Mo_changes 40 = .ok (.if_icmp .le 7, 3) := by decide +kernel
theorem d_Mo_changes_43 : decode c_Mo_changes 43 = .ok (.sipush 27268, 3) := by decide +kernel
theorem d_Mo_changes_46 : decode c_Mo_changes 46 = .ok (.ireturn, 1) := by decide +kernel
theorem d_Mo_changes_47 : decode c_Mo_changes 47 = .ok (.iconst 0, 1) := by decide +kernel
theorem d_Mo_changes_48 : decode c_Mo_changes 48 = .ok (.istore 5, 2) := by decide +kernel
theorem d_Mo_changes_50 : decode c_Mo_changes 50 = .ok (.iload 5, 2) := by decide +kernel
theorem d_Mo_changes_52 : decode c_Mo_changes 52 = .ok (.iload_n 2, 1) := by decide +kernel
theorem d_Mo_changes_53 : decode c_Mo_changes 53 = .ok (.iconst 2, 1) := by decide +kernel
theorem d_Mo_changes_54 : decode c_Mo_changes 54 = .ok (.iadd, 1) := by decide +kernel
theorem d_Mo_changes_55 : decode c_Mo_changes 55 = .ok (.if_icmp .ge 22, 3) := by decide +kernel
theorem d_Mo_changes_58 : decode c_Mo_changes 58 = .ok (.aload_n 0, 1) := by decide +kernel
theorem d_Mo_changes_59 : decode c_Mo_changes 59 = .ok (.invokevirtual 77, 3) := by decide +kernel
theorem d_Mo_changes_62 : decode c_Mo_changes 62 = .ok (.istore 6, 2) := by decide +kernel
theorem d_Mo_changes_64 : decode c_Mo_changes 64 = .ok (.iload 6, 2) := by decide +kernel
theorem d_Mo_changes_66 : decode c_Mo_changes 66 = .ok (.ifCond .ne 5, 3) := by decide +kernel
theorem d_Mo_changes_69 : decode c_Mo_changes 69 = .ok (.iconst 0, 1) := by decide +kernel
theorem d_Mo_changes_70 : decode c_Mo_changes 70 = .ok (.ireturn, 1) := by decide +kernel
theorem d_Mo_changes_71 : decode c_Mo_changes 71 = .ok (.iinc 5 1, 3) := by decide +kernel
theorem d_Mo_changes_74 : decode c_Mo_changes 74 = .ok (.goto (-24), 3) := by decide +kernel
theorem d_Mo_changes_77 : decode c_Mo_changes 77 = .ok (.aload_n 0, 1) := by decide +kernel
theorem d_Mo_changes_78 : decode c_Mo_changes 78 = .ok (.aload_n 0, 1) := by decide +kernel
theorem d_Mo_changes_79 : decode c_Mo_changes 79 = .ok (.getfield 96, 3) := by decide +kernel
theorem d_Mo_changes_82 : decode c_Mo_changes 82 = .ok (.putfield 81, 3) := by decide +kernel
theorem d_Mo_changes_85 : decode c_Mo_changes 85 = .ok (.aload_n 0, 1) := by decide +kernel
theorem d_Mo_changes_86 : decode c_Mo_changes 86 = .ok (.iload_n 1, 1) := by decide +kernel
theorem d_Mo_changes_87 : decode c_Mo_changes 87 = .ok (.putfield 84, 3) := by decide +kernel
theorem d_Mo_changes_90 : decode c_Mo_changes 90 = .ok (.aload_n 0, 1) := by decide +kernel
theorem d_Mo_changes_91 : decode c_Mo_changes 91 = .ok (.iload_n 2, 1) := by decide +kernel
theorem d_Mo_changes_92 : decode c_Mo_changes 92 = .ok (.putfield 74, 3) := by decide +kernel
theorem d_Mo_changes_95 : decode c_Mo_changes 95 = .ok (.iconst 0, 1) := by decide +kernel
theorem d_Mo_changes_96 : decode c_Mo_changes 96 = .ok (.istore 5, 2) := by decide +kernel
theorem d_Mo_changes_98 : decode c_Mo_changes 98 = .ok (.iload 5, 2) := by decide +kernel
theorem d_Mo_changes_100 : decode c_Mo_changes 100 = .ok (.iload_n 2, 1) := by decide +kernel
theorem d_Mo_changes_101 : decode c_Mo_changes 101 = .ok (.if_icmp .ge 25, 3) := by decide +kernel
theorem d_Mo_changes_104 : decode c_Mo_changes 104 = .ok (.aload_n 0, 1) := by decide +kernel
theorem d_Mo_changes_105 : decode c_Mo_changes 105 = .ok (.getfield 38, 3) := by decide +kernel
theorem d_Mo_changes_108 : decode c_Mo_changes 108 = .ok (.iload 5, 2) := by decide +kernel
theorem d_Mo_changes_110 : decode c_Mo_changes 110 = .ok (.aload_n 0, 1) := by decide +kernel
theorem d_Mo_changes_111 : decode c_Mo_changes 111 = .ok (.getfield 44, 3) := by decide +kernel
theorem d_Mo_changes_114 : decode c_Mo_changes 114 = .ok (.iconst 5, 1) := by decide +kernel
theorem d_Mo_changes_115 : decode c_Mo_changes 115 = .ok (.iload 5, 2) := by decide +kernel
theorem d_Mo_changes_117 : decode c_Mo_changes 117 = .ok (.iadd, 1) := by decide +kernel
theorem d_Mo_changes_118 : decode c_Mo_changes 118 = .ok (.iaload, 1) := by decide +kernel
theorem d_Mo_changes_119 : decode c_Mo_changes 119 = .ok (.iastore, 1) := by decide +kernel
theorem d_Mo_changes_120 : decode c_Mo_changes 120 = .ok (.iinc 5 1, 3) := by decide +kernel
theorem d_Mo_changes_123 : decode c_Mo_changes 123 = .ok (.goto (-25), 3) := by decide +kernel
theorem d_Mo_changes_126 : decode c_Mo_changes 126 = .ok (.aload_n 0, 1) := by decide +kernel
theorem d_Mo_changes_127 : decode c_Mo_changes 127 = .ok (.invokevirtual 87, 3) := by decide +kernel
theorem d_Mo_changes_130 : decode c_Mo_changes 130 = .ok (.pop, 1) := by decide +kernel
theorem d_Mo_changes_131 : decode c_Mo_changes 131 = .ok (.ldc 183, 2) := by decide +kernel
theorem d_Mo_changes_133 : decode c_Mo_changes 133 = .ok (.ireturn, 1) := by decide +kernel
theorem d_Mo_tell_0 : decode c_Mo_tell 0 = .ok (.iload_n 1, 1) := by decide +kernel
theorem d_Mo_tell_1 : decode c_Mo_tell 1 = .ok (.ifCond .ne 8, 3) := by decide +kernel
theorem d_Mo_tell_4 : decode c_Mo_tell 4 = .ok (.iload_n 2, 1) := by decide +kernel
theorem d_Mo_tell_5 : decode c_Mo_tell 5 = .ok (.iconst 1, 1) := by decide +kernel
theorem d_Mo_tell_6 : decode c_Mo_tell 6 = .ok (.if_icmp .eq 7, 3) := by decide +kernel
theorem d_Mo_tell_9 : decode c_Mo_tell 9 = .ok (.sipush 27270, 3) := by decide +kernel
theorem d_Mo_tell_12 : decode c_Mo_tell 12 = .ok (.ireturn, 1) := by decide +kernel
theorem d_Mo_tell_13 : decode c_Mo_tell 13 = .ok (.iload_n 3, 1) := by decide +kernel
theorem d_Mo_tell_14 : decode c_Mo_tell 14 = .ok (.ifCond .eq 8, 3) := by decide +kernel
theorem d_Mo_tell_17 : decode c_Mo_tell 17 = .ok (.iload_n 3, 1) := by decide +kernel
theorem d_Mo_tell_18 : decode c_Mo_tell 18 = .ok (.iconst 4, 1) := by decide +kernel
theorem d_Mo_tell_19 : decode c_Mo_tell 19 = .ok (.if_icmp .ne 8, 3) := by decide +kernel
theorem d_Mo_tell_22 : decode c_Mo_tell 22 = .ok (.iload 4, 2) := by decide +kernel
theorem d_Mo_tell_24 : decode c_Mo_tell 24 = .ok (.ifCond .lt 7, 3) := by decide +kernel
theorem d_Mo_tell_27 : decode c_Mo_tell 27 = .ok (.sipush 26368, 3) := by decide +kernel
theorem d_Mo_tell_30 : decode c_Mo_tell 30 = .ok (.ireturn, 1) := by decide +kernel
theorem d_Mo_tell_31 : decode c_Mo_tell 31 = .ok (.iload_n 3, 1) := by decide +kernel
theorem d_Mo_tell_32 : decode c_Mo_tell 32 = .ok (.ifCond .ne 13, 3) := by decide +kernel
theorem d_Mo_tell_35 : decode c_Mo_tell 35 = .ok (.aload_n 0, 1) := by decide +kernel
theorem d_Mo_tell_36 : decode c_Mo_tell 36 = .ok (.getfield 90, 3) := by decide +kernel
theorem d_Mo_tell_39 : decode c_Mo_tell 39 = .ok (.ifCond .eq 6, 3) := by decide +kernel
theorem d_Mo_tell_42 : decode c_Mo_tell 42 = .ok (.ldc 183, 2) := by decide +kernel
theorem d_Mo_tell_44 : decode c_Mo_tell 44 = .ok (.ireturn, 1) := by decide +kernel
theorem d_Mo_tell_45 : decode c_Mo_tell 45 = .ok (.aload_n 0, 1) := by decide +kernel
theorem d_Mo_tell_46 : decode c_Mo_tell 46 = .ok (.getfield 32, 3) := by decide +kernel
theorem d_Mo_tell_49 : decode c_Mo_tell 49 = .ok (.ifCond .ne 7, 3) := by decide +kernel
theorem d_Mo_tell_52 : decode c_Mo_tell 52 = .ok (.sipush 27011, 3) := by decide +kernel
theorem d_Mo_tell_55 : decode c_Mo_tell 55 = .ok (.ireturn, 1) := by decide +kernel
theorem d_Mo_tell_56 : decode c_Mo_tell 56 = .ok (.iload_n 3, 1) := by decide +kernel
theorem d_Mo_tell_57 : decode c_Mo_tell 57 = .ok (.ifCond .ne 12, 3) := by decide +kernel
theorem d_Mo_tell_60 : decode c_Mo_tell 60 = .ok (.sipush 25536, 3) := by decide +kernel
theorem d_Mo_tell_63 : decode c_Mo_tell 63 = .ok (.aload_n 0, 1) := by decide +kernel
theorem d_Mo_tell_64 : decode c_Mo_tell 64 = .ok (.getfield 32, 3) := by decide +kernel
theorem d_Mo_tell_67 : decode c_Mo_tell 67 = .ok (.iadd, 1) := by decide +kernel
theorem d_Mo_tell_68 : decode c_Mo_tell 68 = .ok (.ireturn, 1) := by decide +kernel
theorem d_Mo_tell_69 : decode c_Mo_tell 69 = .ok (.aload_n 0, 1) := by decide +kernel
theorem d_Mo_tell_70 : decode c_Mo_tell 70 = .ok (.invokevirtual 77, 3) := by decide +kernel
theorem d_Mo_tell_73 : decode c_Mo_tell 73 = .ok (.istore 5, 2) := by decide +kernel
theorem d_Mo_tell_75 : decode c_Mo_tell 75 = .ok (.iload 5, 2) := by decide +kernel
theorem d_Mo_tell_77 : decode c_Mo_tell 77 = .ok (.ifCond .ne 5, 3) := by decide +kernel
theorem d_Mo_tell_80 : decode c_Mo_tell 80 = .ok (.iconst 0, 1) := by decide +kernel
theorem d_Mo_tell_81 : decode c_Mo_tell 81 = .ok (.ireturn, 1) := by decide +kernel
theorem d_Mo_tell_82 : decode c_Mo_tell 82 = .ok (.aload_n 0, 1) := by decide +kernel
theorem d_Mo_tell_83 : decode c_Mo_tell 83 = .ok (.dup, 1) := by decide +kernel
theorem d_Mo_tell_84 : decode c_Mo_tell 84 = .ok (.getfield 32, 3) := by decide +kernel
theorem d_Mo_tell_87 : decode c_Mo_tell 87 = .ok (.iconst 1, 1) := by decide +kernel
theorem d_Mo_tell_88 : decode c_Mo_tell 88 = .ok (.isub, 1) := by decide +kernel
theorem d_Mo_tell_89 : decode c_Mo_tell 89 = .ok (.putfield 32, 3) := by decide +kernel
theorem d_Mo_tell_92 : decode c_Mo_tell 92 = .ok (.aload_n 0, 1) := by decide +kernel
theorem d_Mo_tell_93 : decode c_Mo_tell 93 = .ok (.invokevirtual 188, 3) := by decide +kernel
theorem d_Mo_tell_96 : decode c_Mo_tell 96 = .ok (.istore 6, 2) := by decide +kernel
theorem d_Mo_tell_98 : decode c_Mo_tell 98 = .ok (.aload_n 0, 1) := by decide +kernel
theorem d_Mo_tell_99 : decode c_Mo_tell 99 = .ok (.iconst 0, 1) := by decide +kernel
theorem d_Mo_tell_100 : decode c_Mo_tell 100 = .ok (.putfield 90, 3) := by decide +kernel
theorem d_Mo_tell_103 : decode c_Mo_tell 103 = .ok (.iload 6, 2) := by decide +kernel
theorem d_Mo_tell_105 : decode c_Mo_tell 105 = .ok (.aload_n 0, 1) := by decide +kernel
theorem d_Mo_tell_106 : decode c_Mo_tell 106 = .ok (.getfield 191, 3) := by decide +kernel
theorem d_Mo_tell_109 : decode c_Mo_tell 109 = .ok (.if_icmp .eq 12, 3) := by decide +kernel
theorem d_Mo_tell_112 : decode c_Mo_tell 112 = .ok (.sipush 25536, 3) := by decide +kernel
theorem d_Mo_tell_115 : decode c_Mo_tell 115 = .ok (.aload_n 0, 1) := by decide +kernel
theorem d_Mo_tell_116 : decode c_Mo_tell 116 = .ok (.getfield 32, 3) := by decide +kernel
theorem d_Mo_tell_119 : decode c_Mo_tell 119 = .ok (.iadd, 1) := by decide +kernel
theorem d_Mo_tell_120 : decode c_Mo_tell 120 = .ok (.ireturn, 1) := by decide +kernel
theorem d_Mo_tell_121 : decode c_Mo_tell 121 = .ok (.aload_n 0, 1) := by decide +kernel
theorem d_Mo_tell_122 : decode c_Mo_tell 122 = .ok (.invokevirtual 77, 3) := by decide +kernel
theorem d_Mo_tell_125 : decode c_Mo_tell 125 = .ok (.istore 5, 2) := by decide +kernel
theorem d_Mo_tell_127 : decode c_Mo_tell 127 = .ok (.iload 5, 2) := by decide +kernel
theorem d_Mo_tell_129 : decode c_Mo_tell 129 = .ok (.ifCond .ne 5, 3) := by decide +kernel
theorem d_Mo_tell_132 : decode c_Mo_tell 132 = .ok (.iconst 0, 1) := by decide +kernel
theorem d_Mo_tell_133 : decode c_Mo_tell 133 = .ok (.ireturn, 1) := by decide +kernel
theorem d_Mo_tell_134 : decode c_Mo_tell 134 = .ok (.aload_n 0, 1) := by decide +kernel
theorem d_Mo_tell_135 : decode c_Mo_tell 135 = .ok (.iconst 3, 1) := by decide +kernel
theorem d_Mo_tell_136 : decode c_Mo_tell 136 = .ok (.putfield 32, 3) := by decide +kernel
theorem d_Mo_tell_139 : decode c_Mo_tell 139 = .ok (.aload_n 0, 1) := by decide +kernel
theorem d_Mo_tell_140 : decode c_Mo_tell 140 = .ok (.iconst 1, 1) := by decide +kernel
theorem d_Mo_tell_141 : decode c_Mo_tell 141 = .ok (.putfield 90, 3) := by decide +kernel
theorem d_Mo_tell_144 : decode c_Mo_tell 144 = .ok (.ldc 183, 2) := by decide +kernel
theorem d_Mo_tell_146 : decode c_Mo_tell 146 = .ok (.ireturn, 1) := by decide +kernel
theorem d_Mo_told_0 : decode c_Mo_told 0 = .ok (.aload_n 0, 1) := by decide +kernel
theorem d_Mo_told_1 : decode c_Mo_told 1 = .ok (.getfield 44, 3) := by decide +kernel
theorem d_Mo_told_4 : decode c_Mo_told 4 = .ok (.iconst 5, 1) := by decide +kernel
theorem d_Mo_told_5 : decode c_Mo_told 5 = .ok (.iaload, 1) := by decide +kernel
theorem d_Mo_told_6 : decode c_Mo_told 6 = .ok (.bipush 24, 2) := by decide +kernel
theorem d_Mo_told_8 : decode c_Mo_told 8 = .ok (.ishl, 1) := by decide +kernel
theorem d_Mo_told_9 : decode c_Mo_told 9 = .ok (.aload_n 0, 1) := by decide +kernel
theorem d_Mo_told_10 : decode c_Mo_told 10 = .ok (.getfield 44, 3) := by decide +kernel
theorem d_Mo_told_13 : decode c_Mo_told 13 = .ok (.bipush 6, 2) := by decide +kernel
theorem d_Mo_told_15 : decode c_Mo_told 15 = .ok (.iaload, 1) := by decide +kernel
theorem d_Mo_told_16 : decode c_Mo_told 16 = .ok (.bipush 16, 2) := by decide +kernel
theorem d_Mo_told_18 : decode c_Mo_told 18 = .ok (.ishl, 1) := by decide +kernel
theorem d_Mo_told_19 : decode c_Mo_told 19 = .ok (.ior, 1) := by decide +kernel
theorem d_Mo_told_20 : decode c_Mo_told 20 = .ok (.aload_n 0, 1) := by decide +kernel
theorem d_Mo_told_21 : decode c_Mo_told 21 = .ok (.getfield 44, 3) := by decide +kernel
theorem d_Mo_told_24 : decode c_Mo_told 24 = .ok (.bipush 7, 2) := by decide +kernel
theorem d_Mo_told_26 : decode c_Mo_told 26 = .ok (.iaload, 1) := by decide +kernel
theorem d_Mo_told_27 : decode c_Mo_told 27 = .ok (.bipush 8, 2) := by decide +kernel
theorem d_Mo_told_29 : decode c_Mo_told 29 = .ok (.ishl, 1) := by decide +kernel
theorem d_Mo_told_30 : decode c_Mo_told 30 = .ok (.ior, 1) := by decide +kernel
theorem d_Mo_told_31 : decode c_Mo_told 31 = .ok (.aload_n 0, 1) := by decide +kernel
theorem d_Mo_told_32 : decode c_Mo_told 32 = .ok (.getfield 44, 3) := by decide +kernel
theorem d_Mo_told_35 : decode c_Mo_told 35 = .ok (.bipush 8, 2) := by decide +kernel
theorem d_Mo_told_37 : decode c_Mo_told 37 = .ok (.iaload, 1) := by decide +kernel
theorem d_Mo_told_38 : decode c_Mo_told 38 = .ok (.ior, 1) := by decide +kernel
theorem d_Mo_told_39 : decode c_Mo_told 39 = .ok (.ireturn, 1) := by decide +kernel
theorem d_Mo_renew_0 : decode c_Mo_renew 0 = .ok (.iload_n 1, 1) := by decide +kernel
theorem d_Mo_renew_1 : decode c_Mo_renew 1 = .ok (.ifCond .ne 7, 3) := by decide +kernel
theorem d_Mo_renew_4 : decode c_Mo_renew 4 = .ok (.iload_n 2, 1) := by decide +kernel
theorem d_Mo_renew_5 : decode c_Mo_renew 5 = .ok (.ifCond .eq 7, 3) := by decide +kernel
theorem d_Mo_renew_8 : decode c_Mo_renew 8 = .ok (.sipush 27270, 3) := by decide +kernel
theorem d_Mo_renew_11 : decode c_Mo_renew 11 = .ok (.ireturn, 1) := by decide +kernel
theorem d_Mo_renew_12 : decode c_Mo_renew 12 = .ok (.iload_n 3, 1) := by decide +kernel
theorem d_Mo_renew_13 : decode c_Mo_renew 13 = .ok (.iconst 4, 1) := by decide +kernel
theorem d_Mo_renew_14 : decode c_Mo_renew 14 = .ok (.if_icmp .ne 8, 3) := by decide +kernel
theorem d_Mo_renew_17 : decode c_Mo_renew 17 = .ok (.iload 4, 2) := by decide +kernel
theorem d_Mo_renew_19 : decode c_Mo_renew 19 = .ok (.ifCond .lt 7, 3) := by decide +kernel
theorem d_Mo_renew_22 : decode c_Mo_renew 22 = .ok (.sipush 26368, 3) := by decide +kernel
theorem d_Mo_renew_25 : decode c_Mo_renew 25 = .ok (.ireturn, 1) := by decide +kernel
theorem d_Mo_renew_26 : decode c_Mo_renew 26 = .ok (.aload_n 0, 1) := by decide +kernel
theorem d_Mo_renew_27 : decode c_Mo_renew 27 = .ok (.getfield 90, 3) := by decide +kernel
theorem d_Mo_renew_30 : decode c_Mo_renew 30 = .ok (.ifCond .ne 7, 3) := by decide +kernel
theorem d_Mo_renew_33 : decode c_Mo_renew 33 = .ok (.sipush 27010, 3) := by decide +kernel
theorem d_Mo_renew_36 : decode c_Mo_renew 36 = .ok (.ireturn, 1) := by decide +kernel
theorem d_Mo_renew_37 : decode c_Mo_renew 37 = .ok (.aload_n 0, 1) := by decide +kernel
theorem d_Mo_renew_38 : decode c_Mo_renew 38 = .ok (.invokevirtual 77, 3) := by decide +kernel
theorem d_Mo_renew_41 : decode c_Mo_renew 41 = .ok (.istore 5, 2) := by decide +kernel
theorem d_Mo_renew_43 : decode c_Mo_renew 43 = .ok (.iload 5, 2) := by decide +kernel
theorem d_Mo_renew_45 : decode c_Mo_renew 45 = .ok (.ifCond .eq 11, 3) := by decide +kernel
theorem d_Mo_renew_48 : decode c_Mo_renew 48 = .ok (.aload_n 0, 1) := by decide +kernel
theorem d_Mo_renew_49 : decode c_Mo_renew 49 = .ok (.aload_n 0, 1) := by decide +kernel
theorem d_Mo_renew_50 : decode c_Mo_renew 50 = .ok (.invokevirtual 188, 3) := by decide +kernel
theorem d_Mo_renew_53 : decode c_Mo_renew 53 = .ok (.putfield 191, 3) := by decide +kernel
theorem d_Mo_renew_56 : decode c_Mo_renew 56 = .ok (.ldc 183, 2) := by decide +kernel
theorem d_Mo_renew_58 : decode c_Mo_renew 58 = .ok (.ireturn, 1) := by decide +kernel
theorem d_Mo_next_0 : decode c_Mo_next 0 = .ok (.aload_n 0, 1) := by decide +kernel
theorem d_Mo_next_1 : decode c_Mo_next 1 = .ok (.getfield 126, 3) := by decide +kernel
theorem d_Mo_next_4 : decode c_Mo_next 4 = .ok (.aload_n 0, 1) := by decide +kernel
theorem d_Mo_next_5 : decode c_Mo_next 5 = .ok (.getfield 129, 3) := by decide +kernel
theorem d_Mo_next_8 : decode c_Mo_next 8 = .ok (.isub, 1) := by decide +kernel
theorem d_Mo_next_9 : decode c_Mo_next 9 = .ok (.istore_n 1, 1) := by decide +kernel
theorem d_Mo_next_10 : decode c_Mo_next 10 = .ok (.iload_n 1, 1) := by decide +kernel
theorem d_Mo_next_11 : decode c_Mo_next 11 = .ok (.aload_n 0, 1) := by decide +kernel
theorem d_Mo_next_12 : decode c_Mo_next 12 = .ok (.getfield 99, 3) := by decide +kernel
theorem d_Mo_next_15 : decode c_Mo_next 15 = .ok (.if_icmp .le 8, 3) := by decide +kernel
theorem d_Mo_next_18 : decode c_Mo_next 18 = .ok (.aload_n 0, 1) := by decide +kernel
theorem d_Mo_next_19 : decode c_Mo_next 19 = .ok (.getfield 99, 3) := by decide +kernel
theorem d_Mo_next_22 : decode c_Mo_next 22 = .ok (.istore_n 1, 1) := by decide +kernel
theorem d_Mo_next_23 : decode c_Mo_next 23 = .ok (.iconst 0, 1) := by decide +kernel
theorem d_Mo_next_24 : decode c_Mo_next 24 = .ok (.istore_n 2, 1) := by decide +kernel
theorem d_Mo_next_25 : decode c_Mo_next 25 = .ok (.iload_n 2, 1) := by decide +kernel
theorem d_Mo_next_26 : decode c_Mo_next 26 = .ok (.iload_n 1, 1) := by decide +kernel
theorem d_Mo_next_27 : decode c_Mo_next 27 = .ok (.if_icmp .ge 28, 3) := by decide +kernel
theorem d_Mo_next_30 : decode c_Mo_next 30 = .ok (.aload_n 0, 1) := by decide +kernel
theorem d_Mo_next_31 : decode c_Mo_next 31 = .ok (.getfield 50, 3) := by decide +kernel
theorem d_Mo_next_34 : decode c_Mo_next 34 = .ok (.iconst 3, 1) := by decide +kernel
theorem d_Mo_next_35 : decode c_Mo_next 35 = .ok (.iload_n 2, 1) := by decide +kernel
theorem d_Mo_next_36 : decode c_Mo_next 36 = .ok (.iadd, 1) := by decide +kernel
theorem d_Mo_next_37 : decode c_Mo_next 37 = .ok (.aload_n 0, 1) := by decide +kernel
theorem d_Mo_next_38 : decode c_Mo_next 38 = .ok (.getfield 47, 3) := by decide +kernel
theorem d_Mo_next_41 : decode c_Mo_next 41 = .ok (.aload_n 0, 1) := by decide +kernel
theorem d_Mo_next_42 : decode c_Mo_next 42 = .ok (.getfield 129, 3) := by decide +kernel
theorem d_Mo_next_45 : decode c_Mo_next 45 = .ok (.iload_n 2, 1) := by decide +kernel
theorem d_Mo_next_46 : decode c_Mo_next 46 = .ok (.iadd, 1) := by decide +kernel
theorem d_Mo_next_47 : decode c_Mo_next 47 = .ok (.iaload, 1) := by decide +kernel
theorem d_Mo_next_48 : decode c_Mo_next 48 = .ok (.iastore, 1) := by decide +kernel
theorem d_Mo_next_49 : decode c_Mo_next 49 = .ok (.iinc 2 1, 3) := by decide +kernel
theorem d_Mo_next_52 : decode c_Mo_next 52 = .ok (.goto (-27), 3) := by decide +kernel
theorem d_Mo_next_55 : decode c_Mo_next 55 = .ok (.aload_n 0, 1) := by decide +kernel
theorem d_Mo_next_56 : decode c_Mo_next 56 = .ok (.dup, 1) := by decide +kernel
theorem d_Mo_next_57 : decode c_Mo_next 57 = .ok (.getfield 129, 3) := by decide +kernel
theorem d_Mo_next_60 : decode c_Mo_next 60 = .ok (.iload_n 1, 1) := by decide +kernel
theorem d_Mo_next_61 : decode c_Mo_next 61 = .ok (.iadd, 1) := by decide +kernel
theorem d_Mo_next_62 : decode c_Mo_next 62 = .ok (.putfield 129, 3) := by decide +kernel
theorem d_Mo_next_65 : decode c_Mo_next 65 = .ok (.aload_n 0, 1) := by decide +kernel
theorem d_Mo_next_66 : decode c_Mo_next 66 = .ok (.bipush 64, 2) := by decide +kernel
theorem d_Mo_next_68 : decode c_Mo_next 68 = .ok (.aload_n 0, 1) := by decide +kernel
theorem d_Mo_next_69 : decode c_Mo_next 69 = .ok (.getfield 111, 3) := by decide +kernel
theorem d_Mo_next_72 : decode c_Mo_next 72 = .ok (.imul, 1) := by decide +kernel
theorem d_Mo_next_73 : decode c_Mo_next 73 = .ok (.aload_n 0, 1) := by decide +kernel
theorem d_Mo_next_74 : decode c_Mo_next 74 = .ok (.getfield 129, 3) := by decide +kernel
theorem d_Mo_next_77 : decode c_Mo_next 77 = .ok (.aload_n 0, 1) := by decide +kernel
theorem d_Mo_next_78 : decode c_Mo_next 78 = .ok (.getfield 126, 3) := by decide +kernel
theorem d_Mo_next_81 : decode c_Mo_next 81 = .ok (.if_icmp .ge 8, 3) := by decide +kernel
theorem d_Mo_next_84 : decode c_Mo_next 84 = .ok (.bipush 32, 2) := by decide +kernel
theorem d_Mo_next_86 : decode c_Mo_next 86 = .ok (.goto 4, 3) := by decide +kernel
theorem d_Mo_next_89 : decode c_Mo_next 89 = .ok (.iconst 0, 1) := by decide +kernel
theorem d_Mo_next_90 : decode c_Mo_next 90 = .ok (.iadd, 1) := by decide +kernel
theorem d_Mo_next_91 : decode c_Mo_next 91 = .ok (.iload_n 1, 1) := by decide +kernel
theorem d_Mo_next_92 : decode c_Mo_next 92 = .ok (.invokevirtual 147, 3) := by decide +kernel
theorem d_Mo_next_95 : decode c_Mo_next 95 = .ok (.aload_n 0, 1) := by decide +kernel
theorem d_Mo_next_96 : decode c_Mo_next 96 = .ok (.iconst 1, 1) := by decide +kernel
theorem d_Mo_next_97 : decode c_Mo_next 97 = .ok (.aload_n 0, 1) := by decide +kernel
theorem d_Mo_next_98 : decode c_Mo_next 98 = .ok (.getfield 111, 3) := by decide +kernel
theorem d_Mo_next_101 : decode c_Mo_next 101 = .ok (.isub, 1) := by decide +kernel
theorem d_Mo_next_102 : decode c_Mo_next 102 = .ok (.putfield 111, 3) := by decide +kernel
theorem d_Mo_next_105 : decode c_Mo_next 105 = .ok (.return_, 1) := by decide +kernel
theorem d_Mo_asks_0 : decode c_Mo_asks 0 = .ok (.iload_n 1, 1) := by decide +kernel
theorem d_Mo_asks_1 : decode c_Mo_asks 1 = .ok (.aload_n 0, 1) := by decide +kernel
theorem d_Mo_asks_2 : decode c_Mo_asks 2 = .ok (.getfield 111, 3) := by decide +kernel
theorem d_Mo_asks_5 : decode c_Mo_asks 5 = .ok (.if_icmp .ne 21, 3) := by decide +kernel
theorem d_Mo_asks_8 : decode c_Mo_asks 8 = .ok (.aload_n 0, 1) := by decide +kernel
theorem d_Mo_asks_9 : decode c_Mo_asks 9 = .ok (.getfield 129, 3) := by decide +kernel
theorem d_Mo_asks_12 : decode c_Mo_asks 12 = .ok (.aload_n 0, 1) := by decide +kernel
theorem d_Mo_asks_13 : decode c_Mo_asks 13 = .ok (.getfield 126, 3) := by decide +kernel
theorem d_Mo_asks_16 : decode c_Mo_asks 16 = .ok (.if_icmp .ge 10, 3) := by decide +kernel
theorem d_Mo_asks_19 : decode c_Mo_asks 19 = .ok (.aload_n 0, 1) := by decide +kernel
theorem d_Mo_asks_20 : decode c_Mo_asks 20 = .ok (.invokevirtual 163, 3) := by decide +kernel
theorem d_Mo_asks_23 : decode c_Mo_asks 23 = .ok (.goto 69, 3) := by decide +kernel
theorem d_Mo_asks_26 : decode c_Mo_asks 26 = .ok (.iload_n 1, 1) := by decide +kernel
theorem d_Mo_asks_27 : decode c_Mo_asks 27 = .ok (.aload_n 0, 1) := by decide +kernel
theorem d_Mo_asks_28 : decode c_Mo_asks 28 = .ok (.getfield 111, 3) := by decide +kernel
theorem d_Mo_asks_31 : decode c_Mo_asks 31 = .ok (.if_icmp .eq 56, 3) := by decide +kernel
theorem d_Mo_asks_34 : decode c_Mo_asks 34 = .ok (.aload_n 0, 1) := by decide +kernel
theorem d_Mo_asks_35 : decode c_Mo_asks 35 = .ok (.getfield 114, 3) := by decide +kernel
theorem d_Mo_asks_38 : decode c_Mo_asks 38 = .ok (.ifCond .le 49, 3) := by decide +kernel
theorem d_Mo_asks_41 : decode c_Mo_asks 41 = .ok (.aload_n 0, 1) := by decide +kernel
theorem d_Mo_asks_42 : decode c_Mo_asks 42 = .ok (.getfield 150, 3) := by decide +kernel
theorem d_Mo_asks_45 : decode c_Mo_asks 45 = .ok (.ifCond .eq 42, 3) := by decide +kernel
theorem d_Mo_asks_48 : decode c_Mo_asks 48 = .ok (.iconst 0, 1) := by decide +kernel
theorem d_Mo_asks_49 : decode c_Mo_asks 49 = .ok (.istore_n 2, 1) := by decide +kernel
theorem d_Mo_asks_50 : decode c_Mo_asks 50 = .ok (.iload_n 2, 1) := by decide +kernel
theorem d_Mo_asks_51 : decode c_Mo_asks 51 = .ok (.aload_n 0, 1) := by decide +kernel
theorem d_Mo_asks_52 : decode c_Mo_asks 52 = .ok (.getfield 114, 3) := by decide +kernel
theorem d_Mo_asks_55 : decode c_Mo_asks 55 = .ok (.if_icmp .ge 21, 3) := by decide +kernel
theorem d_Mo_asks_58 : decode c_Mo_asks 58 = .ok (.aload_n 0, 1) := by decide +kernel
theorem d_Mo_asks_59 : decode c_Mo_asks 59 = .ok (.getfield 50, 3) := by decide +kernel
theorem d_Mo_asks_62 : decode c_Mo_asks 62 = .ok (.iload_n 2, 1) := by decide +kernel
theorem d_Mo_asks_63 : decode c_Mo_asks 63 = .ok (.aload_n 0, 1) := by decide +kernel
theorem d_Mo_asks_64 : decode c_Mo_asks 64 = .ok (.getfield 53, 3) := by decide +kernel
theorem d_Mo_asks_67 : decode c_Mo_asks 67 = .ok (.iload_n 2, 1) := by decide +kernel
theorem d_Mo_asks_68 : decode c_Mo_asks 68 = .ok (.iaload, 1) := by decide +kernel
theorem d_Mo_asks_69 : decode c_Mo_asks 69 = .ok (.iastore, 1) := by decide +kernel
theorem d_Mo_asks_70 : decode c_Mo_asks 70 = .ok (.iinc 2 1, 3) := by decide +kernel
theorem d_Mo_asks_73 : decode c_Mo_asks 73 = .ok (.goto (-23), 3) := by decide +kernel
theorem d_Mo_asks_76 : decode c_Mo_asks 76 = .ok (.aload_n 0, 1) := by decide +kernel
theorem d_Mo_asks_77 : decode c_Mo_asks 77 = .ok (.aload_n 0, 1) := by decide +kernel
theorem d_Mo_asks_78 : decode c_Mo_asks 78 = .ok (.getfield 114, 3) := by decide +kernel
theorem d_Mo_asks_81 : decode c_Mo_asks 81 = .ok (.putfield 68, 3) := by decide +kernel
theorem d_Mo_asks_84 : decode c_Mo_asks 84 = .ok (.goto 8, 3) := by decide +kernel
theorem d_Mo_asks_87 : decode c_Mo_asks 87 = .ok (.aload_n 0, 1) := by decide +kernel
theorem d_Mo_asks_88 : decode c_Mo_asks 88 = .ok (.iconst 0, 1) := by decide +kernel
theorem d_Mo_asks_89 : decode c_Mo_asks 89 = .ok (.invokevirtual 132, 3) := by decide +kernel
theorem d_Mo_asks_92 : decode c_Mo_asks 92 = .ok (.return_, 1) := by decide +kernel
theorem d_Mo_block_0 : decode c_Mo_block 0 = .ok (.iload_n 1, 1) := by decide +kernel
theorem d_Mo_block_1 : decode c_Mo_block 1 = .ok (.iconst 0, 1) := by decide +kernel
theorem d_Mo_block_2 : decode c_Mo_block 2 = .ok (.sipush 255, 3) := by decide +kernel
theorem d_Mo_block_5 : decode c_Mo_block 5 = .ok (.invokestatic 56, 3) := by decide +kernel
theorem d_Mo_block_8 : decode c_Mo_block 8 = .ok (.ifCond .eq 14, 3) := by decide +kernel
theorem d_Mo_block_11 : decode c_Mo_block 11 = .ok (.iload 4, 2) := by decide +kernel
theorem d_Mo_block_13 : decode c_Mo_block 13 = .ok (.iconst 0, 1) := by decide +kernel
theorem d_Mo_block_14 : decode c_Mo_block 14 = .ok (.bipush 8, 2) := by decide +kernel
theorem d_Mo_block_16 : decode c_Mo_block 16 = .ok (.invokestatic 56, 3) := by decide +kernel
theorem d_Mo_block_19 : decode c_Mo_block 19 = .ok (.ifCond .ne 5, 3) := by decide +kernel
theorem d_Mo_block_22 : decode c_Mo_block 22 = .ok (.iconst (-1), 1) := by decide +kernel
theorem d_Mo_block_23 : decode c_Mo_block 23 = .ok (.ireturn, 1) := by decide +kernel
theorem d_Mo_block_24 : decode c_Mo_block 24 = .ok (.aload_n 0, 1) := by decide +kernel
theorem d_Mo_block_25 : decode c_Mo_block 25 = .ok (.getfield 61, 3) := by decide +kernel
theorem d_Mo_block_28 : decode c_Mo_block 28 = .ok (.ifCond .ne 6, 3) := by decide +kernel
theorem d_Mo_block_31 : decode c_Mo_block 31 = .ok (.bipush (-3), 2) := by decide +kernel
theorem d_Mo_block_33 : decode c_Mo_block 33 = .ok (.ireturn, 1) := by decide +kernel
theorem d_Mo_block_34 : decode c_Mo_block 34 = .ok (.aload_n 0, 1) := by decide +kernel
theorem d_Mo_block_35 : decode c_Mo_block 35 = .ok (.iconst 0, 1) := by decide +kernel
theorem d_Mo_block_36 : decode c_Mo_block 36 = .ok (.putfield 102, 3) := by decide +kernel
theorem d_Mo_block_39 : decode c_Mo_block 39 = .ok (.iload_n 1, 1) := by decide +kernel
theorem d_Mo_block_40 : decode c_Mo_block 40 = .ok (.iload 4, 2) := by decide +kernel
theorem d_Mo_block_42 : decode c_Mo_block 42 = .ok (.ixor, 1) := by decide +kernel
theorem d_Mo_block_43 : decode c_Mo_block 43 = .ok (.istore 5, 2) := by decide +kernel
theorem d_Mo_block_45 : decode c_Mo_block 45 = .ok (.aload_n 0, 1) := by decide +kernel
theorem d_Mo_block_46 : decode c_Mo_block 46 = .ok (.iconst 0, 1) := by decide +kernel
theorem d_Mo_block_47 : decode c_Mo_block 47 = .ok (.invokevirtual 196, 3) := by decide +kernel
theorem d_Mo_block_50 : decode c_Mo_block 50 = .ok (.aload_n 0, 1) := by decide +kernel
theorem d_Mo_block_51 : decode c_Mo_block 51 = .ok (.iload_n 1, 1) := by decide +kernel
theorem d_Mo_block_52 : decode c_Mo_block 52 = .ok (.invokevirtual 196, 3) := by decide +kernel
theorem d_Mo_block_55 : decode c_Mo_block 55 = .ok (.aload_n 0, 1) := by decide +kernel
theorem d_Mo_block_56 : decode c_Mo_block 56 = .ok (.iload 4, 2) := by decide +kernel
theorem d_Mo_block_58 : decode c_Mo_block 58 = .ok (.invokevirtual 196, 3) := by decide +kernel
theorem d_Mo_block_61 : decode c_Mo_block 61 = .ok (.iconst 0, 1) := by decide +kernel
theorem d_Mo_block_62 : decode c_Mo_block 62 = .ok (.istore 6, 2) := by decide +kernel
theorem d_Mo_block_64 : decode c_Mo_block 64 = .ok (.iload 6, 2) := by decide +kernel
theorem d_Mo_block_66 : decode c_Mo_block 66 = .ok (.iload 4, 2) := by decide +kernel
theorem d_Mo_block_68 : decode c_Mo_block 68 = .ok (.if_icmp .ge 36, 3) := by decide +kernel
theorem d_Mo_block_71 : decode c_Mo_block 71 = .ok (.lload_n 2, 1) := by decide +kernel
theorem d_Mo_block_72 : decode c_Mo_block 72 = .ok (.bipush 8, 2) := by decide +kernel
theorem d_Mo_block_74 : decode c_Mo_block 74 = .ok (.iload 6, 2) := by decide +kernel
theorem d_Mo_block_76 : decode c_Mo_block 76 = .ok (.imul, 1) := by decide +kernel
theorem d_Mo_block_77 : decode c_Mo_block 77 = .ok (.lushr, 1) := by decide +kernel
theorem d_Mo_block_78 : decode c_Mo_block 78 = .ok (.ldc2_w 194, 3) := by decide +kernel
theorem d_Mo_block_81 : decode c_Mo_block 81 = .ok (.land, 1) := by decide +kernel
theorem d_Mo_block_82 : decode c_Mo_block 82 = .ok (.l2i, 1) := by decide +kernel
theorem d_Mo_block_83 : decode c_Mo_block 83 = .ok (.istore 7, 2) := by decide +kernel
theorem d_Mo_block_85 : decode c_Mo_block 85 = .ok (.iload 5, 2) := by decide +kernel
theorem d_Mo_block_87 : decode c_Mo_block 87 = .ok (.iload 7, 2) := by decide +kernel
theorem d_Mo_block_89 : decode c_Mo_block 89 = .ok (.ixor, 1) := by decide +kernel
theorem d_Mo_block_90 : decode c_Mo_block 90 = .ok (.istore 5, 2) := by decide +kernel
theorem d_Mo_block_92 : decode c_Mo_block 92 = .ok (.aload_n 0, 1) := by decide +kernel
theorem d_Mo_block_93 : decode c_Mo_block 93 = .ok (.iload 7, 2) := by decide +kernel
theorem d_Mo_block_95 : decode c_Mo_block 95 = .ok (.invokevirtual 196, 3) := by decide +kernel
theorem d_Mo_block_98 : decode c_Mo_block 98 = .ok (.iinc 6 1, 3) := by decide +kernel
theorem d_Mo_block_101 : decode c_Mo_block 101 = .ok (.goto (-37), 3) := by decide +kernel
theorem d_Mo_block_104 : decode c_Mo_block 104 = .ok (.aload_n 0, 1) := by decide +kernel
theorem d_Mo_block_105 : decode c_Mo_block 105 = .ok (.iload 5, 2) := by decide +kernel
theorem d_Mo_block_107 : decode c_Mo_block 107 = .ok (.invokevirtual 196, 3) := by decide +kernel
theorem d_Mo_block_110 : decode c_Mo_block 110 = .ok (.aload_n 0, 1) := by decide +kernel
theorem d_Mo_block_111 : decode c_Mo_block 111 = .ok (.getfield 61, 3) := by decide +kernel
theorem d_Mo_block_114 : decode c_Mo_block 114 = .ok (.ifCond .eq 10, 3) := by decide +kernel
theorem d_Mo_block_117 : decode c_Mo_block 117 = .ok (.aload_n 0, 1) := by decide +kernel
theorem d_Mo_block_118 : decode c_Mo_block 118 = .ok (.getfield 68, 3) := by decide +kernel
theorem d_Mo_block_121 : decode c_Mo_block 121 = .ok (.goto 4, 3) := by decide +kernel
theorem d_Mo_block_124 : decode c_Mo_block 124 = .ok (.iconst 0, 1) := by decide +kernel
theorem d_Mo_block_125 : decode c_Mo_block 125 = .ok (.ireturn, 1) := by decide +kernel
theorem d_Mo_reply_0 : decode c_Mo_reply 0 = .ok (.iload_n 1, 1) := by decide +kernel
theorem d_Mo_reply_1 : decode c_Mo_reply 1 = .ok (.iconst 0, 1) := by decide +kernel
theorem d_Mo_reply_2 : decode c_Mo_reply 2 = .ok (.aload_n 0, 1) := by decide +kernel
theorem d_Mo_reply_3 : decode c_Mo_reply 3 = .ok (.getfield 68, 3) := by decide +kernel
theorem d_Mo_reply_6 : decode c_Mo_reply 6 = .ok (.iconst 1, 1) := by decide +kernel
theorem d_Mo_reply_7 : decode c_Mo_reply 7 = .ok (.isub, 1) := by decide +kernel
theorem d_Mo_reply_8 : decode c_Mo_reply 8 = .ok (.invokestatic 56, 3) := by decide +kernel
theorem d_Mo_reply_11 : decode c_Mo_reply 11 = .ok (.ifCond .eq 12, 3) := by decide +kernel
theorem d_Mo_reply_14 : decode c_Mo_reply 14 = .ok (.aload_n 0, 1) := by decide +kernel
theorem d_Mo_reply_15 : decode c_Mo_reply 15 = .ok (.getfield 50, 3) := by decide +kernel
theorem d_Mo_reply_18 : decode c_Mo_reply 18 = .ok (.iload_n 1, 1) := by decide +kernel
theorem d_Mo_reply_19 : decode c_Mo_reply 19 = .ok (.iaload, 1) := by decide +kernel
theorem d_Mo_reply_20 : decode c_Mo_reply 20 = .ok (.goto 4, 3) := by decide +kernel
theorem d_Mo_reply_23 : decode c_Mo_reply 23 = .ok (.iconst (-1), 1) := by decide +kernel
theorem d_Mo_reply_24 : decode c_Mo_reply 24 = .ok (.ireturn, 1) := by decide +kernel
theorem d_Mo_stored_0 : decode c_Mo_stored 0 = .ok (.iload_n 1, 1) := by decide +kernel
theorem d_Mo_stored_1 : decode c_Mo_stored 1 = .ok (.iconst 0, 1) := by decide +kernel
theorem d_Mo_stored_2 : decode c_Mo_stored 2 = .ok (.aload_n 0, 1) := by decide +kernel
theorem d_Mo_stored_3 : decode c_Mo_stored 3 = .ok (.getfield 28, 3) := by decide +kernel
theorem d_Mo_stored_6 : decode c_Mo_stored 6 = .ok (.iconst 1, 1) := by decide +kernel
theorem d_Mo_stored_7 : decode c_Mo_stored 7 = .ok (.isub, 1) := by decide +kernel
theorem d_Mo_stored_8 : decode c_Mo_stored 8 = .ok (.invokestatic 56, 3) := by decide +kernel
theorem d_Mo_stored_11 : decode c_Mo_stored 11 = .ok (.ifCond .eq 33, 3) := by decide +kernel
theorem d_Mo_stored_14 : decode c_Mo_stored 14 = .ok (.iload_n 2, 1) := by decide +kernel
theorem d_Mo_stored_15 : decode c_Mo_stored 15 = .ok (.iconst 0, 1) := by decide +kernel
theorem d_Mo_stored_16 : decode c_Mo_stored 16 = .ok (.aload_n 0, 1) := by decide +kernel
theorem d_Mo_stored_17 : decode c_Mo_stored 17 = .ok (.getfield 16, 3) := by decide +kernel
theorem d_Mo_stored_20 : decode c_Mo_stored 20 = .ok (.iload_n 1, 1) := by decide +kernel
theorem d_Mo_stored_21 : decode c_Mo_stored 21 = .ok (.iaload, 1) := by decide +kernel
theorem d_Mo_stored_22 : decode c_Mo_stored 22 = .ok (.iconst 1, 1) := by decide +kernel
theorem d_Mo_stored_23 : decode c_Mo_stored 23 = .ok (.isub, 1) := by decide +kernel
theorem d_Mo_stored_24 : decode c_Mo_stored 24 = .ok (.invokestatic 56, 3) := by decide +kernel
theorem d_Mo_stored_27 : decode c_Mo_stored 27 = .ok (.ifCond .eq 17, 3) := by decide +kernel
theorem d_Mo_stored_30 : decode c_Mo_stored 30 = .ok (.aload_n 0, 1) := by decide +kernel
theorem d_Mo_stored_31 : decode c_Mo_stored 31 = .ok (.getfield 25, 3) := by decide +kernel
