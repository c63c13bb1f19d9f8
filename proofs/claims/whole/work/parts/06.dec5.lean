theorem d_Mo_stored_34 : decode c_Mo_stored 34 = .ok (.bipush 24, 2) := by decide +kernel
theorem d_Mo_stored_36 : decode c_Mo_stored 36 = .ok (.iload_n 1, 1) := by decide +kernel
theorem d_Mo_stored_37 : decode c_Mo_stored 37 = .ok (.imul, 1) := by decide +kernel
theorem d_Mo_stored_38 : decode c_Mo_stored 38 = .ok (.iload_n 2, 1) := by decide +kernel
theorem d_Mo_stored_39 : decode c_Mo_stored 39 = .ok (.iadd, 1) := by decide +kernel
theorem d_Mo_stored_40 : decode c_Mo_stored 40 = .ok (.iaload, 1) := by decide +kernel
theorem d_Mo_stored_41 : decode c_Mo_stored 41 = .ok (.goto 4, 3) := by decide +kernel
theorem d_Mo_stored_44 : decode c_Mo_stored 44 = .ok (.iconst (-1), 1) := by decide +kernel
theorem d_Mo_stored_45 : decode c_Mo_stored 45 = .ok (.ireturn, 1) := by decide +kernel
theorem d_Mo_state_0 : decode c_Mo_state 0 = .ok (.iload_n 1, 1) := by decide +kernel
theorem d_Mo_state_1 : decode c_Mo_state 1 = .ok (.iconst 0, 1) := by decide +kernel
theorem d_Mo_state_2 : decode c_Mo_state 2 = .ok (.bipush 15, 2) := by decide +kernel
theorem d_Mo_state_4 : decode c_Mo_state 4 = .ok (.invokestatic 56, 3) := by decide +kernel
theorem d_Mo_state_7 : decode c_Mo_state 7 = .ok (.ifCond .ne 5, 3) := by decide +kernel
theorem d_Mo_state_10 : decode c_Mo_state 10 = .ok (.iconst (-1), 1) := by decide +kernel
theorem d_Mo_state_11 : decode c_Mo_state 11 = .ok (.ireturn, 1) := by decide +kernel
theorem d_Mo_state_12 : decode c_Mo_state 12 = .ok (.iload_n 1, 1) := by decide +kernel
theorem d_Mo_state_13 : decode c_Mo_state 13 = .ok (.bipush 7, 2) := by decide +kernel
theorem d_Mo_state_15 : decode c_Mo_state 15 = .ok (.if_icmp .le 12, 3) := by decide +kernel
theorem d_Mo_state_18 : decode c_Mo_state 18 = .ok (.aload_n 0, 1) := by decide +kernel
theorem d_Mo_state_19 : decode c_Mo_state 19 = .ok (.getfield 61, 3) := by decide +kernel
theorem d_Mo_state_22 : decode c_Mo_state 22 = .ok (.ifCond .ne 5, 3) := by decide +kernel
theorem d_Mo_state_25 : decode c_Mo_state 25 = .ok (.iconst (-1), 1) := by decide +kernel
theorem d_Mo_state_26 : decode c_Mo_state 26 = .ok (.ireturn, 1) := by decide +kernel
theorem d_Mo_state_27 : decode c_Mo_state 27 = .ok (.iload_n 1, 1) := by decide +kernel
theorem d_Mo_state_28 : decode c_Mo_state 28 = .ok (.tableswitch 175 0 14 #[76, 89, 94, 99, 104, 117, 122, 127, 132, 145, 150, 155, 160, 165, 170], 76) := by decide +kernel
theorem d_Mo_state_104 : decode c_Mo_state 104 = .ok (.aload_n 0, 1) := by decide +kernel
theorem d_Mo_state_105 : decode c_Mo_state 105 = .ok (.getfield 61, 3) := by decide +kernel
theorem d_Mo_state_108 : decode c_Mo_state 108 = .ok (.ifCond .eq 7, 3) := by decide +kernel
theorem d_Mo_state_111 : decode c_Mo_state 111 = .ok (.iconst 1, 1) := by decide +kernel
theorem d_Mo_state_112 : decode c_Mo_state 112 = .ok (.goto 4, 3) := by decide +kernel
theorem d_Mo_state_115 : decode c_Mo_state 115 = .ok (.iconst 0, 1) := by decide +kernel
theorem d_Mo_state_116 : decode c_Mo_state 116 = .ok (.ireturn, 1) := by decide +kernel
theorem d_Mo_state_117 : decode c_Mo_state 117 = .ok (.aload_n 0, 1) := by decide +kernel
theorem d_Mo_state_118 : decode c_Mo_state 118 = .ok (.getfield 28, 3) := by decide +kernel
theorem d_Mo_state_121 : decode c_Mo_state 121 = .ok (.ireturn, 1) := by decide +kernel
theorem d_Mo_state_122 : decode c_Mo_state 122 = .ok (.aload_n 0, 1) := by decide +kernel
theorem d_Mo_state_123 : decode c_Mo_state 123 = .ok (.getfield 32, 3) := by decide +kernel
theorem d_Mo_state_126 : decode c_Mo_state 126 = .ok (.ireturn, 1) := by decide +kernel
theorem d_Mo_state_127 : decode c_Mo_state 127 = .ok (.aload_n 0, 1) := by decide +kernel
theorem d_Mo_state_128 : decode c_Mo_state 128 = .ok (.getfield 191, 3) := by decide +kernel
theorem d_Mo_state_131 : decode c_Mo_state 131 = .ok (.ireturn, 1) := by decide +kernel
theorem d_Mo_state_132 : decode c_Mo_state 132 = .ok (.aload_n 0, 1) := by decide +kernel
theorem d_Mo_state_133 : decode c_Mo_state 133 = .ok (.getfield 74, 3) := by decide +kernel
theorem d_Mo_state_136 : decode c_Mo_state 136 = .ok (.ifCond .le 7, 3) := by decide +kernel
theorem d_Mo_state_139 : decode c_Mo_state 139 = .ok (.iconst 1, 1) := by decide +kernel
theorem d_Mo_state_140 : decode c_Mo_state 140 = .ok (.goto 4, 3) := by decide +kernel
theorem d_Mo_state_143 : decode c_Mo_state 143 = .ok (.iconst 0, 1) := by decide +kernel
theorem d_Mo_state_144 : decode c_Mo_state 144 = .ok (.ireturn, 1) := by decide +kernel
theorem d_Mo_state_145 : decode c_Mo_state 145 = .ok (.aload_n 0, 1) := by decide +kernel
theorem d_Mo_state_146 : decode c_Mo_state 146 = .ok (.getfield 71, 3) := by decide +kernel
theorem d_Mo_state_149 : decode c_Mo_state 149 = .ok (.ireturn, 1) := by decide +kernel
theorem d_Mo_state_150 : decode c_Mo_state 150 = .ok (.aload_n 0, 1) := by decide +kernel
theorem d_Mo_state_151 : decode c_Mo_state 151 = .ok (.getfield 65, 3) := by decide +kernel
theorem d_Mo_state_154 : decode c_Mo_state 154 = .ok (.ireturn, 1) := by decide +kernel
theorem d_Mo_state_155 : decode c_Mo_state 155 = .ok (.aload_n 0, 1) := by decide +kernel
theorem d_Mo_state_156 : decode c_Mo_state 156 = .ok (.getfield 160, 3) := by decide +kernel
theorem d_Mo_state_159 : decode c_Mo_state 159 = .ok (.ireturn, 1) := by decide +kernel
theorem d_Mo_state_160 : decode c_Mo_state 160 = .ok (.aload_n 0, 1) := by decide +kernel
theorem d_Mo_state_161 : decode c_Mo_state 161 = .ok (.getfield 90, 3) := by decide +kernel
theorem d_Mo_state_164 : decode c_Mo_state 164 = .ok (.ifCond .eq 7, 3) := by decide +kernel
theorem d_Mo_state_167 : decode c_Mo_state 167 = .ok (.iconst 1, 1) := by decide +kernel
theorem d_Mo_state_168 : decode c_Mo_state 168 = .ok (.goto 4, 3) := by decide +kernel
theorem d_Mo_state_171 : decode c_Mo_state 171 = .ok (.iconst 0, 1) := by decide +kernel
theorem d_Mo_state_172 : decode c_Mo_state 172 = .ok (.ireturn, 1) := by decide +kernel
theorem d_Mo_state_173 : decode c_Mo_state 173 = .ok (.aload_n 0, 1) := by decide +kernel
theorem d_Mo_state_174 : decode c_Mo_state 174 = .ok (.getfield 93, 3) := by decide +kernel
theorem d_Mo_state_177 : decode c_Mo_state 177 = .ok (.ireturn, 1) := by decide +kernel
theorem d_Mo_state_178 : decode c_Mo_state 178 = .ok (.aload_n 0, 1) := by decide +kernel
theorem d_Mo_state_179 : decode c_Mo_state 179 = .ok (.getfield 96, 3) := by decide +kernel
theorem d_Mo_state_182 : decode c_Mo_state 182 = .ok (.ireturn, 1) := by decide +kernel
theorem d_Mo_state_183 : decode c_Mo_state 183 = .ok (.aload_n 0, 1) := by decide +kernel
theorem d_Mo_state_184 : decode c_Mo_state 184 = .ok (.getfield 108, 3) := by decide +kernel
theorem d_Mo_state_187 : decode c_Mo_state 187 = .ok (.ireturn, 1) := by decide +kernel
theorem d_Mo_state_188 : decode c_Mo_state 188 = .ok (.aload_n 0, 1) := by decide +kernel
theorem d_Mo_state_189 : decode c_Mo_state 189 = .ok (.getfield 111, 3) := by decide +kernel
theorem d_Mo_state_192 : decode c_Mo_state 192 = .ok (.ireturn, 1) := by decide +kernel
theorem d_Mo_state_193 : decode c_Mo_state 193 = .ok (.aload_n 0, 1) := by decide +kernel
theorem d_Mo_state_194 : decode c_Mo_state 194 = .ok (.getfield 99, 3) := by decide +kernel
theorem d_Mo_state_197 : decode c_Mo_state 197 = .ok (.ireturn, 1) := by decide +kernel
theorem d_Mo_state_198 : decode c_Mo_state 198 = .ok (.aload_n 0, 1) := by decide +kernel
theorem d_Mo_state_199 : decode c_Mo_state 199 = .ok (.getfield 120, 3) := by decide +kernel
theorem d_Mo_state_202 : decode c_Mo_state 202 = .ok (.ireturn, 1) := by decide +kernel
theorem d_Mo_state_203 : decode c_Mo_state 203 = .ok (.aload_n 0, 1) := by decide +kernel
theorem d_Mo_state_204 : decode c_Mo_state 204 = .ok (.getfield 126, 3) := by decide +kernel
theorem d_Mo_state_207 : decode c_Mo_state 207 = .ok (.aload_n 0, 1) := by decide +kernel
theorem d_Mo_state_208 : decode c_Mo_state 208 = .ok (.getfield 129, 3) := by decide +kernel
theorem d_Mo_state_211 : decode c_Mo_state 211 = .ok (.isub, 1) := by decide +kernel
theorem d_Mo_state_212 : decode c_Mo_state 212 = .ok (.ireturn, 1) := by decide +kernel
theorem d_Mo_look_0 : decode c_Mo_look 0 = .ok (.iload_n 1, 1) := by decide +kernel
theorem d_Mo_look_1 : decode c_Mo_look 1 = .ok (.iconst 0, 1) := by decide +kernel
theorem d_Mo_look_2 : decode c_Mo_look 2 = .ok (.aload_n 0, 1) := by decide +kernel
theorem d_Mo_look_3 : decode c_Mo_look 3 = .ok (.getfield 28, 3) := by decide +kernel
theorem d_Mo_look_6 : decode c_Mo_look 6 = .ok (.iconst 1, 1) := by decide +kernel
theorem d_Mo_look_7 : decode c_Mo_look 7 = .ok (.isub, 1) := by decide +kernel
theorem d_Mo_look_8 : decode c_Mo_look 8 = .ok (.invokestatic 56, 3) := by decide +kernel
theorem d_Mo_look_11 : decode c_Mo_look 11 = .ok (.ifCond .ne 5, 3) := by decide +kernel
theorem d_Mo_look_14 : decode c_Mo_look 14 = .ok (.iconst (-1), 1) := by decide +kernel
theorem d_Mo_look_15 : decode c_Mo_look 15 = .ok (.ireturn, 1) := by decide +kernel
theorem d_Mo_look_16 : decode c_Mo_look 16 = .ok (.iload_n 2, 1) := by decide +kernel
theorem d_Mo_look_17 : decode c_Mo_look 17 = .ok (.tableswitch 70 0 4 #[35, 42, 49, 56, 63], 35) := by decide +kernel
theorem d_Mo_look_52 : decode c_Mo_look 52 = .ok (.aload_n 0, 1) := by decide +kernel
theorem d_Mo_look_53 : decode c_Mo_look 53 = .ok (.getfield 7, 3) := by decide +kernel
theorem d_Mo_look_56 : decode c_Mo_look 56 = .ok (.iload_n 1, 1) := by decide +kernel
theorem d_Mo_look_57 : decode c_Mo_look 57 = .ok (.iaload, 1) := by decide +kernel
theorem d_Mo_look_58 : decode c_Mo_look 58 = .ok (.ireturn, 1) := by decide +kernel
theorem d_Mo_look_59 : decode c_Mo_look 59 = .ok (.aload_n 0, 1) := by decide +kernel
theorem d_Mo_look_60 : decode c_Mo_look 60 = .ok (.getfield 13, 3) := by decide +kernel
theorem d_Mo_look_63 : decode c_Mo_look 63 = .ok (.iload_n 1, 1) := by decide +kernel
theorem d_Mo_look_64 : decode c_Mo_look 64 = .ok (.iaload, 1) := by decide +kernel
theorem d_Mo_look_65 : decode c_Mo_look 65 = .ok (.ireturn, 1) := by decide +kernel
theorem d_Mo_look_66 : decode c_Mo_look 66 = .ok (.aload_n 0, 1) := by decide +kernel
theorem d_Mo_look_67 : decode c_Mo_look 67 = .ok (.getfield 16, 3) := by decide +kernel
theorem d_Mo_look_70 : decode c_Mo_look 70 = .ok (.iload_n 1, 1) := by decide +kernel
theorem d_Mo_look_71 : decode c_Mo_look 71 = .ok (.iaload, 1) := by decide +kernel
theorem d_Mo_look_72 : decode c_Mo_look 72 = .ok (.ireturn, 1) := by decide +kernel
theorem d_Mo_look_73 : decode c_Mo_look 73 = .ok (.aload_n 0, 1) := by decide +kernel
theorem d_Mo_look_74 : decode c_Mo_look 74 = .ok (.getfield 19, 3) := by decide +kernel
theorem d_Mo_look_77 : decode c_Mo_look 77 = .ok (.iload_n 1, 1) := by decide +kernel
theorem d_Mo_look_78 : decode c_Mo_look 78 = .ok (.iaload, 1) := by decide +kernel
theorem d_Mo_look_79 : decode c_Mo_look 79 = .ok (.ireturn, 1) := by decide +kernel
theorem d_Mo_look_80 : decode c_Mo_look 80 = .ok (.aload_n 0, 1) := by decide +kernel
theorem d_Mo_look_81 : decode c_Mo_look 81 = .ok (.getfield 22, 3) := by decide +kernel
theorem d_Mo_look_84 : decode c_Mo_look 84 = .ok (.iload_n 1, 1) := by decide +kernel
theorem d_Mo_look_85 : decode c_Mo_look 85 = .ok (.iaload, 1) := by decide +kernel
theorem d_Mo_look_86 : decode c_Mo_look 86 = .ok (.ireturn, 1) := by decide +kernel
theorem d_Mo_look_87 : decode c_Mo_look 87 = .ok (.iconst (-1), 1) := by decide +kernel
theorem d_Mo_look_88 : decode c_Mo_look 88 = .ok (.ireturn, 1) := by decide +kernel
