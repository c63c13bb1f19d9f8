/-! the law behind its constructors: words, decode rows, blocks, soundness (by program, wip/gen/gen_law.py) -/
abbrev c_Lw_law : ByteArray := code
theorem wd_274 : Cond.methodLink R_Lw 13 y_Ca_file ∈ rz_tbl := rz_in 274 (by decide +kernel) rfl
theorem wd_275 : Cond.instanceMethod y_Ca_file ∈ rz_tbl := rz_in 275 (by decide +kernel) rfl
theorem wd_276 : Cond.selects R_Ca y_Ca_file y_Ca_file ∈ rz_tbl := rz_in 276 (by decide +kernel) rfl
theorem wd_294 : Cond.methodLink R_Lw 18 y_Ca_tear ∈ rz_tbl := rz_in 294 (by decide +kernel) rfl
theorem wd_295 : Cond.instanceMethod y_Ca_tear ∈ rz_tbl := rz_in 295 (by decide +kernel) rfl
theorem wd_296 : Cond.selects R_Ca y_Ca_tear y_Ca_tear ∈ rz_tbl := rz_in 296 (by decide +kernel) rfl
theorem wd_298 : Cond.methodLink R_Lw 23 y_Ca_on ∈ rz_tbl := rz_in 298 (by decide +kernel) rfl
theorem wd_299 : Cond.instanceMethod y_Ca_on ∈ rz_tbl := rz_in 299 (by decide +kernel) rfl
theorem wd_300 : Cond.selects R_Ca y_Ca_on y_Ca_on ∈ rz_tbl := rz_in 300 (by decide +kernel) rfl
theorem wd_346 : Cond.methodLink R_Lw 28 y_Ca_off ∈ rz_tbl := rz_in 346 (by decide +kernel) rfl
theorem wd_347 : Cond.instanceMethod y_Ca_off ∈ rz_tbl := rz_in 347 (by decide +kernel) rfl
theorem wd_348 : Cond.selects R_Ca y_Ca_off y_Ca_off ∈ rz_tbl := rz_in 348 (by decide +kernel) rfl
theorem wd_350 : Cond.methodLink R_Lw 34 y_Ca_feed ∈ rz_tbl := rz_in 350 (by decide +kernel) rfl
theorem wd_351 : Cond.instanceMethod y_Ca_feed ∈ rz_tbl := rz_in 351 (by decide +kernel) rfl
theorem wd_352 : Cond.selects R_Ca y_Ca_feed y_Ca_feed ∈ rz_tbl := rz_in 352 (by decide +kernel) rfl
theorem wd_585 : Cond.methodLink R_Lw 39 y_Ca_block ∈ rz_tbl := rz_in 585 (by decide +kernel) rfl
theorem wd_586 : Cond.instanceMethod y_Ca_block ∈ rz_tbl := rz_in 586 (by decide +kernel) rfl
theorem wd_587 : Cond.selects R_Ca y_Ca_block y_Ca_block ∈ rz_tbl := rz_in 587 (by decide +kernel) rfl
theorem wd_590 : Cond.methodLink R_Lw 44 y_Ca_reply ∈ rz_tbl := rz_in 590 (by decide +kernel) rfl
theorem wd_591 : Cond.instanceMethod y_Ca_reply ∈ rz_tbl := rz_in 591 (by decide +kernel) rfl
theorem wd_592 : Cond.selects R_Ca y_Ca_reply y_Ca_reply ∈ rz_tbl := rz_in 592 (by decide +kernel) rfl
theorem wd_594 : Cond.methodLink R_Lw 48 y_Ca_stored ∈ rz_tbl := rz_in 594 (by decide +kernel) rfl
theorem wd_595 : Cond.instanceMethod y_Ca_stored ∈ rz_tbl := rz_in 595 (by decide +kernel) rfl
theorem wd_596 : Cond.selects R_Ca y_Ca_stored y_Ca_stored ∈ rz_tbl := rz_in 596 (by decide +kernel) rfl
theorem wd_600 : Cond.methodLink R_Lw 53 y_Ca_state ∈ rz_tbl := rz_in 600 (by decide +kernel) rfl
theorem wd_601 : Cond.instanceMethod y_Ca_state ∈ rz_tbl := rz_in 601 (by decide +kernel) rfl
theorem wd_602 : Cond.selects R_Ca y_Ca_state y_Ca_state ∈ rz_tbl := rz_in 602 (by decide +kernel) rfl
theorem wd_608 : Cond.methodLink R_Lw 57 y_Ca_look ∈ rz_tbl := rz_in 608 (by decide +kernel) rfl
theorem wd_609 : Cond.instanceMethod y_Ca_look ∈ rz_tbl := rz_in 609 (by decide +kernel) rfl
theorem wd_610 : Cond.selects R_Ca y_Ca_look y_Ca_look ∈ rz_tbl := rz_in 610 (by decide +kernel) rfl
theorem wd_731 : Cond.methodLink R_Lw 17 y_Mo_file ∈ rz_tbl := rz_in 731 (by decide +kernel) rfl
theorem wd_732 : Cond.instanceMethod y_Mo_file ∈ rz_tbl := rz_in 732 (by decide +kernel) rfl
theorem wd_733 : Cond.selects R_Mo y_Mo_file y_Mo_file ∈ rz_tbl := rz_in 733 (by decide +kernel) rfl
theorem wd_739 : Cond.methodLink R_Lw 22 y_Mo_tear ∈ rz_tbl := rz_in 739 (by decide +kernel) rfl
theorem wd_740 : Cond.instanceMethod y_Mo_tear ∈ rz_tbl := rz_in 740 (by decide +kernel) rfl
theorem wd_741 : Cond.selects R_Mo y_Mo_tear y_Mo_tear ∈ rz_tbl := rz_in 741 (by decide +kernel) rfl
theorem wd_743 : Cond.methodLink R_Lw 27 y_Mo_on ∈ rz_tbl := rz_in 743 (by decide +kernel) rfl
theorem wd_744 : Cond.instanceMethod y_Mo_on ∈ rz_tbl := rz_in 744 (by decide +kernel) rfl
theorem wd_745 : Cond.selects R_Mo y_Mo_on y_Mo_on ∈ rz_tbl := rz_in 745 (by decide +kernel) rfl
theorem wd_763 : Cond.methodLink R_Lw 31 y_Mo_off ∈ rz_tbl := rz_in 763 (by decide +kernel) rfl
theorem wd_764 : Cond.instanceMethod y_Mo_off ∈ rz_tbl := rz_in 764 (by decide +kernel) rfl
theorem wd_765 : Cond.selects R_Mo y_Mo_off y_Mo_off ∈ rz_tbl := rz_in 765 (by decide +kernel) rfl
theorem wd_767 : Cond.methodLink R_Lw 38 y_Mo_feed ∈ rz_tbl := rz_in 767 (by decide +kernel) rfl
theorem wd_768 : Cond.instanceMethod y_Mo_feed ∈ rz_tbl := rz_in 768 (by decide +kernel) rfl
theorem wd_769 : Cond.selects R_Mo y_Mo_feed y_Mo_feed ∈ rz_tbl := rz_in 769 (by decide +kernel) rfl
theorem wd_837 : Cond.methodLink R_Lw 43 y_Mo_block ∈ rz_tbl := rz_in 837 (by decide +kernel) rfl
theorem wd_838 : Cond.instanceMethod y_Mo_block ∈ rz_tbl := rz_in 838 (by decide +kernel) rfl
theorem wd_839 : Cond.selects R_Mo y_Mo_block y_Mo_block ∈ rz_tbl := rz_in 839 (by decide +kernel) rfl
theorem wd_841 : Cond.methodLink R_Lw 47 y_Mo_reply ∈ rz_tbl := rz_in 841 (by decide +kernel) rfl
theorem wd_842 : Cond.instanceMethod y_Mo_reply ∈ rz_tbl := rz_in 842 (by decide +kernel) rfl
theorem wd_843 : Cond.selects R_Mo y_Mo_reply y_Mo_reply ∈ rz_tbl := rz_in 843 (by decide +kernel) rfl
theorem wd_845 : Cond.methodLink R_Lw 52 y_Mo_stored ∈ rz_tbl := rz_in 845 (by decide +kernel) rfl
theorem wd_846 : Cond.instanceMethod y_Mo_stored ∈ rz_tbl := rz_in 846 (by decide +kernel) rfl
theorem wd_847 : Cond.selects R_Mo y_Mo_stored y_Mo_stored ∈ rz_tbl := rz_in 847 (by decide +kernel) rfl
theorem wd_849 : Cond.methodLink R_Lw 56 y_Mo_state ∈ rz_tbl := rz_in 849 (by decide +kernel) rfl
theorem wd_850 : Cond.instanceMethod y_Mo_state ∈ rz_tbl := rz_in 850 (by decide +kernel) rfl
theorem wd_851 : Cond.selects R_Mo y_Mo_state y_Mo_state ∈ rz_tbl := rz_in 851 (by decide +kernel) rfl
theorem wd_853 : Cond.methodLink R_Lw 60 y_Mo_look ∈ rz_tbl := rz_in 853 (by decide +kernel) rfl
theorem wd_854 : Cond.instanceMethod y_Mo_look ∈ rz_tbl := rz_in 854 (by decide +kernel) rfl
theorem wd_855 : Cond.selects R_Mo y_Mo_look y_Mo_look ∈ rz_tbl := rz_in 855 (by decide +kernel) rfl
theorem wd_857 : Cond.constantLong R_Lw 32 4294967295 ∈ rz_tbl := rz_in 857 (by decide +kernel) rfl
theorem d_Lw_law_0 : decode c_Lw_law 0 = .ok (.new 7, 3) := by decide +kernel
theorem d_Lw_law_3 : decode c_Lw_law 3 = .ok (.dup, 1) := by decide +kernel
theorem d_Lw_law_4 : decode c_Lw_law 4 = .ok (.invokespecial 9, 3) := by decide +kernel
theorem d_Lw_law_7 : decode c_Lw_law 7 = .ok (.astore_n 1, 1) := by decide +kernel
theorem d_Lw_law_8 : decode c_Lw_law 8 = .ok (.new 10, 3) := by decide +kernel
theorem d_Lw_law_11 : decode c_Lw_law 11 = .ok (.dup, 1) := by decide +kernel
theorem d_Lw_law_12 : decode c_Lw_law 12 = .ok (.invokespecial 12, 3) := by decide +kernel
theorem d_Lw_law_15 : decode c_Lw_law 15 = .ok (.astore_n 2, 1) := by decide +kernel
theorem d_Lw_law_16 : decode c_Lw_law 16 = .ok (.iconst 0, 1) := by decide +kernel
theorem d_Lw_law_17 : decode c_Lw_law 17 = .ok (.istore_n 3, 1) := by decide +kernel
theorem d_Lw_law_18 : decode c_Lw_law 18 = .ok (.iload_n 3, 1) := by decide +kernel
theorem d_Lw_law_19 : decode c_Lw_law 19 = .ok (.aload_n 0, 1) := by decide +kernel
theorem d_Lw_law_20 : decode c_Lw_law 20 = .ok (.arraylength, 1) := by decide +kernel
theorem d_Lw_law_21 : decode c_Lw_law 21 = .ok (.bipush 6, 2) := by decide +kernel
theorem d_Lw_law_23 : decode c_Lw_law 23 = .ok (.isub, 1) := by decide +kernel
theorem d_Lw_law_24 : decode c_Lw_law 24 = .ok (.if_icmp .gt 430, 3) := by decide +kernel
theorem d_Lw_law_27 : decode c_Lw_law 27 = .ok (.aload_n 0, 1) := by decide +kernel
theorem d_Lw_law_28 : decode c_Lw_law 28 = .ok (.iload_n 3, 1) := by decide +kernel
theorem d_Lw_law_29 : decode c_Lw_law 29 = .ok (.iaload, 1) := by decide +kernel
theorem d_Lw_law_30 : decode c_Lw_law 30 = .ok (.bipush 15, 2) := by decide +kernel
theorem d_Lw_law_32 : decode c_Lw_law 32 = .ok (.iand, 1) := by decide +kernel
theorem d_Lw_law_33 : decode c_Lw_law 33 = .ok (.tableswitch 415 0 9 #[55, 118, 141, 154, 167, 230, 303, 326, 359, 382], 55) := by decide +kernel
theorem d_Lw_law_88 : decode c_Lw_law 88 = .ok (.aload_n 1, 1) := by decide +kernel
theorem d_Lw_law_89 : decode c_Lw_law 89 = .ok (.aload_n 0, 1) := by decide +kernel
theorem d_Lw_law_90 : decode c_Lw_law 90 = .ok (.iload_n 3, 1) := by decide +kernel
theorem d_Lw_law_91 : decode c_Lw_law 91 = .ok (.iconst 1, 1) := by decide +kernel
theorem d_Lw_law_92 : decode c_Lw_law 92 = .ok (.iadd, 1) := by decide +kernel
theorem d_Lw_law_93 : decode c_Lw_law 93 = .ok (.iaload, 1) := by decide +kernel
theorem d_Lw_law_94 : decode c_Lw_law 94 = .ok (.aload_n 0, 1) := by decide +kernel
theorem d_Lw_law_95 : decode c_Lw_law 95 = .ok (.iload_n 3, 1) := by decide +kernel
theorem d_Lw_law_96 : decode c_Lw_law 96 = .ok (.iconst 2, 1) := by decide +kernel
theorem d_Lw_law_97 : decode c_Lw_law 97 = .ok (.iadd, 1) := by decide +kernel
theorem d_Lw_law_98 : decode c_Lw_law 98 = .ok (.iaload, 1) := by decide +kernel
theorem d_Lw_law_99 : decode c_Lw_law 99 = .ok (.aload_n 0, 1) := by decide +kernel
theorem d_Lw_law_100 : decode c_Lw_law 100 = .ok (.iload_n 3, 1) := by decide +kernel
theorem d_Lw_law_101 : decode c_Lw_law 101 = .ok (.iconst 3, 1) := by decide +kernel
theorem d_Lw_law_102 : decode c_Lw_law 102 = .ok (.iadd, 1) := by decide +kernel
theorem d_Lw_law_103 : decode c_Lw_law 103 = .ok (.iaload, 1) := by decide +kernel
theorem d_Lw_law_104 : decode c_Lw_law 104 = .ok (.aload_n 0, 1) := by decide +kernel
theorem d_Lw_law_105 : decode c_Lw_law 105 = .ok (.iload_n 3, 1) := by decide +kernel
theorem d_Lw_law_106 : decode c_Lw_law 106 = .ok (.iconst 4, 1) := by decide +kernel
theorem d_Lw_law_107 : decode c_Lw_law 107 = .ok (.iadd, 1) := by decide +kernel
theorem d_Lw_law_108 : decode c_Lw_law 108 = .ok (.iaload, 1) := by decide +kernel
theorem d_Lw_law_109 : decode c_Lw_law 109 = .ok (.aload_n 0, 1) := by decide +kernel
theorem d_Lw_law_110 : decode c_Lw_law 110 = .ok (.iload_n 3, 1) := by decide +kernel
theorem d_Lw_law_111 : decode c_Lw_law 111 = .ok (.iconst 5, 1) := by decide +kernel
theorem d_Lw_law_112 : decode c_Lw_law 112 = .ok (.iadd, 1) := by decide +kernel
theorem d_Lw_law_113 : decode c_Lw_law 113 = .ok (.iaload, 1) := by decide +kernel
theorem d_Lw_law_114 : decode c_Lw_law 114 = .ok (.invokevirtual 13, 3) := by decide +kernel
theorem d_Lw_law_117 : decode c_Lw_law 117 = .ok (.aload_n 2, 1) := by decide +kernel
theorem d_Lw_law_118 : decode c_Lw_law 118 = .ok (.aload_n 0, 1) := by decide +kernel
theorem d_Lw_law_119 : decode c_Lw_law 119 = .ok (.iload_n 3, 1) := by decide +kernel
theorem d_Lw_law_120 : decode c_Lw_law 120 = .ok (.iconst 1, 1) := by decide +kernel
theorem d_Lw_law_121 : decode c_Lw_law 121 = .ok (.iadd, 1) := by decide +kernel
theorem d_Lw_law_122 : decode c_Lw_law 122 = .ok (.iaload, 1) := by decide +kernel
theorem d_Lw_law_123 : decode c_Lw_law 123 = .ok (.aload_n 0, 1) := by decide +kernel
theorem d_Lw_law_124 : decode c_Lw_law 124 = .ok (.iload_n 3, 1) := by decide +kernel
theorem d_Lw_law_125 : decode c_Lw_law 125 = .ok (.iconst 2, 1) := by decide +kernel
theorem d_Lw_law_126 : decode c_Lw_law 126 = .ok (.iadd, 1) := by decide +kernel
theorem d_Lw_law_127 : decode c_Lw_law 127 = .ok (.iaload, 1) := by decide +kernel
theorem d_Lw_law_128 : decode c_Lw_law 128 = .ok (.aload_n 0, 1) := by decide +kernel
theorem d_Lw_law_129 : decode c_Lw_law 129 = .ok (.iload_n 3, 1) := by decide +kernel
theorem d_Lw_law_130 : decode c_Lw_law 130 = .ok (.iconst 3, 1) := by decide +kernel
theorem d_Lw_law_131 : decode c_Lw_law 131 = .ok (.iadd, 1) := by decide +kernel
theorem d_Lw_law_132 : decode c_Lw_law 132 = .ok (.iaload, 1) := by decide +kernel
theorem d_Lw_law_133 : decode c_Lw_law 133 = .ok (.aload_n 0, 1) := by decide +kernel
theorem d_Lw_law_134 : decode c_Lw_law 134 = .ok (.iload_n 3, 1) := by decide +kernel
theorem d_Lw_law_135 : decode c_Lw_law 135 = .ok (.iconst 4, 1) := by decide +kernel
theorem d_Lw_law_136 : decode c_Lw_law 136 = .ok (.iadd, 1) := by decide +kernel
theorem d_Lw_law_137 : decode c_Lw_law 137 = .ok (.iaload, 1) := by decide +kernel
theorem d_Lw_law_138 : decode c_Lw_law 138 = .ok (.aload_n 0, 1) := by decide +kernel
theorem d_Lw_law_139 : decode c_Lw_law 139 = .ok (.iload_n 3, 1) := by decide +kernel
theorem d_Lw_law_140 : decode c_Lw_law 140 = .ok (.iconst 5, 1) := by decide +kernel
theorem d_Lw_law_141 : decode c_Lw_law 141 = .ok (.iadd, 1) := by decide +kernel
theorem d_Lw_law_142 : decode c_Lw_law 142 = .ok (.iaload, 1) := by decide +kernel
theorem d_Lw_law_143 : decode c_Lw_law 143 = .ok (.invokevirtual 17, 3) := by decide +kernel
theorem d_Lw_law_146 : decode c_Lw_law 146 = .ok (.if_icmp .eq 302, 3) := by decide +kernel
theorem d_Lw_law_149 : decode c_Lw_law 149 = .ok (.iconst 0, 1) := by decide +kernel
theorem d_Lw_law_150 : decode c_Lw_law 150 = .ok (.ireturn, 1) := by decide +kernel
theorem d_Lw_law_151 : decode c_Lw_law 151 = .ok (.aload_n 1, 1) := by decide +kernel
theorem d_Lw_law_152 : decode c_Lw_law 152 = .ok (.aload_n 0, 1) := by decide +kernel
theorem d_Lw_law_153 : decode c_Lw_law 153 = .ok (.iload_n 3, 1) := by decide +kernel
theorem d_Lw_law_154 : decode c_Lw_law 154 = .ok (.iconst 1, 1) := by decide +kernel
theorem d_Lw_law_155 : decode c_Lw_law 155 = .ok (.iadd, 1) := by decide +kernel
theorem d_Lw_law_156 : decode c_Lw_law 156 = .ok (.iaload, 1) := by decide +kernel
theorem d_Lw_law_157 : decode c_Lw_law 157 = .ok (.invokevirtual 18, 3) := by decide +kernel
theorem d_Lw_law_160 : decode c_Lw_law 160 = .ok (.aload_n 2, 1) := by decide +kernel
theorem d_Lw_law_161 : decode c_Lw_law 161 = .ok (.aload_n 0, 1) := by decide +kernel
theorem d_Lw_law_162 : decode c_Lw_law 162 = .ok (.iload_n 3, 1) := by decide +kernel
theorem d_Lw_law_163 : decode c_Lw_law 163 = .ok (.iconst 1, 1) := by decide +kernel
theorem d_Lw_law_164 : decode c_Lw_law 164 = .ok (.iadd, 1) := by decide +kernel
theorem d_Lw_law_165 : decode c_Lw_law 165 = .ok (.iaload, 1) := by decide +kernel
theorem d_Lw_law_166 : decode c_Lw_law 166 = .ok (.invokevirtual 22, 3) := by decide +kernel
theorem d_Lw_law_169 : decode c_Lw_law 169 = .ok (.if_icmp .eq 279, 3) := by decide +kernel
theorem d_Lw_law_172 : decode c_Lw_law 172 = .ok (.iconst 0, 1) := by decide +kernel
theorem d_Lw_law_173 : decode c_Lw_law 173 = .ok (.ireturn, 1) := by decide +kernel
theorem d_Lw_law_174 : decode c_Lw_law 174 = .ok (.aload_n 1, 1) := by decide +kernel
theorem d_Lw_law_175 : decode c_Lw_law 175 = .ok (.invokevirtual 23, 3) := by decide +kernel
theorem d_Lw_law_178 : decode c_Lw_law 178 = .ok (.aload_n 2, 1) := by decide +kernel
theorem d_Lw_law_179 : decode c_Lw_law 179 = .ok (.invokevirtual 27, 3) := by decide +kernel
theorem d_Lw_law_182 : decode c_Lw_law 182 = .ok (.if_icmp .eq 266, 3) := by decide +kernel
theorem d_Lw_law_185 : decode c_Lw_law 185 = .ok (.iconst 0, 1) := by decide +kernel
theorem d_Lw_law_186 : decode c_Lw_law 186 = .ok (.ireturn, 1) := by decide +kernel
theorem d_Lw_law_187 : decode c_Lw_law 187 = .ok (.aload_n 1, 1) := by decide +kernel
theorem d_Lw_law_188 : decode c_Lw_law 188 = .ok (.invokevirtual 28, 3) := by decide +kernel
theorem d_Lw_law_191 : decode c_Lw_law 191 = .ok (.aload_n 2, 1) := by decide +kernel
theorem d_Lw_law_192 : decode c_Lw_law 192 = .ok (.invokevirtual 31, 3) := by decide +kernel
theorem d_Lw_law_195 : decode c_Lw_law 195 = .ok (.if_icmp .eq 253, 3) := by decide +kernel
theorem d_Lw_law_198 : decode c_Lw_law 198 = .ok (.iconst 0, 1) := by decide +kernel
theorem d_Lw_law_199 : decode c_Lw_law 199 = .ok (.ireturn, 1) := by decide +kernel
theorem d_Lw_law_200 : decode c_Lw_law 200 = .ok (.aload_n 1, 1) := by decide +kernel
theorem d_Lw_law_201 : decode c_Lw_law 201 = .ok (.aload_n 0, 1) := by decide +kernel
theorem d_Lw_law_202 : decode c_Lw_law 202 = .ok (.iload_n 3, 1) := by decide +kernel
theorem d_Lw_law_203 : decode c_Lw_law 203 = .ok (.iconst 1, 1) := by decide +kernel
theorem d_Lw_law_204 : decode c_Lw_law 204 = .ok (.iadd, 1) := by decide +kernel
theorem d_Lw_law_205 : decode c_Lw_law 205 = .ok (.iaload, 1) := by decide +kernel
theorem d_Lw_law_206 : decode c_Lw_law 206 = .ok (.i2l, 1) := by decide +kernel
theorem d_Lw_law_207 : decode c_Lw_law 207 = .ok (.bipush 32, 2) := by decide +kernel
theorem d_Lw_law_209 : decode c_Lw_law 209 = .ok (.lshl, 1) := by decide +kernel
theorem d_Lw_law_210 : decode c_Lw_law 210 = .ok (.aload_n 0, 1) := by decide +kernel
theorem d_Lw_law_211 : decode c_Lw_law 211 = .ok (.iload_n 3, 1) := by decide +kernel
theorem d_Lw_law_212 : decode c_Lw_law 212 = .ok (.iconst 2, 1) := by decide +kernel
theorem d_Lw_law_213 : decode c_Lw_law 213 = .ok (.iadd, 1) := by decide +kernel
theorem d_Lw_law_214 : decode c_Lw_law 214 = .ok (.iaload, 1) := by decide +kernel
theorem d_Lw_law_215 : decode c_Lw_law 215 = .ok (.i2l, 1) := by decide +kernel
theorem d_Lw_law_216 : decode c_Lw_law 216 = .ok (.ldc2_w 32, 3) := by decide +kernel
theorem d_Lw_law_219 : decode c_Lw_law 219 = .ok (.land, 1) := by decide +kernel
theorem d_Lw_law_220 : decode c_Lw_law 220 = .ok (.lor, 1) := by decide +kernel
theorem d_Lw_law_221 : decode c_Lw_law 221 = .ok (.aload_n 0, 1) := by decide +kernel
theorem d_Lw_law_222 : decode c_Lw_law 222 = .ok (.iload_n 3, 1) := by decide +kernel
theorem d_Lw_law_223 : decode c_Lw_law 223 = .ok (.iconst 3, 1) := by decide +kernel
theorem d_Lw_law_224 : decode c_Lw_law 224 = .ok (.iadd, 1) := by decide +kernel
theorem d_Lw_law_225 : decode c_Lw_law 225 = .ok (.iaload, 1) := by decide +kernel
theorem d_Lw_law_226 : decode c_Lw_law 226 = .ok (.invokevirtual 34, 3) := by decide +kernel
theorem d_Lw_law_229 : decode c_Lw_law 229 = .ok (.aload_n 2, 1) := by decide +kernel
theorem d_Lw_law_230 : decode c_Lw_law 230 = .ok (.aload_n 0, 1) := by decide +kernel
theorem d_Lw_law_231 : decode c_Lw_law 231 = .ok (.iload_n 3, 1) := by decide +kernel
theorem d_Lw_law_232 : decode c_Lw_law 232 = .ok (.iconst 1, 1) := by decide +kernel
theorem d_Lw_law_233 : decode c_Lw_law 233 = .ok (.iadd, 1) := by decide +kernel
theorem d_Lw_law_234 : decode c_Lw_law 234 = .ok (.iaload, 1) := by decide +kernel
theorem d_Lw_law_235 : decode c_Lw_law 235 = .ok (.i2l, 1) := by decide +kernel
theorem d_Lw_law_236 : decode c_Lw_law 236 = .ok (.bipush 32, 2) := by decide +kernel
theorem d_Lw_law_238 : decode c_Lw_law 238 = .ok (.lshl, 1) := by decide +kernel
theorem d_Lw_law_239 : decode c_Lw_law 239 = .ok (.aload_n 0, 1) := by decide +kernel
theorem d_Lw_law_240 : decode c_Lw_law 240 = .ok (.iload_n 3, 1) := by decide +kernel
theorem d_Lw_law_241 : decode c_Lw_law 241 = .ok (.iconst 2, 1) := by decide +kernel
theorem d_Lw_law_242 : decode c_Lw_law 242 = .ok (.iadd, 1) := by decide +kernel
theorem d_Lw_law_243 : decode c_Lw_law 243 = .ok (.iaload, 1) := by decide +kernel
theorem d_Lw_law_244 : decode c_Lw_law 244 = .ok (.i2l, 1) := by decide +kernel
theorem d_Lw_law_245 : decode c_Lw_law 245 = .ok (.ldc2_w 32, 3) := by decide +kernel
theorem d_Lw_law_248 : decode c_Lw_law 248 = .ok (.land, 1) := by decide +kernel
theorem d_Lw_law_249 : decode c_Lw_law 249 = .ok (.lor, 1) := by decide +kernel
theorem d_Lw_law_250 : decode c_Lw_law 250 = .ok (.aload_n 0, 1) := by decide +kernel
theorem d_Lw_law_251 : decode c_Lw_law 251 = .ok (.iload_n 3, 1) := by decide +kernel
theorem d_Lw_law_252 : decode c_Lw_law 252 = .ok (.iconst 3, 1) := by decide +kernel
theorem d_Lw_law_253 : decode c_Lw_law 253 = .ok (.iadd, 1) := by decide +kernel
theorem d_Lw_law_254 : decode c_Lw_law 254 = .ok (.iaload, 1) := by decide +kernel
theorem d_Lw_law_255 : decode c_Lw_law 255 = .ok (.invokevirtual 38, 3) := by decide +kernel
theorem d_Lw_law_258 : decode c_Lw_law 258 = .ok (.if_icmp .eq 190, 3) := by decide +kernel
theorem d_Lw_law_261 : decode c_Lw_law 261 = .ok (.iconst 0, 1) := by decide +kernel
theorem d_Lw_law_262 : decode c_Lw_law 262 = .ok (.ireturn, 1) := by decide +kernel
theorem d_Lw_law_263 : decode c_Lw_law 263 = .ok (.aload_n 1, 1) := by decide +kernel
theorem d_Lw_law_264 : decode c_Lw_law 264 = .ok (.aload_n 0, 1) := by decide +kernel
theorem d_Lw_law_265 : decode c_Lw_law 265 = .ok (.iload_n 3, 1) := by decide +kernel
theorem d_Lw_law_266 : decode c_Lw_law 266 = .ok (.iconst 1, 1) := by decide +kernel
theorem d_Lw_law_267 : decode c_Lw_law 267 = .ok (.iadd, 1) := by decide +kernel
theorem d_Lw_law_268 : decode c_Lw_law 268 = .ok (.iaload, 1) := by decide +kernel
theorem d_Lw_law_269 : decode c_Lw_law 269 = .ok (.aload_n 0, 1) := by decide +kernel
theorem d_Lw_law_270 : decode c_Lw_law 270 = .ok (.iload_n 3, 1) := by decide +kernel
theorem d_Lw_law_271 : decode c_Lw_law 271 = .ok (.iconst 2, 1) := by decide +kernel
theorem d_Lw_law_272 : decode c_Lw_law 272 = .ok (.iadd, 1) := by decide +kernel
theorem d_Lw_law_273 : decode c_Lw_law 273 = .ok (.iaload, 1) := by decide +kernel
theorem d_Lw_law_274 : decode c_Lw_law 274 = .ok (.i2l, 1) := by decide +kernel
theorem d_Lw_law_275 : decode c_Lw_law 275 = .ok (.bipush 32, 2) := by decide +kernel
theorem d_Lw_law_277 : decode c_Lw_law 277 = .ok (.lshl, 1) := by decide +kernel
theorem d_Lw_law_278 : decode c_Lw_law 278 = .ok (.aload_n 0, 1) := by decide +kernel
theorem d_Lw_law_279 : decode c_Lw_law 279 = .ok (.iload_n 3, 1) := by decide +kernel
theorem d_Lw_law_280 : decode c_Lw_law 280 = .ok (.iconst 3, 1) := by decide +kernel
theorem d_Lw_law_281 : decode c_Lw_law 281 = .ok (.iadd, 1) := by decide +kernel
theorem d_Lw_law_282 : decode c_Lw_law 282 = .ok (.iaload, 1) := by decide +kernel
theorem d_Lw_law_283 : decode c_Lw_law 283 = .ok (.i2l, 1) := by decide +kernel
theorem d_Lw_law_284 : decode c_Lw_law 284 = .ok (.ldc2_w 32, 3) := by decide +kernel
theorem d_Lw_law_287 : decode c_Lw_law 287 = .ok (.land, 1) := by decide +kernel
theorem d_Lw_law_288 : decode c_Lw_law 288 = .ok (.lor, 1) := by decide +kernel
theorem d_Lw_law_289 : decode c_Lw_law 289 = .ok (.aload_n 0, 1) := by decide +kernel
theorem d_Lw_law_290 : decode c_Lw_law 290 = .ok (.iload_n 3, 1) := by decide +kernel
theorem d_Lw_law_291 : decode c_Lw_law 291 = .ok (.iconst 4, 1) := by decide +kernel
theorem d_Lw_law_292 : decode c_Lw_law 292 = .ok (.iadd, 1) := by decide +kernel
theorem d_Lw_law_293 : decode c_Lw_law 293 = .ok (.iaload, 1) := by decide +kernel
theorem d_Lw_law_294 : decode c_Lw_law 294 = .ok (.invokevirtual 39, 3) := by decide +kernel
theorem d_Lw_law_297 : decode c_Lw_law 297 = .ok (.aload_n 2, 1) := by decide +kernel
theorem d_Lw_law_298 : decode c_Lw_law 298 = .ok (.aload_n 0, 1) := by decide +kernel
theorem d_Lw_law_299 : decode c_Lw_law 299 = .ok (.iload_n 3, 1) := by decide +kernel
theorem d_Lw_law_300 : decode c_Lw_law 300 = .ok (.iconst 1, 1) := by decide +kernel
theorem d_Lw_law_301 : decode c_Lw_law 301 = .ok (.iadd, 1) := by decide +kernel
theorem d_Lw_law_302 : decode c_Lw_law 302 = .ok (.iaload, 1) := by decide +kernel
theorem d_Lw_law_303 : decode c_Lw_law 303 = .ok (.aload_n 0, 1) := by decide +kernel
theorem d_Lw_law_304 : decode c_Lw_law 304 = .ok (.iload_n 3, 1) := by decide +kernel
theorem d_Lw_law_305 : decode c_Lw_law 305 = .ok (.iconst 2, 1) := by decide +kernel
theorem d_Lw_law_306 : decode c_Lw_law 306 = .ok (.iadd, 1) := by decide +kernel
theorem d_Lw_law_307 : decode c_Lw_law 307 = .ok (.iaload, 1) := by decide +kernel
theorem d_Lw_law_308 : decode c_Lw_law 308 = .ok (.i2l, 1) := by decide +kernel
theorem d_Lw_law_309 : decode c_Lw_law 309 = .ok (.bipush 32, 2) := by decide +kernel
theorem d_Lw_law_311 : decode c_Lw_law 311 = .ok (.lshl, 1) := by decide +kernel
theorem d_Lw_law_312 : decode c_Lw_law 312 = .ok (.aload_n 0, 1) := by decide +kernel
theorem d_Lw_law_313 : decode c_Lw_law 313 = .ok (.iload_n 3, 1) := by decide +kernel
theorem d_Lw_law_314 : decode c_Lw_law 314 = .ok (.iconst 3, 1) := by decide +kernel
theorem d_Lw_law_315 : decode c_Lw_law 315 = .ok (.iadd, 1) := by decide +kernel
theorem d_Lw_law_316 : decode c_Lw_law 316 = .ok (.iaload, 1) := by decide +kernel
theorem d_Lw_law_317 : decode c_Lw_law 317 = .ok (.i2l, 1) := by decide +kernel
theorem d_Lw_law_318 : decode c_Lw_law 318 = .ok (.ldc2_w 32, 3) := by decide +kernel
theorem d_Lw_law_321 : decode c_Lw_law 321 = .ok (.land, 1) := by decide +kernel
theorem d_Lw_law_322 : decode c_Lw_law 322 = .ok (.lor, 1) := by decide +kernel
theorem d_Lw_law_323 : decode c_Lw_law 323 = .ok (.aload_n 0, 1) := by decide +kernel
theorem d_Lw_law_324 : decode c_Lw_law 324 = .ok (.iload_n 3, 1) := by decide +kernel
theorem d_Lw_law_325 : decode c_Lw_law 325 = .ok (.iconst 4, 1) := by decide +kernel
theorem d_Lw_law_326 : decode c_Lw_law 326 = .ok (.iadd, 1) := by decide +kernel
theorem d_Lw_law_327 : decode c_Lw_law 327 = .ok (.iaload, 1) := by decide +kernel
theorem d_Lw_law_328 : decode c_Lw_law 328 = .ok (.invokevirtual 43, 3) := by decide +kernel
theorem d_Lw_law_331 : decode c_Lw_law 331 = .ok (.if_icmp .eq 117, 3) := by decide +kernel
theorem d_Lw_law_334 : decode c_Lw_law 334 = .ok (.iconst 0, 1) := by decide +kernel
theorem d_Lw_law_335 : decode c_Lw_law 335 = .ok (.ireturn, 1) := by decide +kernel
theorem d_Lw_law_336 : decode c_Lw_law 336 = .ok (.aload_n 1, 1) := by decide +kernel
theorem d_Lw_law_337 : decode c_Lw_law 337 = .ok (.aload_n 0, 1) := by decide +kernel
theorem d_Lw_law_338 : decode c_Lw_law 338 = .ok (.iload_n 3, 1) := by decide +kernel
theorem d_Lw_law_339 : decode c_Lw_law 339 = .ok (.iconst 1, 1) := by decide +kernel
theorem d_Lw_law_340 : decode c_Lw_law 340 = .ok (.iadd, 1) := by decide +kernel
theorem d_Lw_law_341 : decode c_Lw_law 341 = .ok (.iaload, 1) := by decide +kernel
theorem d_Lw_law_342 : decode c_Lw_law 342 = .ok (.invokevirtual 44, 3) := by decide +kernel
theorem d_Lw_law_345 : decode c_Lw_law 345 = .ok (.aload_n 2, 1) := by decide +kernel
theorem d_Lw_law_346 : decode c_Lw_law 346 = .ok (.aload_n 0, 1) := by decide +kernel
theorem d_Lw_law_347 : decode c_Lw_law 347 = .ok (.iload_n 3, 1) := by decide +kernel
theorem d_Lw_law_348 : decode c_Lw_law 348 = .ok (.iconst 1, 1) := by decide +kernel
theorem d_Lw_law_349 : decode c_Lw_law 349 = .ok (.iadd, 1) := by decide +kernel
theorem d_Lw_law_350 : decode c_Lw_law 350 = .ok (.iaload, 1) := by decide +kernel
theorem d_Lw_law_351 : decode c_Lw_law 351 = .ok (.invokevirtual 47, 3) := by decide +kernel
theorem d_Lw_law_354 : decode c_Lw_law 354 = .ok (.if_icmp .eq 94, 3) := by decide +kernel
theorem d_Lw_law_357 : decode c_Lw_law 357 = .ok (.iconst 0, 1) := by decide +kernel
theorem d_Lw_law_358 : decode c_Lw_law 358 = .ok (.ireturn, 1) := by decide +kernel
theorem d_Lw_law_359 : decode c_Lw_law 359 = .ok (.aload_n 1, 1) := by decide +kernel
theorem d_Lw_law_360 : decode c_Lw_law 360 = .ok (.aload_n 0, 1) := by decide +kernel
theorem d_Lw_law_361 : decode c_Lw_law 361 = .ok (.iload_n 3, 1) := by decide +kernel
theorem d_Lw_law_362 : decode c_Lw_law 362 = .ok (.iconst 1, 1) := by decide +kernel
theorem d_Lw_law_363 : decode c_Lw_law 363 = .ok (.iadd, 1) := by decide +kernel
theorem d_Lw_law_364 : decode c_Lw_law 364 = .ok (.iaload, 1) := by decide +kernel
theorem d_Lw_law_365 : decode c_Lw_law 365 = .ok (.aload_n 0, 1) := by decide +kernel
theorem d_Lw_law_366 : decode c_Lw_law 366 = .ok (.iload_n 3, 1) := by decide +kernel
theorem d_Lw_law_367 : decode c_Lw_law 367 = .ok (.iconst 2, 1) := by decide +kernel
theorem d_Lw_law_368 : decode c_Lw_law 368 = .ok (.iadd, 1) := by decide +kernel
theorem d_Lw_law_369 : decode c_Lw_law 369 = .ok (.iaload, 1) := by decide +kernel
theorem d_Lw_law_370 : decode c_Lw_law 370 = .ok (.invokevirtual 48, 3) := by decide +kernel
theorem d_Lw_law_373 : decode c_Lw_law 373 = .ok (.aload_n 2, 1) := by decide +kernel
theorem d_Lw_law_374 : decode c_Lw_law 374 = .ok (.aload_n 0, 1) := by decide +kernel
theorem d_Lw_law_375 : decode c_Lw_law 375 = .ok (.iload_n 3, 1) := by decide +kernel
theorem d_Lw_law_376 : decode c_Lw_law 376 = .ok (.iconst 1, 1) := by decide +kernel
theorem d_Lw_law_377 : decode c_Lw_law 377 = .ok (.iadd, 1) := by decide +kernel
theorem d_Lw_law_378 : decode c_Lw_law 378 = .ok (.iaload, 1) := by decide +kernel
theorem d_Lw_law_379 : decode c_Lw_law 379 = .ok (.aload_n 0, 1) := by decide +kernel
theorem d_Lw_law_380 : decode c_Lw_law 380 = .ok (.iload_n 3, 1) := by decide +kernel
theorem d_Lw_law_381 : decode c_Lw_law 381 = .ok (.iconst 2, 1) := by decide +kernel
theorem d_Lw_law_382 : decode c_Lw_law 382 = .ok (.iadd, 1) := by decide +kernel
theorem d_Lw_law_383 : decode c_Lw_law 383 = .ok (.iaload, 1) := by decide +kernel
theorem d_Lw_law_384 : decode c_Lw_law 384 = .ok (.invokevirtual 52, 3) := by decide +kernel
theorem d_Lw_law_387 : decode c_Lw_law 387 = .ok (.if_icmp .eq 61, 3) := by decide +kernel
theorem d_Lw_law_390 : decode c_Lw_law 390 = .ok (.iconst 0, 1) := by decide +kernel
theorem d_Lw_law_391 : decode c_Lw_law 391 = .ok (.ireturn, 1) := by decide +kernel
theorem d_Lw_law_392 : decode c_Lw_law 392 = .ok (.aload_n 1, 1) := by decide +kernel
theorem d_Lw_law_393 : decode c_Lw_law 393 = .ok (.aload_n 0, 1) := by decide +kernel
theorem d_Lw_law_394 : decode c_Lw_law 394 = .ok (.iload_n 3, 1) := by decide +kernel
theorem d_Lw_law_395 : decode c_Lw_law 395 = .ok (.iconst 1, 1) := by decide +kernel
theorem d_Lw_law_396 : decode c_Lw_law 396 = .ok (.iadd, 1) := by decide +kernel
theorem d_Lw_law_397 : decode c_Lw_law 397 = .ok (.iaload, 1) := by decide +kernel
theorem d_Lw_law_398 : decode c_Lw_law 398 = .ok (.invokevirtual 53, 3) := by decide +kernel
theorem d_Lw_law_401 : decode c_Lw_law 401 = .ok (.aload_n 2, 1) := by decide +kernel
theorem d_Lw_law_402 : decode c_Lw_law 402 = .ok (.aload_n 0, 1) := by decide +kernel
theorem d_Lw_law_403 : decode c_Lw_law 403 = .ok (.iload_n 3, 1) := by decide +kernel
theorem d_Lw_law_404 : decode c_Lw_law 404 = .ok (.iconst 1, 1) := by decide +kernel
theorem d_Lw_law_405 : decode c_Lw_law 405 = .ok (.iadd, 1) := by decide +kernel
theorem d_Lw_law_406 : decode c_Lw_law 406 = .ok (.iaload, 1) := by decide +kernel
theorem d_Lw_law_407 : decode c_Lw_law 407 = .ok (.invokevirtual 56, 3) := by decide +kernel
theorem d_Lw_law_410 : decode c_Lw_law 410 = .ok (.if_icmp .eq 38, 3) := by decide +kernel
theorem d_Lw_law_413 : decode c_Lw_law 413 = .ok (.iconst 0, 1) := by decide +kernel
theorem d_Lw_law_414 : decode c_Lw_law 414 = .ok (.ireturn, 1) := by decide +kernel
theorem d_Lw_law_415 : decode c_Lw_law 415 = .ok (.aload_n 1, 1) := by decide +kernel
theorem d_Lw_law_416 : decode c_Lw_law 416 = .ok (.aload_n 0, 1) := by decide +kernel
theorem d_Lw_law_417 : decode c_Lw_law 417 = .ok (.iload_n 3, 1) := by decide +kernel
theorem d_Lw_law_418 : decode c_Lw_law 418 = .ok (.iconst 1, 1) := by decide +kernel
theorem d_Lw_law_419 : decode c_Lw_law 419 = .ok (.iadd, 1) := by decide +kernel
theorem d_Lw_law_420 : decode c_Lw_law 420 = .ok (.iaload, 1) := by decide +kernel
theorem d_Lw_law_421 : decode c_Lw_law 421 = .ok (.aload_n 0, 1) := by decide +kernel
theorem d_Lw_law_422 : decode c_Lw_law 422 = .ok (.iload_n 3, 1) := by decide +kernel
theorem d_Lw_law_423 : decode c_Lw_law 423 = .ok (.iconst 2, 1) := by decide +kernel
theorem d_Lw_law_424 : decode c_Lw_law 424 = .ok (.iadd, 1) := by decide +kernel
theorem d_Lw_law_425 : decode c_Lw_law 425 = .ok (.iaload, 1) := by decide +kernel
theorem d_Lw_law_426 : decode c_Lw_law 426 = .ok (.invokevirtual 57, 3) := by decide +kernel
theorem d_Lw_law_429 : decode c_Lw_law 429 = .ok (.aload_n 2, 1) := by decide +kernel
theorem d_Lw_law_430 : decode c_Lw_law 430 = .ok (.aload_n 0, 1) := by decide +kernel
theorem d_Lw_law_431 : decode c_Lw_law 431 = .ok (.iload_n 3, 1) := by decide +kernel
theorem d_Lw_law_432 : decode c_Lw_law 432 = .ok (.iconst 1, 1) := by decide +kernel
theorem d_Lw_law_433 : decode c_Lw_law 433 = .ok (.iadd, 1) := by decide +kernel
theorem d_Lw_law_434 : decode c_Lw_law 434 = .ok (.iaload, 1) := by decide +kernel
theorem d_Lw_law_435 : decode c_Lw_law 435 = .ok (.aload_n 0, 1) := by decide +kernel
theorem d_Lw_law_436 : decode c_Lw_law 436 = .ok (.iload_n 3, 1) := by decide +kernel
theorem d_Lw_law_437 : decode c_Lw_law 437 = .ok (.iconst 2, 1) := by decide +kernel
theorem d_Lw_law_438 : decode c_Lw_law 438 = .ok (.iadd, 1) := by decide +kernel
theorem d_Lw_law_439 : decode c_Lw_law 439 = .ok (.iaload, 1) := by decide +kernel
theorem d_Lw_law_440 : decode c_Lw_law 440 = .ok (.invokevirtual 60, 3) := by decide +kernel
theorem d_Lw_law_443 : decode c_Lw_law 443 = .ok (.if_icmp .eq 5, 3) := by decide +kernel
theorem d_Lw_law_446 : decode c_Lw_law 446 = .ok (.iconst 0, 1) := by decide +kernel
theorem d_Lw_law_447 : decode c_Lw_law 447 = .ok (.ireturn, 1) := by decide +kernel
theorem d_Lw_law_448 : decode c_Lw_law 448 = .ok (.iinc 3 6, 3) := by decide +kernel
theorem d_Lw_law_451 : decode c_Lw_law 451 = .ok (.goto (-433), 3) := by decide +kernel
theorem d_Lw_law_454 : decode c_Lw_law 454 = .ok (.iconst 1, 1) := by decide +kernel
theorem d_Lw_law_455 : decode c_Lw_law 455 = .ok (.ireturn, 1) := by decide +kernel
/-! the script's array stands in the embedding as the reference 1000 -/
def rz_Sc (X : rz_X) (b L : Nat) (xs : Nat → Int32) : Prop := match X with
  | ((_, _, ad, _, N0), _, _, _, s, _, _, _, _, _, _, _, _, _) => va_X b L xs s s.heap ∧ b < s.heap.size ∧ N0 = s.heap.size ∧ ad 1000 = b
def tz_sld (L : Nat) (xs : Nat → Int32) : rz_T := fun _ _ K ls st μ => match st with
  | .int i :: .ref k :: r => (match Nat.beq k 1000 with
    | true => vp_in i L ∧ K ls (.int (xs i.toNatClampNeg) :: r) μ
    | false => False)
  | _ => False
def tz_slen (L : Nat) : rz_T := fun _ _ K ls st μ => match st with
  | .ref k :: r => (match Nat.beq k 1000 with
    | true => K ls (.int (nI L) :: r) μ
    | false => False)
  | _ => False
def tz_lret : rz_T := fun P _ _ _ st μ => match st with
  | [.int v] => v = 1 ∧ P (some (.int v)) μ
  | _ => False
section RZL
variable {sh : List rz_Sh} {cl : List vw_C} {X : rz_X} {bp : Nat → Nat} {RT : rz_P → Prop} {pc : Nat} {cc : ByteArray} {n : Nat} {Ts : List Cond} {own : String} {rm : Room} {b L : Nat} {xs : Nat → Int32}
theorem rz_sld (G : rz_Cx cl X cc n Ts own rm) (S : rz_Sc X b L xs) (hd : decode cc pc = .ok (.iaload, 1)) : rz_Snd sh cl X bp RT (tz_sld L xs) pc (pc + 1) := by
  obtain ⟨⟨l, D, ad, cA, N0⟩, p, e, R, s, m, args, below, meth, c, Q, cells, slots, nL⟩ := X
  obtain ⟨⟨hx, hb, hml, hown, hts⟩, hK, hN, hce, hsl, hRm, hnL, hNw⟩ := G
  obtain ⟨hX, hbl, hN0, had⟩ := S
  intro P J K hR hJ hk ls st μ h
  unfold tz_sld at h
  split at h
  · next i k r =>
    split at h
    · next hq =>
      have : k = 1000 := Nat.eq_of_beq_eq_true hq
      subst this
      intro la H locs hl hP hD hS
      show W p l e R s m args below meth c H locs cells slots Q (F0 m pc la (.int i :: .ref (ad 1000) :: r.map (rz_v ad)))
      rw [had]
      exact va_sld hx hb hX hbl (by show ¬ N0 ≤ b; omega) hS h.1 hd (hk _ _ _ h.2 la H locs hl hP hD hS)
    · exact h.elim
  · exact h.elim
theorem rz_slen (G : rz_Cx cl X cc n Ts own rm) (S : rz_Sc X b L xs) (hd : decode cc pc = .ok (.arraylength, 1)) : rz_Snd sh cl X bp RT (tz_slen L) pc (pc + 1) := by
  obtain ⟨⟨l, D, ad, cA, N0⟩, p, e, R, s, m, args, below, meth, c, Q, cells, slots, nL⟩ := X
  obtain ⟨⟨hx, hb, hml, hown, hts⟩, hK, hN, hce, hsl, hRm, hnL, hNw⟩ := G
  obtain ⟨hX, hbl, hN0, had⟩ := S
  intro P J K hR hJ hk ls st μ h
  unfold tz_slen at h
  split at h
  · next k r =>
    split at h
    · next hq =>
      have : k = 1000 := Nat.eq_of_beq_eq_true hq
      subst this
      intro la H locs hl hP hD hS
      show W p l e R s m args below meth c H locs cells slots Q (F0 m pc la (.ref (ad 1000) :: r.map (rz_v ad)))
      rw [had]
      exact va_slen hx hb hX hbl (by show ¬ N0 ≤ b; omega) hS hd (hk _ _ _ h la H locs hl hP hD hS)
    · exact h.elim
  · exact h.elim
theorem rz_lret {npc : Nat} (hd : decode cc pc = .ok (.ireturn, 1)) : rz_Snd sh cl X bp (rz_RI sh cl X cc (fun v => v = 1)) tz_lret pc npc := by
  intro P J K hR hJ hk ls st μ h
  unfold tz_lret at h
  split at h
  · exact hR pc _ ls μ hd h.1 h.2
  · exact h.elim
end RZL
def bk_Lw (L : Nat) (xs : Nat → Int32) : Nat → List rz_T := fun b => match b with
  | 0 => [tz_iconst 0, tz_istore 3, tz_fall 1]
  | 1 => [tz_iload 3, tz_aload 0, tz_slen L, tz_bipush 6, tz_isub, tz_icmp_gt 13, tz_aload 0, tz_iload 3, tz_sld L xs, tz_bipush 15, tz_iand, tz_sw [(0, 2), (1, 3), (2, 4), (3, 5), (4, 6), (5, 7), (6, 8), (7, 9), (8, 10), (9, 11)] 12]
  | 2 => [tz_aload 1, tz_aload 0, tz_iload 3, tz_iconst 1, tz_iadd, tz_sld L xs, tz_aload 0, tz_iload 3, tz_iconst 2, tz_iadd, tz_sld L xs, tz_aload 0, tz_iload 3, tz_iconst 3, tz_iadd, tz_sld L xs, tz_aload 0, tz_iload 3, tz_iconst 4, tz_iadd, tz_sld L xs, tz_aload 0, tz_iload 3, tz_iconst 5, tz_iadd, tz_sld L xs, tz_cv SH 5 6 7 C_Ca_file, tz_aload 2, tz_aload 0, tz_iload 3, tz_iconst 1, tz_iadd, tz_sld L xs, tz_aload 0, tz_iload 3, tz_iconst 2, tz_iadd, tz_sld L xs, tz_aload 0, tz_iload 3, tz_iconst 3, tz_iadd, tz_sld L xs, tz_aload 0, tz_iload 3, tz_iconst 4, tz_iadd, tz_sld L xs, tz_aload 0, tz_iload 3, tz_iconst 5, tz_iadd, tz_sld L xs, tz_cv SH 5 7 8 C_Mo_file, tz_icmp_eq 12, tz_iconst 0, tz_lret]
  | 3 => [tz_aload 1, tz_aload 0, tz_iload 3, tz_iconst 1, tz_iadd, tz_sld L xs, tz_cv SH 1 6 3 C_Ca_tear, tz_aload 2, tz_aload 0, tz_iload 3, tz_iconst 1, tz_iadd, tz_sld L xs, tz_cv SH 1 7 3 C_Mo_tear, tz_icmp_eq 12, tz_iconst 0, tz_lret]
  | 4 => [tz_aload 1, tz_cv SH 0 6 1 C_Ca_on, tz_aload 2, tz_cv SH 0 7 2 C_Mo_on, tz_icmp_eq 12, tz_iconst 0, tz_lret]
  | 5 => [tz_aload 1, tz_cv SH 0 6 2 C_Ca_off, tz_aload 2, tz_cv SH 0 7 1 C_Mo_off, tz_icmp_eq 12, tz_iconst 0, tz_lret]
  | 6 => [tz_aload 1, tz_aload 0, tz_iload 3, tz_iconst 1, tz_iadd, tz_sld L xs, tz_i2l, tz_bipush 32, tz_lshl, tz_aload 0, tz_iload 3, tz_iconst 2, tz_iadd, tz_sld L xs, tz_i2l, tz_ldc2 4294967295, tz_land, tz_lor, tz_aload 0, tz_iload 3, tz_iconst 3, tz_iadd, tz_sld L xs, tz_cv SH 2 6 5 C_Ca_feed, tz_aload 2, tz_aload 0, tz_iload 3, tz_iconst 1, tz_iadd, tz_sld L xs, tz_i2l, tz_bipush 32, tz_lshl, tz_aload 0, tz_iload 3, tz_iconst 2, tz_iadd, tz_sld L xs, tz_i2l, tz_ldc2 4294967295, tz_land, tz_lor, tz_aload 0, tz_iload 3, tz_iconst 3, tz_iadd, tz_sld L xs, tz_cv SH 2 7 5 C_Mo_feed, tz_icmp_eq 12, tz_iconst 0, tz_lret]
  | 7 => [tz_aload 1, tz_aload 0, tz_iload 3, tz_iconst 1, tz_iadd, tz_sld L xs, tz_aload 0, tz_iload 3, tz_iconst 2, tz_iadd, tz_sld L xs, tz_i2l, tz_bipush 32, tz_lshl, tz_aload 0, tz_iload 3, tz_iconst 3, tz_iadd, tz_sld L xs, tz_i2l, tz_ldc2 4294967295, tz_land, tz_lor, tz_aload 0, tz_iload 3, tz_iconst 4, tz_iadd, tz_sld L xs, tz_cv SH 3 6 6 C_Ca_block, tz_aload 2, tz_aload 0, tz_iload 3, tz_iconst 1, tz_iadd, tz_sld L xs, tz_aload 0, tz_iload 3, tz_iconst 2, tz_iadd, tz_sld L xs, tz_i2l, tz_bipush 32, tz_lshl, tz_aload 0, tz_iload 3, tz_iconst 3, tz_iadd, tz_sld L xs, tz_i2l, tz_ldc2 4294967295, tz_land, tz_lor, tz_aload 0, tz_iload 3, tz_iconst 4, tz_iadd, tz_sld L xs, tz_cv SH 3 7 8 C_Mo_block, tz_icmp_eq 12, tz_iconst 0, tz_lret]
  | 8 => [tz_aload 1, tz_aload 0, tz_iload 3, tz_iconst 1, tz_iadd, tz_sld L xs, tz_cv SH 1 6 2 C_Ca_reply, tz_aload 2, tz_aload 0, tz_iload 3, tz_iconst 1, tz_iadd, tz_sld L xs, tz_cv SH 1 7 2 C_Mo_reply, tz_icmp_eq 12, tz_iconst 0, tz_lret]
  | 9 => [tz_aload 1, tz_aload 0, tz_iload 3, tz_iconst 1, tz_iadd, tz_sld L xs, tz_aload 0, tz_iload 3, tz_iconst 2, tz_iadd, tz_sld L xs, tz_cv SH 2 6 3 C_Ca_stored, tz_aload 2, tz_aload 0, tz_iload 3, tz_iconst 1, tz_iadd, tz_sld L xs, tz_aload 0, tz_iload 3, tz_iconst 2, tz_iadd, tz_sld L xs, tz_cv SH 2 7 3 C_Mo_stored, tz_icmp_eq 12, tz_iconst 0, tz_lret]
  | 10 => [tz_aload 1, tz_aload 0, tz_iload 3, tz_iconst 1, tz_iadd, tz_sld L xs, tz_cv SH 1 6 2 C_Ca_state, tz_aload 2, tz_aload 0, tz_iload 3, tz_iconst 1, tz_iadd, tz_sld L xs, tz_cv SH 1 7 2 C_Mo_state, tz_icmp_eq 12, tz_iconst 0, tz_lret]
  | 11 => [tz_aload 1, tz_aload 0, tz_iload 3, tz_iconst 1, tz_iadd, tz_sld L xs, tz_aload 0, tz_iload 3, tz_iconst 2, tz_iadd, tz_sld L xs, tz_cv SH 2 6 4 C_Ca_look, tz_aload 2, tz_aload 0, tz_iload 3, tz_iconst 1, tz_iadd, tz_sld L xs, tz_aload 0, tz_iload 3, tz_iconst 2, tz_iadd, tz_sld L xs, tz_cv SH 2 7 3 C_Mo_look, tz_icmp_eq 12, tz_iconst 0, tz_lret]
  | 12 => [tz_iinc 3 6, tz_goto 1]
  | 13 => [tz_iconst 1, tz_lret]
  | _ => []
def bp_Lw : Nat → Nat := fun b => match b with
  | 0 => 16
  | 1 => 18
  | 2 => 88
  | 3 => 151
  | 4 => 174
  | 5 => 187
  | 6 => 200
  | 7 => 263
  | 8 => 336
  | 9 => 359
  | 10 => 392
  | 11 => 415
  | 12 => 448
  | 13 => 454
  | _ => 0
set_option maxRecDepth 100000 in
set_option maxHeartbeats 4000000 in
theorem sd_Lw (X : rz_X) {b L : Nat} {xs : Nat → Int32} (G : rz_Cx CL X c_Lw_law 4 rz_tbl R_Lw room_1) (S : rz_Sc X b L xs) : ∀ b, rz_SB SH CL X bp_Lw (rz_RI SH CL X c_Lw_law (fun v => v = 1)) (bk_Lw L xs b) (bp_Lw b) := fun b => match b with
  | 0 => (rz_cons (rz_iconst G d_Lw_law_16 (by decide)) (rz_cons (rz_istore_n G d_Lw_law_17 rfl (by decide)) (rz_fall rfl)))
  | 1 => (rz_cons (rz_iload_n G d_Lw_law_18 rfl) (rz_cons (rz_aload_n G d_Lw_law_19 rfl) (rz_cons (rz_slen G S d_Lw_law_20) (rz_cons (rz_bipush G d_Lw_law_21 (by decide)) (rz_cons (rz_isub G d_Lw_law_23) (rz_cons (rz_icmp_gt G d_Lw_law_24 (by decide)) (rz_cons (rz_aload_n G d_Lw_law_27 rfl) (rz_cons (rz_iload_n G d_Lw_law_28 rfl) (rz_cons (rz_sld G S d_Lw_law_29) (rz_cons (rz_bipush G d_Lw_law_30 (by decide)) (rz_cons (rz_iand G d_Lw_law_32) (rz_cons (rz_table (npc := 0) G d_Lw_law_33 (by decide) (by decide) (by decide +kernel) (by decide) (by decide +kernel)) rz_nil))))))))))))
  | 2 => (rz_cons (rz_aload_n G d_Lw_law_88 rfl) (rz_cons (rz_aload_n G d_Lw_law_89 rfl) (rz_cons (rz_iload_n G d_Lw_law_90 rfl) (rz_cons (rz_iconst G d_Lw_law_91 (by decide)) (rz_cons (rz_iadd G d_Lw_law_92) (rz_cons (rz_sld G S d_Lw_law_93) (rz_cons (rz_aload_n G d_Lw_law_94 rfl) (rz_cons (rz_iload_n G d_Lw_law_95 rfl) (rz_cons (rz_iconst G d_Lw_law_96 (by decide)) (rz_cons (rz_iadd G d_Lw_law_97) (rz_cons (rz_sld G S d_Lw_law_98) (rz_cons (rz_aload_n G d_Lw_law_99 rfl) (rz_cons (rz_iload_n G d_Lw_law_100 rfl) (rz_cons (rz_iconst G d_Lw_law_101 (by decide)) (rz_cons (rz_iadd G d_Lw_law_102) (rz_cons (rz_sld G S d_Lw_law_103) (rz_cons (rz_aload_n G d_Lw_law_104 rfl) (rz_cons (rz_iload_n G d_Lw_law_105 rfl) (rz_cons (rz_iconst G d_Lw_law_106 (by decide)) (rz_cons (rz_iadd G d_Lw_law_107) (rz_cons (rz_sld G S d_Lw_law_108) (rz_cons (rz_aload_n G d_Lw_law_109 rfl) (rz_cons (rz_iload_n G d_Lw_law_110 rfl) (rz_cons (rz_iconst G d_Lw_law_111 (by decide)) (rz_cons (rz_iadd G d_Lw_law_112) (rz_cons (rz_sld G S d_Lw_law_113) (rz_cons (rz_cvi G (m_Ca_file X.1) cd_Ca_file wd_274 wd_275 wd_276 rfl rfl (by decide) d_Lw_law_114) (rz_cons (rz_aload_n G d_Lw_law_117 rfl) (rz_cons (rz_aload_n G d_Lw_law_118 rfl) (rz_cons (rz_iload_n G d_Lw_law_119 rfl) (rz_cons (rz_iconst G d_Lw_law_120 (by decide)) (rz_cons (rz_iadd G d_Lw_law_121) (rz_cons (rz_sld G S d_Lw_law_122) (rz_cons (rz_aload_n G d_Lw_law_123 rfl) (rz_cons (rz_iload_n G d_Lw_law_124 rfl) (rz_cons (rz_iconst G d_Lw_law_125 (by decide)) (rz_cons (rz_iadd G d_Lw_law_126) (rz_cons (rz_sld G S d_Lw_law_127) (rz_cons (rz_aload_n G d_Lw_law_128 rfl) (rz_cons (rz_iload_n G d_Lw_law_129 rfl) (rz_cons (rz_iconst G d_Lw_law_130 (by decide)) (rz_cons (rz_iadd G d_Lw_law_131) (rz_cons (rz_sld G S d_Lw_law_132) (rz_cons (rz_aload_n G d_Lw_law_133 rfl) (rz_cons (rz_iload_n G d_Lw_law_134 rfl) (rz_cons (rz_iconst G d_Lw_law_135 (by decide)) (rz_cons (rz_iadd G d_Lw_law_136) (rz_cons (rz_sld G S d_Lw_law_137) (rz_cons (rz_aload_n G d_Lw_law_138 rfl) (rz_cons (rz_iload_n G d_Lw_law_139 rfl) (rz_cons (rz_iconst G d_Lw_law_140 (by decide)) (rz_cons (rz_iadd G d_Lw_law_141) (rz_cons (rz_sld G S d_Lw_law_142) (rz_cons (rz_cvi G (m_Mo_file X.1) cd_Mo_file wd_731 wd_732 wd_733 rfl rfl (by decide) d_Lw_law_143) (rz_cons (rz_icmp_eq G d_Lw_law_146 (by decide)) (rz_cons (rz_iconst G d_Lw_law_149 (by decide)) (rz_cons (rz_lret (npc := 0) d_Lw_law_150) rz_nil)))))))))))))))))))))))))))))))))))))))))))))))))))))))))
  | 3 => (rz_cons (rz_aload_n G d_Lw_law_151 rfl) (rz_cons (rz_aload_n G d_Lw_law_152 rfl) (rz_cons (rz_iload_n G d_Lw_law_153 rfl) (rz_cons (rz_iconst G d_Lw_law_154 (by decide)) (rz_cons (rz_iadd G d_Lw_law_155) (rz_cons (rz_sld G S d_Lw_law_156) (rz_cons (rz_cvi G (m_Ca_tear X.1) cd_Ca_tear wd_294 wd_295 wd_296 rfl rfl (by decide) d_Lw_law_157) (rz_cons (rz_aload_n G d_Lw_law_160 rfl) (rz_cons (rz_aload_n G d_Lw_law_161 rfl) (rz_cons (rz_iload_n G d_Lw_law_162 rfl) (rz_cons (rz_iconst G d_Lw_law_163 (by decide)) (rz_cons (rz_iadd G d_Lw_law_164) (rz_cons (rz_sld G S d_Lw_law_165) (rz_cons (rz_cvi G (m_Mo_tear X.1) cd_Mo_tear wd_739 wd_740 wd_741 rfl rfl (by decide) d_Lw_law_166) (rz_cons (rz_icmp_eq G d_Lw_law_169 (by decide)) (rz_cons (rz_iconst G d_Lw_law_172 (by decide)) (rz_cons (rz_lret (npc := 0) d_Lw_law_173) rz_nil)))))))))))))))))
  | 4 => (rz_cons (rz_aload_n G d_Lw_law_174 rfl) (rz_cons (rz_cvi G (m_Ca_on X.1) cd_Ca_on wd_298 wd_299 wd_300 rfl rfl (by decide) d_Lw_law_175) (rz_cons (rz_aload_n G d_Lw_law_178 rfl) (rz_cons (rz_cvi G (m_Mo_on X.1) cd_Mo_on wd_743 wd_744 wd_745 rfl rfl (by decide) d_Lw_law_179) (rz_cons (rz_icmp_eq G d_Lw_law_182 (by decide)) (rz_cons (rz_iconst G d_Lw_law_185 (by decide)) (rz_cons (rz_lret (npc := 0) d_Lw_law_186) rz_nil)))))))
  | 5 => (rz_cons (rz_aload_n G d_Lw_law_187 rfl) (rz_cons (rz_cvi G (m_Ca_off X.1) cd_Ca_off wd_346 wd_347 wd_348 rfl rfl (by decide) d_Lw_law_188) (rz_cons (rz_aload_n G d_Lw_law_191 rfl) (rz_cons (rz_cvi G (m_Mo_off X.1) cd_Mo_off wd_763 wd_764 wd_765 rfl rfl (by decide) d_Lw_law_192) (rz_cons (rz_icmp_eq G d_Lw_law_195 (by decide)) (rz_cons (rz_iconst G d_Lw_law_198 (by decide)) (rz_cons (rz_lret (npc := 0) d_Lw_law_199) rz_nil)))))))
  | 6 => (rz_cons (rz_aload_n G d_Lw_law_200 rfl) (rz_cons (rz_aload_n G d_Lw_law_201 rfl) (rz_cons (rz_iload_n G d_Lw_law_202 rfl) (rz_cons (rz_iconst G d_Lw_law_203 (by decide)) (rz_cons (rz_iadd G d_Lw_law_204) (rz_cons (rz_sld G S d_Lw_law_205) (rz_cons (rz_i2l G d_Lw_law_206) (rz_cons (rz_bipush G d_Lw_law_207 (by decide)) (rz_cons (rz_lshl G d_Lw_law_209) (rz_cons (rz_aload_n G d_Lw_law_210 rfl) (rz_cons (rz_iload_n G d_Lw_law_211 rfl) (rz_cons (rz_iconst G d_Lw_law_212 (by decide)) (rz_cons (rz_iadd G d_Lw_law_213) (rz_cons (rz_sld G S d_Lw_law_214) (rz_cons (rz_i2l G d_Lw_law_215) (rz_cons (rz_ldc2 G wd_857 d_Lw_law_216) (rz_cons (rz_land G d_Lw_law_219) (rz_cons (rz_lor G d_Lw_law_220) (rz_cons (rz_aload_n G d_Lw_law_221 rfl) (rz_cons (rz_iload_n G d_Lw_law_222 rfl) (rz_cons (rz_iconst G d_Lw_law_223 (by decide)) (rz_cons (rz_iadd G d_Lw_law_224) (rz_cons (rz_sld G S d_Lw_law_225) (rz_cons (rz_cvi G (m_Ca_feed X.1) cd_Ca_feed wd_350 wd_351 wd_352 rfl rfl (by decide) d_Lw_law_226) (rz_cons (rz_aload_n G d_Lw_law_229 rfl) (rz_cons (rz_aload_n G d_Lw_law_230 rfl) (rz_cons (rz_iload_n G d_Lw_law_231 rfl) (rz_cons (rz_iconst G d_Lw_law_232 (by decide)) (rz_cons (rz_iadd G d_Lw_law_233) (rz_cons (rz_sld G S d_Lw_law_234) (rz_cons (rz_i2l G d_Lw_law_235) (rz_cons (rz_bipush G d_Lw_law_236 (by decide)) (rz_cons (rz_lshl G d_Lw_law_238) (rz_cons (rz_aload_n G d_Lw_law_239 rfl) (rz_cons (rz_iload_n G d_Lw_law_240 rfl) (rz_cons (rz_iconst G d_Lw_law_241 (by decide)) (rz_cons (rz_iadd G d_Lw_law_242) (rz_cons (rz_sld G S d_Lw_law_243) (rz_cons (rz_i2l G d_Lw_law_244) (rz_cons (rz_ldc2 G wd_857 d_Lw_law_245) (rz_cons (rz_land G d_Lw_law_248) (rz_cons (rz_lor G d_Lw_law_249) (rz_cons (rz_aload_n G d_Lw_law_250 rfl) (rz_cons (rz_iload_n G d_Lw_law_251 rfl) (rz_cons (rz_iconst G d_Lw_law_252 (by decide)) (rz_cons (rz_iadd G d_Lw_law_253) (rz_cons (rz_sld G S d_Lw_law_254) (rz_cons (rz_cvi G (m_Mo_feed X.1) cd_Mo_feed wd_767 wd_768 wd_769 rfl rfl (by decide) d_Lw_law_255) (rz_cons (rz_icmp_eq G d_Lw_law_258 (by decide)) (rz_cons (rz_iconst G d_Lw_law_261 (by decide)) (rz_cons (rz_lret (npc := 0) d_Lw_law_262) rz_nil)))))))))))))))))))))))))))))))))))))))))))))))))))
  | 7 => (rz_cons (rz_aload_n G d_Lw_law_263 rfl) (rz_cons (rz_aload_n G d_Lw_law_264 rfl) (rz_cons (rz_iload_n G d_Lw_law_265 rfl) (rz_cons (rz_iconst G d_Lw_law_266 (by decide)) (rz_cons (rz_iadd G d_Lw_law_267) (rz_cons (rz_sld G S d_Lw_law_268) (rz_cons (rz_aload_n G d_Lw_law_269 rfl) (rz_cons (rz_iload_n G d_Lw_law_270 rfl) (rz_cons (rz_iconst G d_Lw_law_271 (by decide)) (rz_cons (rz_iadd G d_Lw_law_272) (rz_cons (rz_sld G S d_Lw_law_273) (rz_cons (rz_i2l G d_Lw_law_274) (rz_cons (rz_bipush G d_Lw_law_275 (by decide)) (rz_cons (rz_lshl G d_Lw_law_277) (rz_cons (rz_aload_n G d_Lw_law_278 rfl) (rz_cons (rz_iload_n G d_Lw_law_279 rfl) (rz_cons (rz_iconst G d_Lw_law_280 (by decide)) (rz_cons (rz_iadd G d_Lw_law_281) (rz_cons (rz_sld G S d_Lw_law_282) (rz_cons (rz_i2l G d_Lw_law_283) (rz_cons (rz_ldc2 G wd_857 d_Lw_law_284) (rz_cons (rz_land G d_Lw_law_287) (rz_cons (rz_lor G d_Lw_law_288) (rz_cons (rz_aload_n G d_Lw_law_289 rfl) (rz_cons (rz_iload_n G d_Lw_law_290 rfl) (rz_cons (rz_iconst G d_Lw_law_291 (by decide)) (rz_cons (rz_iadd G d_Lw_law_292) (rz_cons (rz_sld G S d_Lw_law_293) (rz_cons (rz_cvi G (m_Ca_block X.1) cd_Ca_block wd_585 wd_586 wd_587 rfl rfl (by decide) d_Lw_law_294) (rz_cons (rz_aload_n G d_Lw_law_297 rfl) (rz_cons (rz_aload_n G d_Lw_law_298 rfl) (rz_cons (rz_iload_n G d_Lw_law_299 rfl) (rz_cons (rz_iconst G d_Lw_law_300 (by decide)) (rz_cons (rz_iadd G d_Lw_law_301) (rz_cons (rz_sld G S d_Lw_law_302) (rz_cons (rz_aload_n G d_Lw_law_303 rfl) (rz_cons (rz_iload_n G d_Lw_law_304 rfl) (rz_cons (rz_iconst G d_Lw_law_305 (by decide)) (rz_cons (rz_iadd G d_Lw_law_306) (rz_cons (rz_sld G S d_Lw_law_307) (rz_cons (rz_i2l G d_Lw_law_308) (rz_cons (rz_bipush G d_Lw_law_309 (by decide)) (rz_cons (rz_lshl G d_Lw_law_311) (rz_cons (rz_aload_n G d_Lw_law_312 rfl) (rz_cons (rz_iload_n G d_Lw_law_313 rfl) (rz_cons (rz_iconst G d_Lw_law_314 (by decide)) (rz_cons (rz_iadd G d_Lw_law_315) (rz_cons (rz_sld G S d_Lw_law_316) (rz_cons (rz_i2l G d_Lw_law_317) (rz_cons (rz_ldc2 G wd_857 d_Lw_law_318) (rz_cons (rz_land G d_Lw_law_321) (rz_cons (rz_lor G d_Lw_law_322) (rz_cons (rz_aload_n G d_Lw_law_323 rfl) (rz_cons (rz_iload_n G d_Lw_law_324 rfl) (rz_cons (rz_iconst G d_Lw_law_325 (by decide)) (rz_cons (rz_iadd G d_Lw_law_326) (rz_cons (rz_sld G S d_Lw_law_327) (rz_cons (rz_cvi G (m_Mo_block X.1) cd_Mo_block wd_837 wd_838 wd_839 rfl rfl (by decide) d_Lw_law_328) (rz_cons (rz_icmp_eq G d_Lw_law_331 (by decide)) (rz_cons (rz_iconst G d_Lw_law_334 (by decide)) (rz_cons (rz_lret (npc := 0) d_Lw_law_335) rz_nil)))))))))))))))))))))))))))))))))))))))))))))))))))))))))))))
  | 8 => (rz_cons (rz_aload_n G d_Lw_law_336 rfl) (rz_cons (rz_aload_n G d_Lw_law_337 rfl) (rz_cons (rz_iload_n G d_Lw_law_338 rfl) (rz_cons (rz_iconst G d_Lw_law_339 (by decide)) (rz_cons (rz_iadd G d_Lw_law_340) (rz_cons (rz_sld G S d_Lw_law_341) (rz_cons (rz_cvi G (m_Ca_reply X.1) cd_Ca_reply wd_590 wd_591 wd_592 rfl rfl (by decide) d_Lw_law_342) (rz_cons (rz_aload_n G d_Lw_law_345 rfl) (rz_cons (rz_aload_n G d_Lw_law_346 rfl) (rz_cons (rz_iload_n G d_Lw_law_347 rfl) (rz_cons (rz_iconst G d_Lw_law_348 (by decide)) (rz_cons (rz_iadd G d_Lw_law_349) (rz_cons (rz_sld G S d_Lw_law_350) (rz_cons (rz_cvi G (m_Mo_reply X.1) cd_Mo_reply wd_841 wd_842 wd_843 rfl rfl (by decide) d_Lw_law_351) (rz_cons (rz_icmp_eq G d_Lw_law_354 (by decide)) (rz_cons (rz_iconst G d_Lw_law_357 (by decide)) (rz_cons (rz_lret (npc := 0) d_Lw_law_358) rz_nil)))))))))))))))))
  | 9 => (rz_cons (rz_aload_n G d_Lw_law_359 rfl) (rz_cons (rz_aload_n G d_Lw_law_360 rfl) (rz_cons (rz_iload_n G d_Lw_law_361 rfl) (rz_cons (rz_iconst G d_Lw_law_362 (by decide)) (rz_cons (rz_iadd G d_Lw_law_363) (rz_cons (rz_sld G S d_Lw_law_364) (rz_cons (rz_aload_n G d_Lw_law_365 rfl) (rz_cons (rz_iload_n G d_Lw_law_366 rfl) (rz_cons (rz_iconst G d_Lw_law_367 (by decide)) (rz_cons (rz_iadd G d_Lw_law_368) (rz_cons (rz_sld G S d_Lw_law_369) (rz_cons (rz_cvi G (m_Ca_stored X.1) cd_Ca_stored wd_594 wd_595 wd_596 rfl rfl (by decide) d_Lw_law_370) (rz_cons (rz_aload_n G d_Lw_law_373 rfl) (rz_cons (rz_aload_n G d_Lw_law_374 rfl) (rz_cons (rz_iload_n G d_Lw_law_375 rfl) (rz_cons (rz_iconst G d_Lw_law_376 (by decide)) (rz_cons (rz_iadd G d_Lw_law_377) (rz_cons (rz_sld G S d_Lw_law_378) (rz_cons (rz_aload_n G d_Lw_law_379 rfl) (rz_cons (rz_iload_n G d_Lw_law_380 rfl) (rz_cons (rz_iconst G d_Lw_law_381 (by decide)) (rz_cons (rz_iadd G d_Lw_law_382) (rz_cons (rz_sld G S d_Lw_law_383) (rz_cons (rz_cvi G (m_Mo_stored X.1) cd_Mo_stored wd_845 wd_846 wd_847 rfl rfl (by decide) d_Lw_law_384) (rz_cons (rz_icmp_eq G d_Lw_law_387 (by decide)) (rz_cons (rz_iconst G d_Lw_law_390 (by decide)) (rz_cons (rz_lret (npc := 0) d_Lw_law_391) rz_nil)))))))))))))))))))))))))))
  | 10 => (rz_cons (rz_aload_n G d_Lw_law_392 rfl) (rz_cons (rz_aload_n G d_Lw_law_393 rfl) (rz_cons (rz_iload_n G d_Lw_law_394 rfl) (rz_cons (rz_iconst G d_Lw_law_395 (by decide)) (rz_cons (rz_iadd G d_Lw_law_396) (rz_cons (rz_sld G S d_Lw_law_397) (rz_cons (rz_cvi G (m_Ca_state X.1) cd_Ca_state wd_600 wd_601 wd_602 rfl rfl (by decide) d_Lw_law_398) (rz_cons (rz_aload_n G d_Lw_law_401 rfl) (rz_cons (rz_aload_n G d_Lw_law_402 rfl) (rz_cons (rz_iload_n G d_Lw_law_403 rfl) (rz_cons (rz_iconst G d_Lw_law_404 (by decide)) (rz_cons (rz_iadd G d_Lw_law_405) (rz_cons (rz_sld G S d_Lw_law_406) (rz_cons (rz_cvi G (m_Mo_state X.1) cd_Mo_state wd_849 wd_850 wd_851 rfl rfl (by decide) d_Lw_law_407) (rz_cons (rz_icmp_eq G d_Lw_law_410 (by decide)) (rz_cons (rz_iconst G d_Lw_law_413 (by decide)) (rz_cons (rz_lret (npc := 0) d_Lw_law_414) rz_nil)))))))))))))))))
  | 11 => (rz_cons (rz_aload_n G d_Lw_law_415 rfl) (rz_cons (rz_aload_n G d_Lw_law_416 rfl) (rz_cons (rz_iload_n G d_Lw_law_417 rfl) (rz_cons (rz_iconst G d_Lw_law_418 (by decide)) (rz_cons (rz_iadd G d_Lw_law_419) (rz_cons (rz_sld G S d_Lw_law_420) (rz_cons (rz_aload_n G d_Lw_law_421 rfl) (rz_cons (rz_iload_n G d_Lw_law_422 rfl) (rz_cons (rz_iconst G d_Lw_law_423 (by decide)) (rz_cons (rz_iadd G d_Lw_law_424) (rz_cons (rz_sld G S d_Lw_law_425) (rz_cons (rz_cvi G (m_Ca_look X.1) cd_Ca_look wd_608 wd_609 wd_610 rfl rfl (by decide) d_Lw_law_426) (rz_cons (rz_aload_n G d_Lw_law_429 rfl) (rz_cons (rz_aload_n G d_Lw_law_430 rfl) (rz_cons (rz_iload_n G d_Lw_law_431 rfl) (rz_cons (rz_iconst G d_Lw_law_432 (by decide)) (rz_cons (rz_iadd G d_Lw_law_433) (rz_cons (rz_sld G S d_Lw_law_434) (rz_cons (rz_aload_n G d_Lw_law_435 rfl) (rz_cons (rz_iload_n G d_Lw_law_436 rfl) (rz_cons (rz_iconst G d_Lw_law_437 (by decide)) (rz_cons (rz_iadd G d_Lw_law_438) (rz_cons (rz_sld G S d_Lw_law_439) (rz_cons (rz_cvi G (m_Mo_look X.1) cd_Mo_look wd_853 wd_854 wd_855 rfl rfl (by decide) d_Lw_law_440) (rz_cons (rz_icmp_eq G d_Lw_law_443 (by decide)) (rz_cons (rz_iconst G d_Lw_law_446 (by decide)) (rz_cons (rz_lret (npc := 0) d_Lw_law_447) rz_nil)))))))))))))))))))))))))))
  | 12 => (rz_cons (rz_iinc G d_Lw_law_448 (by decide) (by decide)) (rz_cons (rz_goto (npc := 0) G d_Lw_law_451 (by decide)) rz_nil))
  | 13 => (rz_cons (rz_iconst G d_Lw_law_454 (by decide)) (rz_cons (rz_lret (npc := 0) d_Lw_law_455) rz_nil))
  | _ + 14 => rz_nil
