theorem d_Ca_init_0 : decode c_Ca_init 0 = .ok (.aload_n 0, 1) := by decide +kernel
theorem d_Ca_init_1 : decode c_Ca_init 1 = .ok (.invokespecial 1, 3) := by decide +kernel
theorem d_Ca_init_4 : decode c_Ca_init 4 = .ok (.aload_n 0, 1) := by decide +kernel
theorem d_Ca_init_5 : decode c_Ca_init 5 = .ok (.new 7, 3) := by decide +kernel
theorem d_Ca_init_8 : decode c_Ca_init 8 = .ok (.dup, 1) := by decide +kernel
theorem d_Ca_init_9 : decode c_Ca_init 9 = .ok (.invokespecial 9, 3) := by decide +kernel
theorem d_Ca_init_12 : decode c_Ca_init 12 = .ok (.putfield 10, 3) := by decide +kernel
theorem d_Ca_init_15 : decode c_Ca_init 15 = .ok (.aload_n 0, 1) := by decide +kernel
theorem d_Ca_init_16 : decode c_Ca_init 16 = .ok (.new 16, 3) := by decide +kernel
theorem d_Ca_init_19 : decode c_Ca_init 19 = .ok (.dup, 1) := by decide +kernel
theorem d_Ca_init_20 : decode c_Ca_init 20 = .ok (.invokespecial 18, 3) := by decide +kernel
theorem d_Ca_init_23 : decode c_Ca_init 23 = .ok (.putfield 19, 3) := by decide +kernel
theorem d_Ca_init_26 : decode c_Ca_init 26 = .ok (.aload_n 0, 1) := by decide +kernel
theorem d_Ca_init_27 : decode c_Ca_init 27 = .ok (.aload_n 0, 1) := by decide +kernel
theorem d_Ca_init_28 : decode c_Ca_init 28 = .ok (.getfield 19, 3) := by decide +kernel
theorem d_Ca_init_31 : decode c_Ca_init 31 = .ok (.getfield 23, 3) := by decide +kernel
theorem d_Ca_init_34 : decode c_Ca_init 34 = .ok (.putfield 27, 3) := by decide +kernel
theorem d_Ca_init_37 : decode c_Ca_init 37 = .ok (.return_, 1) := by decide +kernel
theorem d_Li_init_0 : decode c_Li_init 0 = .ok (.aload_n 0, 1) := by decide +kernel
theorem d_Li_init_1 : decode c_Li_init 1 = .ok (.invokespecial 5, 3) := by decide +kernel
theorem d_Li_init_4 : decode c_Li_init 4 = .ok (.aload_n 0, 1) := by decide +kernel
theorem d_Li_init_5 : decode c_Li_init 5 = .ok (.bipush 36, 2) := by decide +kernel
theorem d_Li_init_7 : decode c_Li_init 7 = .ok (.newarray .int, 2) := by decide +kernel
theorem d_Li_init_9 : decode c_Li_init 9 = .ok (.putfield 11, 3) := by decide +kernel
theorem d_Li_init_12 : decode c_Li_init 12 = .ok (.aload_n 0, 1) := by decide +kernel
theorem d_Li_init_13 : decode c_Li_init 13 = .ok (.bipush 36, 2) := by decide +kernel
theorem d_Li_init_15 : decode c_Li_init 15 = .ok (.newarray .int, 2) := by decide +kernel
theorem d_Li_init_17 : decode c_Li_init 17 = .ok (.putfield 15, 3) := by decide +kernel
theorem d_Li_init_20 : decode c_Li_init 20 = .ok (.aload_n 0, 1) := by decide +kernel
theorem d_Li_init_21 : decode c_Li_init 21 = .ok (.bipush 36, 2) := by decide +kernel
theorem d_Li_init_23 : decode c_Li_init 23 = .ok (.newarray .int, 2) := by decide +kernel
theorem d_Li_init_25 : decode c_Li_init 25 = .ok (.putfield 18, 3) := by decide +kernel
theorem d_Li_init_28 : decode c_Li_init 28 = .ok (.aload_n 0, 1) := by decide +kernel
theorem d_Li_init_29 : decode c_Li_init 29 = .ok (.bipush 32, 2) := by decide +kernel
theorem d_Li_init_31 : decode c_Li_init 31 = .ok (.putfield 21, 3) := by decide +kernel
theorem d_Li_init_34 : decode c_Li_init 34 = .ok (.return_, 1) := by decide +kernel
theorem d_Wo_init_0 : decode c_Wo_init 0 = .ok (.aload_n 0, 1) := by decide +kernel
theorem d_Wo_init_1 : decode c_Wo_init 1 = .ok (.invokespecial 3, 3) := by decide +kernel
theorem d_Wo_init_4 : decode c_Wo_init 4 = .ok (.aload_n 0, 1) := by decide +kernel
theorem d_Wo_init_5 : decode c_Wo_init 5 = .ok (.new 9, 3) := by decide +kernel
theorem d_Wo_init_8 : decode c_Wo_init 8 = .ok (.dup, 1) := by decide +kernel
theorem d_Wo_init_9 : decode c_Wo_init 9 = .ok (.invokespecial 11, 3) := by decide +kernel
theorem d_Wo_init_12 : decode c_Wo_init 12 = .ok (.putfield 12, 3) := by decide +kernel
theorem d_Wo_init_15 : decode c_Wo_init 15 = .ok (.aload_n 0, 1) := by decide +kernel
theorem d_Wo_init_16 : decode c_Wo_init 16 = .ok (.new 18, 3) := by decide +kernel
theorem d_Wo_init_19 : decode c_Wo_init 19 = .ok (.dup, 1) := by decide +kernel
theorem d_Wo_init_20 : decode c_Wo_init 20 = .ok (.invokespecial 20, 3) := by decide +kernel
theorem d_Wo_init_23 : decode c_Wo_init 23 = .ok (.putfield 21, 3) := by decide +kernel
theorem d_Wo_init_26 : decode c_Wo_init 26 = .ok (.aload_n 0, 1) := by decide +kernel
theorem d_Wo_init_27 : decode c_Wo_init 27 = .ok (.new 25, 3) := by decide +kernel
theorem d_Wo_init_30 : decode c_Wo_init 30 = .ok (.dup, 1) := by decide +kernel
theorem d_Wo_init_31 : decode c_Wo_init 31 = .ok (.invokespecial 27, 3) := by decide +kernel
theorem d_Wo_init_34 : decode c_Wo_init 34 = .ok (.putfield 28, 3) := by decide +kernel
theorem d_Wo_init_37 : decode c_Wo_init 37 = .ok (.aload_n 0, 1) := by decide +kernel
theorem d_Wo_init_38 : decode c_Wo_init 38 = .ok (.iconst (-1), 1) := by decide +kernel
theorem d_Wo_init_39 : decode c_Wo_init 39 = .ok (.putfield 32, 3) := by decide +kernel
theorem d_Wo_init_42 : decode c_Wo_init 42 = .ok (.return_, 1) := by decide +kernel
theorem d_Me_init_0 : decode c_Me_init 0 = .ok (.aload_n 0, 1) := by decide +kernel
theorem d_Me_init_1 : decode c_Me_init 1 = .ok (.invokespecial 3, 3) := by decide +kernel
theorem d_Me_init_4 : decode c_Me_init 4 = .ok (.aload_n 0, 1) := by decide +kernel
theorem d_Me_init_5 : decode c_Me_init 5 = .ok (.new 9, 3) := by decide +kernel
theorem d_Me_init_8 : decode c_Me_init 8 = .ok (.dup, 1) := by decide +kernel
theorem d_Me_init_9 : decode c_Me_init 9 = .ok (.invokespecial 11, 3) := by decide +kernel
theorem d_Me_init_12 : decode c_Me_init 12 = .ok (.putfield 12, 3) := by decide +kernel
theorem d_Me_init_15 : decode c_Me_init 15 = .ok (.aload_n 0, 1) := by decide +kernel
theorem d_Me_init_16 : decode c_Me_init 16 = .ok (.bipush 24, 2) := by decide +kernel
theorem d_Me_init_18 : decode c_Me_init 18 = .ok (.newarray .int, 2) := by decide +kernel
theorem d_Me_init_20 : decode c_Me_init 20 = .ok (.putfield 18, 3) := by decide +kernel
theorem d_Me_init_23 : decode c_Me_init 23 = .ok (.aload_n 0, 1) := by decide +kernel
theorem d_Me_init_24 : decode c_Me_init 24 = .ok (.iconst 3, 1) := by decide +kernel
theorem d_Me_init_25 : decode c_Me_init 25 = .ok (.putfield 22, 3) := by decide +kernel
theorem d_Me_init_28 : decode c_Me_init 28 = .ok (.aload_n 0, 1) := by decide +kernel
theorem d_Me_init_29 : decode c_Me_init 29 = .ok (.iconst (-1), 1) := by decide +kernel
theorem d_Me_init_30 : decode c_Me_init 30 = .ok (.putfield 26, 3) := by decide +kernel
theorem d_Me_init_33 : decode c_Me_init 33 = .ok (.return_, 1) := by decide +kernel
theorem d_Fi_init_0 : decode c_Fi_init 0 = .ok (.aload_n 0, 1) := by decide +kernel
theorem d_Fi_init_1 : decode c_Fi_init 1 = .ok (.invokespecial 3, 3) := by decide +kernel
theorem d_Fi_init_4 : decode c_Fi_init 4 = .ok (.aload_n 0, 1) := by decide +kernel
theorem d_Fi_init_5 : decode c_Fi_init 5 = .ok (.bipush 8, 2) := by decide +kernel
theorem d_Fi_init_7 : decode c_Fi_init 7 = .ok (.newarray .int, 2) := by decide +kernel
theorem d_Fi_init_9 : decode c_Fi_init 9 = .ok (.putfield 11, 3) := by decide +kernel
theorem d_Fi_init_12 : decode c_Fi_init 12 = .ok (.aload_n 0, 1) := by decide +kernel
theorem d_Fi_init_13 : decode c_Fi_init 13 = .ok (.bipush 8, 2) := by decide +kernel
theorem d_Fi_init_15 : decode c_Fi_init 15 = .ok (.newarray .int, 2) := by decide +kernel
theorem d_Fi_init_17 : decode c_Fi_init 17 = .ok (.putfield 15, 3) := by decide +kernel
theorem d_Fi_init_20 : decode c_Fi_init 20 = .ok (.aload_n 0, 1) := by decide +kernel
theorem d_Fi_init_21 : decode c_Fi_init 21 = .ok (.bipush 8, 2) := by decide +kernel
theorem d_Fi_init_23 : decode c_Fi_init 23 = .ok (.newarray .int, 2) := by decide +kernel
theorem d_Fi_init_25 : decode c_Fi_init 25 = .ok (.putfield 18, 3) := by decide +kernel
theorem d_Fi_init_28 : decode c_Fi_init 28 = .ok (.aload_n 0, 1) := by decide +kernel
theorem d_Fi_init_29 : decode c_Fi_init 29 = .ok (.bipush 8, 2) := by decide +kernel
theorem d_Fi_init_31 : decode c_Fi_init 31 = .ok (.newarray .int, 2) := by decide +kernel
theorem d_Fi_init_33 : decode c_Fi_init 33 = .ok (.putfield 21, 3) := by decide +kernel
theorem d_Fi_init_36 : decode c_Fi_init 36 = .ok (.aload_n 0, 1) := by decide +kernel
theorem d_Fi_init_37 : decode c_Fi_init 37 = .ok (.bipush 8, 2) := by decide +kernel
theorem d_Fi_init_39 : decode c_Fi_init 39 = .ok (.newarray .int, 2) := by decide +kernel
theorem d_Fi_init_41 : decode c_Fi_init 41 = .ok (.putfield 24, 3) := by decide +kernel
theorem d_Fi_init_44 : decode c_Fi_init 44 = .ok (.aload_n 0, 1) := by decide +kernel
theorem d_Fi_init_45 : decode c_Fi_init 45 = .ok (.sipush 192, 3) := by decide +kernel
theorem d_Fi_init_48 : decode c_Fi_init 48 = .ok (.newarray .int, 2) := by decide +kernel
theorem d_Fi_init_50 : decode c_Fi_init 50 = .ok (.putfield 27, 3) := by decide +kernel
theorem d_Fi_init_53 : decode c_Fi_init 53 = .ok (.aload_n 0, 1) := by decide +kernel
theorem d_Fi_init_54 : decode c_Fi_init 54 = .ok (.iconst 1, 1) := by decide +kernel
theorem d_Fi_init_55 : decode c_Fi_init 55 = .ok (.putfield 30, 3) := by decide +kernel
theorem d_Fi_init_58 : decode c_Fi_init 58 = .ok (.aload_n 0, 1) := by decide +kernel
theorem d_Fi_init_59 : decode c_Fi_init 59 = .ok (.getfield 11, 3) := by decide +kernel
theorem d_Fi_init_62 : decode c_Fi_init 62 = .ok (.iconst 0, 1) := by decide +kernel
theorem d_Fi_init_63 : decode c_Fi_init 63 = .ok (.sipush 16128, 3) := by decide +kernel
theorem d_Fi_init_66 : decode c_Fi_init 66 = .ok (.iastore, 1) := by decide +kernel
theorem d_Fi_init_67 : decode c_Fi_init 67 = .ok (.aload_n 0, 1) := by decide +kernel
theorem d_Fi_init_68 : decode c_Fi_init 68 = .ok (.getfield 15, 3) := by decide +kernel
theorem d_Fi_init_71 : decode c_Fi_init 71 = .ok (.iconst 0, 1) := by decide +kernel
theorem d_Fi_init_72 : decode c_Fi_init 72 = .ok (.iconst (-1), 1) := by decide +kernel
theorem d_Fi_init_73 : decode c_Fi_init 73 = .ok (.iastore, 1) := by decide +kernel
theorem d_Fi_init_74 : decode c_Fi_init 74 = .ok (.return_, 1) := by decide +kernel
theorem d_Co_init_0 : decode c_Co_init 0 = .ok (.aload_n 0, 1) := by decide +kernel
theorem d_Co_init_1 : decode c_Co_init 1 = .ok (.invokespecial 3, 3) := by decide +kernel
theorem d_Co_init_4 : decode c_Co_init 4 = .ok (.aload_n 0, 1) := by decide +kernel
theorem d_Co_init_5 : decode c_Co_init 5 = .ok (.bipush 40, 2) := by decide +kernel
theorem d_Co_init_7 : decode c_Co_init 7 = .ok (.newarray .int, 2) := by decide +kernel
theorem d_Co_init_9 : decode c_Co_init 9 = .ok (.putfield 11, 3) := by decide +kernel
theorem d_Co_init_12 : decode c_Co_init 12 = .ok (.return_, 1) := by decide +kernel
theorem d_An_init_0 : decode c_An_init 0 = .ok (.aload_n 0, 1) := by decide +kernel
theorem d_An_init_1 : decode c_An_init 1 = .ok (.invokespecial 1, 3) := by decide +kernel
theorem d_An_init_4 : decode c_An_init 4 = .ok (.aload_n 0, 1) := by decide +kernel
theorem d_An_init_5 : decode c_An_init 5 = .ok (.bipush 26, 2) := by decide +kernel
theorem d_An_init_7 : decode c_An_init 7 = .ok (.newarray .int, 2) := by decide +kernel
theorem d_An_init_9 : decode c_An_init 9 = .ok (.putfield 11, 3) := by decide +kernel
theorem d_An_init_12 : decode c_An_init 12 = .ok (.return_, 1) := by decide +kernel
theorem d_Ca_file_0 : decode c_Ca_file 0 = .ok (.aload_n 0, 1) := by decide +kernel
theorem d_Ca_file_1 : decode c_Ca_file 1 = .ok (.getfield 27, 3) := by decide +kernel
theorem d_Ca_file_4 : decode c_Ca_file 4 = .ok (.getfield 28, 3) := by decide +kernel
theorem d_Ca_file_7 : decode c_Ca_file 7 = .ok (.astore 6, 2) := by decide +kernel
theorem d_Ca_file_9 : decode c_Ca_file 9 = .ok (.iload_n 2, 1) := by decide +kernel
theorem d_Ca_file_10 : decode c_Ca_file 10 = .ok (.ifCond .lt 18, 3) := by decide +kernel
theorem d_Ca_file_13 : decode c_Ca_file 13 = .ok (.iload_n 2, 1) := by decide +kernel
theorem d_Ca_file_14 : decode c_Ca_file 14 = .ok (.ldc 34, 2) := by decide +kernel
theorem d_Ca_file_16 : decode c_Ca_file 16 = .ok (.if_icmp .gt 12, 3) := by decide +kernel
theorem d_Ca_file_19 : decode c_Ca_file 19 = .ok (.aload 6, 2) := by decide +kernel
theorem d_Ca_file_21 : decode c_Ca_file 21 = .ok (.iload_n 1, 1) := by decide +kernel
theorem d_Ca_file_22 : decode c_Ca_file 22 = .ok (.invokevirtual 35, 3) := by decide +kernel
theorem d_Ca_file_25 : decode c_Ca_file 25 = .ok (.ifCond .ne 5, 3) := by decide +kernel
theorem d_Ca_file_28 : decode c_Ca_file 28 = .ok (.iconst (-1), 1) := by decide +kernel
theorem d_Ca_file_29 : decode c_Ca_file 29 = .ok (.ireturn, 1) := by decide +kernel
theorem d_Ca_file_30 : decode c_Ca_file 30 = .ok (.iload_n 3, 1) := by decide +kernel
theorem d_Ca_file_31 : decode c_Ca_file 31 = .ok (.ifCond .lt 9, 3) := by decide +kernel
theorem d_Ca_file_34 : decode c_Ca_file 34 = .ok (.iload_n 3, 1) := by decide +kernel
theorem d_Ca_file_35 : decode c_Ca_file 35 = .ok (.bipush 24, 2) := by decide +kernel
theorem d_Ca_file_37 : decode c_Ca_file 37 = .ok (.if_icmp .le 5, 3) := by decide +kernel
theorem d_Ca_file_40 : decode c_Ca_file 40 = .ok (.iconst (-1), 1) := by decide +kernel
theorem d_Ca_file_41 : decode c_Ca_file 41 = .ok (.ireturn, 1) := by decide +kernel
theorem d_Ca_file_42 : decode c_Ca_file 42 = .ok (.iload_n 3, 1) := by decide +kernel
theorem d_Ca_file_43 : decode c_Ca_file 43 = .ok (.ifCond .le 21, 3) := by decide +kernel
theorem d_Ca_file_46 : decode c_Ca_file 46 = .ok (.iload 4, 2) := by decide +kernel
theorem d_Ca_file_48 : decode c_Ca_file 48 = .ok (.invokestatic 41, 3) := by decide +kernel
theorem d_Ca_file_51 : decode c_Ca_file 51 = .ok (.ifCond .eq 11, 3) := by decide +kernel
theorem d_Ca_file_54 : decode c_Ca_file 54 = .ok (.iload 5, 2) := by decide +kernel
theorem d_Ca_file_56 : decode c_Ca_file 56 = .ok (.invokestatic 41, 3) := by decide +kernel
theorem d_Ca_file_59 : decode c_Ca_file 59 = .ok (.ifCond .ne 5, 3) := by decide +kernel
theorem d_Ca_file_62 : decode c_Ca_file 62 = .ok (.iconst (-1), 1) := by decide +kernel
theorem d_Ca_file_63 : decode c_Ca_file 63 = .ok (.ireturn, 1) := by decide +kernel
theorem d_Ca_file_64 : decode c_Ca_file 64 = .ok (.aload_n 0, 1) := by decide +kernel
theorem d_Ca_file_65 : decode c_Ca_file 65 = .ok (.getfield 44, 3) := by decide +kernel
theorem d_Ca_file_68 : decode c_Ca_file 68 = .ok (.ifCond .eq 6, 3) := by decide +kernel
theorem d_Ca_file_71 : decode c_Ca_file 71 = .ok (.bipush (-3), 2) := by decide +kernel
theorem d_Ca_file_73 : decode c_Ca_file 73 = .ok (.ireturn, 1) := by decide +kernel
theorem d_Ca_file_74 : decode c_Ca_file 74 = .ok (.aload 6, 2) := by decide +kernel
theorem d_Ca_file_76 : decode c_Ca_file 76 = .ok (.iload_n 1, 1) := by decide +kernel
theorem d_Ca_file_77 : decode c_Ca_file 77 = .ok (.iload_n 2, 1) := by decide +kernel
theorem d_Ca_file_78 : decode c_Ca_file 78 = .ok (.iload_n 3, 1) := by decide +kernel
theorem d_Ca_file_79 : decode c_Ca_file 79 = .ok (.iload 4, 2) := by decide +kernel
theorem d_Ca_file_81 : decode c_Ca_file 81 = .ok (.iload 5, 2) := by decide +kernel
theorem d_Ca_file_83 : decode c_Ca_file 83 = .ok (.invokevirtual 48, 3) := by decide +kernel
theorem d_Ca_file_86 : decode c_Ca_file 86 = .ok (.ireturn, 1) := by decide +kernel
theorem d_Fi_isDirectory_0 : decode c_Fi_isDirectory 0 = .ok (.aload_n 0, 1) := by decide +kernel
theorem d_Fi_isDirectory_1 : decode c_Fi_isDirectory 1 = .ok (.iload_n 1, 1) := by decide +kernel
theorem d_Fi_isDirectory_2 : decode c_Fi_isDirectory 2 = .ok (.invokevirtual 34, 3) := by decide +kernel
theorem d_Fi_isDirectory_5 : decode c_Fi_isDirectory 5 = .ok (.ifCond .eq 16, 3) := by decide +kernel
theorem d_Fi_isDirectory_8 : decode c_Fi_isDirectory 8 = .ok (.aload_n 0, 1) := by decide +kernel
theorem d_Fi_isDirectory_9 : decode c_Fi_isDirectory 9 = .ok (.getfield 18, 3) := by decide +kernel
theorem d_Fi_isDirectory_12 : decode c_Fi_isDirectory 12 = .ok (.iload_n 1, 1) := by decide +kernel
theorem d_Fi_isDirectory_13 : decode c_Fi_isDirectory 13 = .ok (.iaload, 1) := by decide +kernel
theorem d_Fi_isDirectory_14 : decode c_Fi_isDirectory 14 = .ok (.ifCond .ne 7, 3) := by decide +kernel
theorem d_Fi_isDirectory_17 : decode c_Fi_isDirectory 17 = .ok (.iconst 1, 1) := by decide +kernel
theorem d_Fi_isDirectory_18 : decode c_Fi_isDirectory 18 = .ok (.goto 4, 3) := by decide +kernel
theorem d_Fi_isDirectory_21 : decode c_Fi_isDirectory 21 = .ok (.iconst 0, 1) := by decide +kernel
theorem d_Fi_isDirectory_22 : decode c_Fi_isDirectory 22 = .ok (.ireturn, 1) := by decide +kernel
theorem d_Fi_has_0 : decode c_Fi_has 0 = .ok (.iload_n 1, 1) := by decide +kernel
theorem d_Fi_has_1 : decode c_Fi_has 1 = .ok (.ifCond .lt 15, 3) := by decide +kernel
theorem d_Fi_has_4 : decode c_Fi_has 4 = .ok (.iload_n 1, 1) := by decide +kernel
theorem d_Fi_has_5 : decode c_Fi_has 5 = .ok (.aload_n 0, 1) := by decide +kernel
theorem d_Fi_has_6 : decode c_Fi_has 6 = .ok (.getfield 30, 3) := by decide +kernel
theorem d_Fi_has_9 : decode c_Fi_has 9 = .ok (.if_icmp .ge 7, 3) := by decide +kernel
theorem d_Fi_has_12 : decode c_Fi_has 12 = .ok (.iconst 1, 1) := by decide +kernel
theorem d_Fi_has_13 : decode c_Fi_has 13 = .ok (.goto 4, 3) := by decide +kernel
theorem d_Fi_has_16 : decode c_Fi_has 16 = .ok (.iconst 0, 1) := by decide +kernel
theorem d_Fi_has_17 : decode c_Fi_has 17 = .ok (.ireturn, 1) := by decide +kernel
theorem d_Fi_isRight_0 : decode c_Fi_isRight 0 = .ok (.iload_n 0, 1) := by decide +kernel
theorem d_Fi_isRight_1 : decode c_Fi_isRight 1 = .ok (.ifCond .lt 12, 3) := by decide +kernel
theorem d_Fi_isRight_4 : decode c_Fi_isRight 4 = .ok (.iload_n 0, 1) := by decide +kernel
theorem d_Fi_isRight_5 : decode c_Fi_isRight 5 = .ok (.iconst 2, 1) := by decide +kernel
theorem d_Fi_isRight_6 : decode c_Fi_isRight 6 = .ok (.if_icmp .gt 7, 3) := by decide +kernel
theorem d_Fi_isRight_9 : decode c_Fi_isRight 9 = .ok (.iconst 1, 1) := by decide +kernel
theorem d_Fi_isRight_10 : decode c_Fi_isRight 10 = .ok (.goto 4, 3) := by decide +kernel
theorem d_Fi_isRight_13 : decode c_Fi_isRight 13 = .ok (.iconst 0, 1) := by decide +kernel
theorem d_Fi_isRight_14 : decode c_Fi_isRight 14 = .ok (.ireturn, 1) := by decide +kernel
theorem d_Fi_add_0 : decode c_Fi_add 0 = .ok (.aload_n 0, 1) := by decide +kernel
theorem d_Fi_add_1 : decode c_Fi_add 1 = .ok (.getfield 30, 3) := by decide +kernel
theorem d_Fi_add_4 : decode c_Fi_add 4 = .ok (.bipush 8, 2) := by decide +kernel
theorem d_Fi_add_6 : decode c_Fi_add 6 = .ok (.if_icmp .lt 6, 3) := by decide +kernel
theorem d_Fi_add_9 : decode c_Fi_add 9 = .ok (.bipush (-2), 2) := by decide +kernel
theorem d_Fi_add_11 : decode c_Fi_add 11 = .ok (.ireturn, 1) := by decide +kernel
theorem d_Fi_add_12 : decode c_Fi_add 12 = .ok (.aload_n 0, 1) := by decide +kernel
theorem d_Fi_add_13 : decode c_Fi_add 13 = .ok (.getfield 11, 3) := by decide +kernel
theorem d_Fi_add_16 : decode c_Fi_add 16 = .ok (.aload_n 0, 1) := by decide +kernel
theorem d_Fi_add_17 : decode c_Fi_add 17 = .ok (.getfield 30, 3) := by decide +kernel
theorem d_Fi_add_20 : decode c_Fi_add 20 = .ok (.iload_n 2, 1) := by decide +kernel
theorem d_Fi_add_21 : decode c_Fi_add 21 = .ok (.iastore, 1) := by decide +kernel
theorem d_Fi_add_22 : decode c_Fi_add 22 = .ok (.aload_n 0, 1) := by decide +kernel
theorem d_Fi_add_23 : decode c_Fi_add 23 = .ok (.getfield 15, 3) := by decide +kernel
theorem d_Fi_add_26 : decode c_Fi_add 26 = .ok (.aload_n 0, 1) := by decide +kernel
theorem d_Fi_add_27 : decode c_Fi_add 27 = .ok (.getfield 30, 3) := by decide +kernel
theorem d_Fi_add_30 : decode c_Fi_add 30 = .ok (.iload_n 1, 1) := by decide +kernel
theorem d_Fi_add_31 : decode c_Fi_add 31 = .ok (.iastore, 1) := by decide +kernel
theorem d_Fi_add_32 : decode c_Fi_add 32 = .ok (.aload_n 0, 1) := by decide +kernel
theorem d_Fi_add_33 : decode c_Fi_add 33 = .ok (.getfield 18, 3) := by decide +kernel
theorem d_Fi_add_36 : decode c_Fi_add 36 = .ok (.aload_n 0, 1) := by decide +kernel
theorem d_Fi_add_37 : decode c_Fi_add 37 = .ok (.getfield 30, 3) := by decide +kernel
theorem d_Fi_add_40 : decode c_Fi_add 40 = .ok (.iload_n 3, 1) := by decide +kernel
theorem d_Fi_add_41 : decode c_Fi_add 41 = .ok (.iastore, 1) := by decide +kernel
theorem d_Fi_add_42 : decode c_Fi_add 42 = .ok (.aload_n 0, 1) := by decide +kernel
theorem d_Fi_add_43 : decode c_Fi_add 43 = .ok (.getfield 21, 3) := by decide +kernel
theorem d_Fi_add_46 : decode c_Fi_add 46 = .ok (.aload_n 0, 1) := by decide +kernel
theorem d_Fi_add_47 : decode c_Fi_add 47 = .ok (.getfield 30, 3) := by decide +kernel
theorem d_Fi_add_50 : decode c_Fi_add 50 = .ok (.iload_n 3, 1) := by decide +kernel
theorem d_Fi_add_51 : decode c_Fi_add 51 = .ok (.ifCond .le 8, 3) := by decide +kernel
theorem d_Fi_add_54 : decode c_Fi_add 54 = .ok (.iload 4, 2) := by decide +kernel
theorem d_Fi_add_56 : decode c_Fi_add 56 = .ok (.goto 4, 3) := by decide +kernel
theorem d_Fi_add_59 : decode c_Fi_add 59 = .ok (.iconst 0, 1) := by decide +kernel
theorem d_Fi_add_60 : decode c_Fi_add 60 = .ok (.iastore, 1) := by decide +kernel
theorem d_Fi_add_61 : decode c_Fi_add 61 = .ok (.aload_n 0, 1) := by decide +kernel
theorem d_Fi_add_62 : decode c_Fi_add 62 = .ok (.getfield 24, 3) := by decide +kernel
theorem d_Fi_add_65 : decode c_Fi_add 65 = .ok (.aload_n 0, 1) := by decide +kernel
theorem d_Fi_add_66 : decode c_Fi_add 66 = .ok (.getfield 30, 3) := by decide +kernel
theorem d_Fi_add_69 : decode c_Fi_add 69 = .ok (.iload_n 3, 1) := by decide +kernel
theorem d_Fi_add_70 : decode c_Fi_add 70 = .ok (.ifCond .le 8, 3) := by decide +kernel
theorem d_Fi_add_73 : decode c_Fi_add 73 = .ok (.iload 5, 2) := by decide +kernel
theorem d_Fi_add_75 : decode c_Fi_add 75 = .ok (.goto 4, 3) := by decide +kernel
theorem d_Fi_add_78 : decode c_Fi_add 78 = .ok (.iconst 0, 1) := by decide +kernel
theorem d_Fi_add_79 : decode c_Fi_add 79 = .ok (.iastore, 1) := by decide +kernel
theorem d_Fi_add_80 : decode c_Fi_add 80 = .ok (.aload_n 0, 1) := by decide +kernel
theorem d_Fi_add_81 : decode c_Fi_add 81 = .ok (.dup, 1) := by decide +kernel
theorem d_Fi_add_82 : decode c_Fi_add 82 = .ok (.getfield 30, 3) := by decide +kernel
theorem d_Fi_add_85 : decode c_Fi_add 85 = .ok (.dup_x1, 1) := by decide +kernel
theorem d_Fi_add_86 : decode c_Fi_add 86 = .ok (.iconst 1, 1) := by decide +kernel
theorem d_Fi_add_87 : decode c_Fi_add 87 = .ok (.iadd, 1) := by decide +kernel
theorem d_Fi_add_88 : decode c_Fi_add 88 = .ok (.putfield 30, 3) := by decide +kernel
theorem d_Fi_add_91 : decode c_Fi_add 91 = .ok (.ireturn, 1) := by decide +kernel
theorem d_Ca_tear_0 : decode c_Ca_tear 0 = .ok (.iload_n 1, 1) := by decide +kernel
theorem d_Ca_tear_1 : decode c_Ca_tear 1 = .ok (.iconst (-1), 1) := by decide +kernel
theorem d_Ca_tear_2 : decode c_Ca_tear 2 = .ok (.if_icmp .lt 10, 3) := by decide +kernel
theorem d_Ca_tear_5 : decode c_Ca_tear 5 = .ok (.iload_n 1, 1) := by decide +kernel
theorem d_Ca_tear_6 : decode c_Ca_tear 6 = .ok (.sipush 200, 3) := by decide +kernel
theorem d_Ca_tear_9 : decode c_Ca_tear 9 = .ok (.if_icmp .le 5, 3) := by decide +kernel
theorem d_Ca_tear_12 : decode c_Ca_tear 12 = .ok (.iconst (-1), 1) := by decide +kernel
theorem d_Ca_tear_13 : decode c_Ca_tear 13 = .ok (.ireturn, 1) := by decide +kernel
theorem d_Ca_tear_14 : decode c_Ca_tear 14 = .ok (.aload_n 0, 1) := by decide +kernel
theorem d_Ca_tear_15 : decode c_Ca_tear 15 = .ok (.getfield 27, 3) := by decide +kernel
theorem d_Ca_tear_18 : decode c_Ca_tear 18 = .ok (.getfield 52, 3) := by decide +kernel
theorem d_Ca_tear_21 : decode c_Ca_tear 21 = .ok (.istore_n 2, 1) := by decide +kernel
theorem d_Ca_tear_22 : decode c_Ca_tear 22 = .ok (.aload_n 0, 1) := by decide +kernel
theorem d_Ca_tear_23 : decode c_Ca_tear 23 = .ok (.getfield 27, 3) := by decide +kernel
theorem d_Ca_tear_26 : decode c_Ca_tear 26 = .ok (.iload_n 1, 1) := by decide +kernel
theorem d_Ca_tear_27 : decode c_Ca_tear 27 = .ok (.putfield 52, 3) := by decide +kernel
theorem d_Ca_tear_30 : decode c_Ca_tear 30 = .ok (.iload_n 2, 1) := by decide +kernel
theorem d_Ca_tear_31 : decode c_Ca_tear 31 = .ok (.ireturn, 1) := by decide +kernel
theorem d_Ca_on_0 : decode c_Ca_on 0 = .ok (.aload_n 0, 1) := by decide +kernel
theorem d_Ca_on_1 : decode c_Ca_on 1 = .ok (.invokevirtual 56, 3) := by decide +kernel
theorem d_Ca_on_4 : decode c_Ca_on 4 = .ok (.aload_n 0, 1) := by decide +kernel
theorem d_Ca_on_5 : decode c_Ca_on 5 = .ok (.getfield 27, 3) := by decide +kernel
theorem d_Ca_on_8 : decode c_Ca_on 8 = .ok (.getfield 59, 3) := by decide +kernel
theorem d_Ca_on_11 : decode c_Ca_on 11 = .ok (.ifCond .eq 15, 3) := by decide +kernel
theorem d_Ca_on_14 : decode c_Ca_on 14 = .ok (.aload_n 0, 1) := by decide +kernel
theorem d_Ca_on_15 : decode c_Ca_on 15 = .ok (.getfield 27, 3) := by decide +kernel
theorem d_Ca_on_18 : decode c_Ca_on 18 = .ok (.invokevirtual 62, 3) := by decide +kernel
theorem d_Ca_on_21 : decode c_Ca_on 21 = .ok (.ifCond .ne 5, 3) := by decide +kernel
theorem d_Ca_on_24 : decode c_Ca_on 24 = .ok (.iconst 0, 1) := by decide +kernel
theorem d_Ca_on_25 : decode c_Ca_on 25 = .ok (.ireturn, 1) := by decide +kernel
theorem d_Ca_on_26 : decode c_Ca_on 26 = .ok (.aload_n 0, 1) := by decide +kernel
theorem d_Ca_on_27 : decode c_Ca_on 27 = .ok (.iconst 1, 1) := by decide +kernel
theorem d_Ca_on_28 : decode c_Ca_on 28 = .ok (.putfield 44, 3) := by decide +kernel
theorem d_Ca_on_31 : decode c_Ca_on 31 = .ok (.aload_n 0, 1) := by decide +kernel
theorem d_Ca_on_32 : decode c_Ca_on 32 = .ok (.getfield 10, 3) := by decide +kernel
theorem d_Ca_on_35 : decode c_Ca_on 35 = .ok (.aload_n 0, 1) := by decide +kernel
theorem d_Ca_on_36 : decode c_Ca_on 36 = .ok (.getfield 27, 3) := by decide +kernel
theorem d_Ca_on_39 : decode c_Ca_on 39 = .ok (.getfield 66, 3) := by decide +kernel
theorem d_Ca_on_42 : decode c_Ca_on 42 = .ok (.invokevirtual 69, 3) := by decide +kernel
theorem d_Ca_on_45 : decode c_Ca_on 45 = .ok (.iconst 1, 1) := by decide +kernel
theorem d_Ca_on_46 : decode c_Ca_on 46 = .ok (.ireturn, 1) := by decide +kernel
theorem d_Ca_powerDown_0 : decode c_Ca_powerDown 0 = .ok (.aload_n 0, 1) := by decide +kernel
theorem d_Ca_powerDown_1 : decode c_Ca_powerDown 1 = .ok (.iconst 0, 1) := by decide +kernel
theorem d_Ca_powerDown_2 : decode c_Ca_powerDown 2 = .ok (.putfield 44, 3) := by decide +kernel
theorem d_Ca_powerDown_5 : decode c_Ca_powerDown 5 = .ok (.aload_n 0, 1) := by decide +kernel
theorem d_Ca_powerDown_6 : decode c_Ca_powerDown 6 = .ok (.getfield 10, 3) := by decide +kernel
theorem d_Ca_powerDown_9 : decode c_Ca_powerDown 9 = .ok (.invokevirtual 181, 3) := by decide +kernel
theorem d_Ca_powerDown_12 : decode c_Ca_powerDown 12 = .ok (.aload_n 0, 1) := by decide +kernel
theorem d_Ca_powerDown_13 : decode c_Ca_powerDown 13 = .ok (.getfield 19, 3) := by decide +kernel
theorem d_Ca_powerDown_16 : decode c_Ca_powerDown 16 = .ok (.invokevirtual 184, 3) := by decide +kernel
theorem d_Ca_powerDown_19 : decode c_Ca_powerDown 19 = .ok (.return_, 1) := by decide +kernel
theorem d_Li_reset_0 : decode c_Li_reset 0 = .ok (.aload_n 0, 1) := by decide +kernel
theorem d_Li_reset_1 : decode c_Li_reset 1 = .ok (.invokevirtual 25, 3) := by decide +kernel
theorem d_Li_reset_4 : decode c_Li_reset 4 = .ok (.aload_n 0, 1) := by decide +kernel
theorem d_Li_reset_5 : decode c_Li_reset 5 = .ok (.bipush 32, 2) := by decide +kernel
theorem d_Li_reset_7 : decode c_Li_reset 7 = .ok (.putfield 21, 3) := by decide +kernel
theorem d_Li_reset_10 : decode c_Li_reset 10 = .ok (.aload_n 0, 1) := by decide +kernel
theorem d_Li_reset_11 : decode c_Li_reset 11 = .ok (.iconst 0, 1) := by decide +kernel
theorem d_Li_reset_12 : decode c_Li_reset 12 = .ok (.putfield 28, 3) := by decide +kernel
theorem d_Li_reset_15 : decode c_Li_reset 15 = .ok (.aload_n 0, 1) := by decide +kernel
theorem d_Li_reset_16 : decode c_Li_reset 16 = .ok (.iconst 0, 1) := by decide +kernel
theorem d_Li_reset_17 : decode c_Li_reset 17 = .ok (.putfield 31, 3) := by decide +kernel
theorem d_Li_reset_20 : decode c_Li_reset 20 = .ok (.return_, 1) := by decide +kernel
theorem d_Li_resync_0 : decode c_Li_resync 0 = .ok (.aload_n 0, 1) := by decide +kernel
theorem d_Li_resync_1 : decode c_Li_resync 1 = .ok (.iconst 0, 1) := by decide +kernel
theorem d_Li_resync_2 : decode c_Li_resync 2 = .ok (.putfield 34, 3) := by decide +kernel
theorem d_Li_resync_5 : decode c_Li_resync 5 = .ok (.aload_n 0, 1) := by decide +kernel
theorem d_Li_resync_6 : decode c_Li_resync 6 = .ok (.iconst 0, 1) := by decide +kernel
theorem d_Li_resync_7 : decode c_Li_resync 7 = .ok (.putfield 37, 3) := by decide +kernel
theorem d_Li_resync_10 : decode c_Li_resync 10 = .ok (.aload_n 0, 1) := by decide +kernel
theorem d_Li_resync_11 : decode c_Li_resync 11 = .ok (.iconst 0, 1) := by decide +kernel
theorem d_Li_resync_12 : decode c_Li_resync 12 = .ok (.putfield 40, 3) := by decide +kernel
theorem d_Li_resync_15 : decode c_Li_resync 15 = .ok (.return_, 1) := by decide +kernel
theorem d_Wo_reset_0 : decode c_Wo_reset 0 = .ok (.aload_n 0, 1) := by decide +kernel
theorem d_Wo_reset_1 : decode c_Wo_reset 1 = .ok (.iconst 0, 1) := by decide +kernel
theorem d_Wo_reset_2 : decode c_Wo_reset 2 = .ok (.putfield 36, 3) := by decide +kernel
theorem d_Wo_reset_5 : decode c_Wo_reset 5 = .ok (.aload_n 0, 1) := by decide +kernel
theorem d_Wo_reset_6 : decode c_Wo_reset 6 = .ok (.iconst 0, 1) := by decide +kernel
theorem d_Wo_reset_7 : decode c_Wo_reset 7 = .ok (.putfield 40, 3) := by decide +kernel
theorem d_Wo_reset_10 : decode c_Wo_reset 10 = .ok (.aload_n 0, 1) := by decide +kernel
theorem d_Wo_reset_11 : decode c_Wo_reset 11 = .ok (.iconst (-1), 1) := by decide +kernel
theorem d_Wo_reset_12 : decode c_Wo_reset 12 = .ok (.putfield 32, 3) := by decide +kernel
theorem d_Wo_reset_15 : decode c_Wo_reset 15 = .ok (.aload_n 0, 1) := by decide +kernel
theorem d_Wo_reset_16 : decode c_Wo_reset 16 = .ok (.invokevirtual 43, 3) := by decide +kernel
theorem d_Wo_reset_19 : decode c_Wo_reset 19 = .ok (.return_, 1) := by decide +kernel
theorem d_Wo_forgetExchange_0 : decode c_Wo_forgetExchange 0 = .ok (.aload_n 0, 1) := by decide +kernel
theorem d_Wo_forgetExchange_1 : decode c_Wo_forgetExchange 1 = .ok (.getfield 21, 3) := by decide +kernel
theorem d_Wo_forgetExchange_4 : decode c_Wo_forgetExchange 4 = .ok (.invokevirtual 46, 3) := by decide +kernel
theorem d_Wo_forgetExchange_7 : decode c_Wo_forgetExchange 7 = .ok (.aload_n 0, 1) := by decide +kernel
theorem d_Wo_forgetExchange_8 : decode c_Wo_forgetExchange 8 = .ok (.getfield 28, 3) := by decide +kernel
theorem d_Wo_forgetExchange_11 : decode c_Wo_forgetExchange 11 = .ok (.invokevirtual 49, 3) := by decide +kernel
theorem d_Wo_forgetExchange_14 : decode c_Wo_forgetExchange 14 = .ok (.return_, 1) := by decide +kernel
theorem d_Co_clear_0 : decode c_Co_clear 0 = .ok (.aload_n 0, 1) := by decide +kernel
theorem d_Co_clear_1 : decode c_Co_clear 1 = .ok (.iconst 0, 1) := by decide +kernel
theorem d_Co_clear_2 : decode c_Co_clear 2 = .ok (.putfield 15, 3) := by decide +kernel
theorem d_Co_clear_5 : decode c_Co_clear 5 = .ok (.aload_n 0, 1) := by decide +kernel
theorem d_Co_clear_6 : decode c_Co_clear 6 = .ok (.iconst 0, 1) := by decide +kernel
theorem d_Co_clear_7 : decode c_Co_clear 7 = .ok (.putfield 19, 3) := by decide +kernel
theorem d_Co_clear_10 : decode c_Co_clear 10 = .ok (.return_, 1) := by decide +kernel
theorem d_An_clear_0 : decode c_An_clear 0 = .ok (.aload_n 0, 1) := by decide +kernel
theorem d_An_clear_1 : decode c_An_clear 1 = .ok (.iconst 0, 1) := by decide +kernel
theorem d_An_clear_2 : decode c_An_clear 2 = .ok (.putfield 15, 3) := by decide +kernel
theorem d_An_clear_5 : decode c_An_clear 5 = .ok (.aload_n 0, 1) := by decide +kernel
theorem d_An_clear_6 : decode c_An_clear 6 = .ok (.iconst 0, 1) := by decide +kernel
theorem d_An_clear_7 : decode c_An_clear 7 = .ok (.putfield 19, 3) := by decide +kernel
theorem d_An_clear_10 : decode c_An_clear 10 = .ok (.return_, 1) := by decide +kernel
theorem d_Me_carryOutNote_0 : decode c_Me_carryOutNote 0 = .ok (.iconst 0, 1) := by decide +kernel
theorem d_Me_carryOutNote_1 : decode c_Me_carryOutNote 1 = .ok (.istore_n 1, 1) := by decide +kernel
theorem d_Me_carryOutNote_2 : decode c_Me_carryOutNote 2 = .ok (.iload_n 1, 1) := by decide +kernel
theorem d_Me_carryOutNote_3 : decode c_Me_carryOutNote 3 = .ok (.aload_n 0, 1) := by decide +kernel
theorem d_Me_carryOutNote_4 : decode c_Me_carryOutNote 4 = .ok (.getfield 56, 3) := by decide +kernel
theorem d_Me_carryOutNote_7 : decode c_Me_carryOutNote 7 = .ok (.if_icmp .ge 41, 3) := by decide +kernel
theorem d_Me_carryOutNote_10 : decode c_Me_carryOutNote 10 = .ok (.aload_n 0, 1) := by decide +kernel
theorem d_Me_carryOutNote_11 : decode c_Me_carryOutNote 11 = .ok (.invokevirtual 46, 3) := by decide +kernel
theorem d_Me_carryOutNote_14 : decode c_Me_carryOutNote 14 = .ok (.ifCond .ne 5, 3) := by decide +kernel
theorem d_Me_carryOutNote_17 : decode c_Me_carryOutNote 17 = .ok (.iconst 0, 1) := by decide +kernel
theorem d_Me_carryOutNote_18 : decode c_Me_carryOutNote 18 = .ok (.ireturn, 1) := by decide +kernel
theorem d_Me_carryOutNote_19 : decode c_Me_carryOutNote 19 = .ok (.aload_n 0, 1) := by decide +kernel
theorem d_Me_carryOutNote_20 : decode c_Me_carryOutNote 20 = .ok (.getfield 12, 3) := by decide +kernel
theorem d_Me_carryOutNote_23 : decode c_Me_carryOutNote 23 = .ok (.aload_n 0, 1) := by decide +kernel
theorem d_Me_carryOutNote_24 : decode c_Me_carryOutNote 24 = .ok (.getfield 50, 3) := by decide +kernel
theorem d_Me_carryOutNote_27 : decode c_Me_carryOutNote 27 = .ok (.aload_n 0, 1) := by decide +kernel
theorem d_Me_carryOutNote_28 : decode c_Me_carryOutNote 28 = .ok (.getfield 53, 3) := by decide +kernel
theorem d_Me_carryOutNote_31 : decode c_Me_carryOutNote 31 = .ok (.iload_n 1, 1) := by decide +kernel
theorem d_Me_carryOutNote_32 : decode c_Me_carryOutNote 32 = .ok (.iadd, 1) := by decide +kernel
theorem d_Me_carryOutNote_33 : decode c_Me_carryOutNote 33 = .ok (.aload_n 0, 1) := by decide +kernel
theorem d_Me_carryOutNote_34 : decode c_Me_carryOutNote 34 = .ok (.getfield 18, 3) := by decide +kernel
theorem d_Me_carryOutNote_37 : decode c_Me_carryOutNote 37 = .ok (.iload_n 1, 1) := by decide +kernel
theorem d_Me_carryOutNote_38 : decode c_Me_carryOutNote 38 = .ok (.iaload, 1) := by decide +kernel
theorem d_Me_carryOutNote_39 : decode c_Me_carryOutNote 39 = .ok (.invokevirtual 67, 3) := by decide +kernel
theorem d_Me_carryOutNote_42 : decode c_Me_carryOutNote 42 = .ok (.iinc 1 1, 3) := by decide +kernel
theorem d_Me_carryOutNote_45 : decode c_Me_carryOutNote 45 = .ok (.goto (-43), 3) := by decide +kernel
theorem d_Me_carryOutNote_48 : decode c_Me_carryOutNote 48 = .ok (.aload_n 0, 1) := by decide +kernel
theorem d_Me_carryOutNote_49 : decode c_Me_carryOutNote 49 = .ok (.invokevirtual 46, 3) := by decide +kernel
theorem d_Me_carryOutNote_52 : decode c_Me_carryOutNote 52 = .ok (.ifCond .ne 5, 3) := by decide +kernel
theorem d_Me_carryOutNote_55 : decode c_Me_carryOutNote 55 = .ok (.iconst 0, 1) := by decide +kernel
theorem d_Me_carryOutNote_56 : decode c_Me_carryOutNote 56 = .ok (.ireturn, 1) := by decide +kernel
theorem d_Me_carryOutNote_57 : decode c_Me_carryOutNote 57 = .ok (.aload_n 0, 1) := by decide +kernel
theorem d_Me_carryOutNote_58 : decode c_Me_carryOutNote 58 = .ok (.iconst 0, 1) := by decide +kernel
theorem d_Me_carryOutNote_59 : decode c_Me_carryOutNote 59 = .ok (.putfield 63, 3) := by decide +kernel
theorem d_Me_carryOutNote_62 : decode c_Me_carryOutNote 62 = .ok (.iconst 1, 1) := by decide +kernel
theorem d_Me_carryOutNote_63 : decode c_Me_carryOutNote 63 = .ok (.ireturn, 1) := by decide +kernel
theorem d_Me_mayWrite_0 : decode c_Me_mayWrite 0 = .ok (.aload_n 0, 1) := by decide +kernel
theorem d_Me_mayWrite_1 : decode c_Me_mayWrite 1 = .ok (.getfield 26, 3) := by decide +kernel
theorem d_Me_mayWrite_4 : decode c_Me_mayWrite 4 = .ok (.ifCond .ne 20, 3) := by decide +kernel
theorem d_Me_mayWrite_7 : decode c_Me_mayWrite 7 = .ok (.aload_n 0, 1) := by decide +kernel
theorem d_Me_mayWrite_8 : decode c_Me_mayWrite 8 = .ok (.iconst (-1), 1) := by decide +kernel
theorem d_Me_mayWrite_9 : decode c_Me_mayWrite 9 = .ok (.putfield 26, 3) := by decide +kernel
theorem d_Me_mayWrite_12 : decode c_Me_mayWrite 12 = .ok (.aload_n 0, 1) := by decide +kernel
theorem d_Me_mayWrite_13 : decode c_Me_mayWrite 13 = .ok (.dup, 1) := by decide +kernel
theorem d_Me_mayWrite_14 : decode c_Me_mayWrite 14 = .ok (.getfield 29, 3) := by decide +kernel
theorem d_Me_mayWrite_17 : decode c_Me_mayWrite 17 = .ok (.iconst 1, 1) := by decide +kernel
theorem d_Me_mayWrite_18 : decode c_Me_mayWrite 18 = .ok (.iadd, 1) := by decide +kernel
theorem d_Me_mayWrite_19 : decode c_Me_mayWrite 19 = .ok (.putfield 29, 3) := by decide +kernel
theorem d_Me_mayWrite_22 : decode c_Me_mayWrite 22 = .ok (.iconst 0, 1) := by decide +kernel
theorem d_Me_mayWrite_23 : decode c_Me_mayWrite 23 = .ok (.ireturn, 1) := by decide +kernel
theorem d_Me_mayWrite_24 : decode c_Me_mayWrite 24 = .ok (.aload_n 0, 1) := by decide +kernel
theorem d_Me_mayWrite_25 : decode c_Me_mayWrite 25 = .ok (.getfield 26, 3) := by decide +kernel
theorem d_Me_mayWrite_28 : decode c_Me_mayWrite 28 = .ok (.ifCond .le 13, 3) := by decide +kernel
theorem d_Me_mayWrite_31 : decode c_Me_mayWrite 31 = .ok (.aload_n 0, 1) := by decide +kernel
theorem d_Me_mayWrite_32 : decode c_Me_mayWrite 32 = .ok (.dup, 1) := by decide +kernel
theorem d_Me_mayWrite_33 : decode c_Me_mayWrite 33 = .ok (.getfield 26, 3) := by decide +kernel
theorem d_Me_mayWrite_36 : decode c_Me_mayWrite 36 = .ok (.iconst 1, 1) := by decide +kernel
theorem d_Me_mayWrite_37 : decode c_Me_mayWrite 37 = .ok (.isub, 1) := by decide +kernel
theorem d_Me_mayWrite_38 : decode c_Me_mayWrite 38 = .ok (.putfield 26, 3) := by decide +kernel
theorem d_Me_mayWrite_41 : decode c_Me_mayWrite 41 = .ok (.aload_n 0, 1) := by decide +kernel
theorem d_Me_mayWrite_42 : decode c_Me_mayWrite 42 = .ok (.dup, 1) := by decide +kernel
theorem d_Me_mayWrite_43 : decode c_Me_mayWrite 43 = .ok (.getfield 32, 3) := by decide +kernel
theorem d_Me_mayWrite_46 : decode c_Me_mayWrite 46 = .ok (.iconst 1, 1) := by decide +kernel
theorem d_Me_mayWrite_47 : decode c_Me_mayWrite 47 = .ok (.iadd, 1) := by decide +kernel
theorem d_Me_mayWrite_48 : decode c_Me_mayWrite 48 = .ok (.putfield 32, 3) := by decide +kernel
theorem d_Me_mayWrite_51 : decode c_Me_mayWrite 51 = .ok (.iconst 1, 1) := by decide +kernel
theorem d_Me_mayWrite_52 : decode c_Me_mayWrite 52 = .ok (.ireturn, 1) := by decide +kernel
theorem d_Fi_put_0 : decode c_Fi_put 0 = .ok (.iload_n 1, 1) := by decide +kernel
theorem d_Fi_put_1 : decode c_Fi_put 1 = .ok (.bipush 24, 2) := by decide +kernel
theorem d_Fi_put_3 : decode c_Fi_put 3 = .ok (.imul, 1) := by decide +kernel
theorem d_Fi_put_4 : decode c_Fi_put 4 = .ok (.iload_n 2, 1) := by decide +kernel
theorem d_Fi_put_5 : decode c_Fi_put 5 = .ok (.iadd, 1) := by decide +kernel
theorem d_Fi_put_6 : decode c_Fi_put 6 = .ok (.istore 4, 2) := by decide +kernel
theorem d_Fi_put_8 : decode c_Fi_put 8 = .ok (.iload 4, 2) := by decide +kernel
theorem d_Fi_put_10 : decode c_Fi_put 10 = .ok (.ifCond .lt 21, 3) := by decide +kernel
theorem d_Fi_put_13 : decode c_Fi_put 13 = .ok (.iload 4, 2) := by decide +kernel
theorem d_Fi_put_15 : decode c_Fi_put 15 = .ok (.aload_n 0, 1) := by decide +kernel
theorem d_Fi_put_16 : decode c_Fi_put 16 = .ok (.getfield 27, 3) := by decide +kernel
theorem d_Fi_put_19 : decode c_Fi_put 19 = .ok (.arraylength, 1) := by decide +kernel
theorem d_Fi_put_20 : decode c_Fi_put 20 = .ok (.if_icmp .ge 11, 3) := by decide +kernel
theorem d_Fi_put_23 : decode c_Fi_put 23 = .ok (.aload_n 0, 1) := by decide +kernel
theorem d_Fi_put_24 : decode c_Fi_put 24 = .ok (.getfield 27, 3) := by decide +kernel
theorem d_Fi_put_27 : decode c_Fi_put 27 = .ok (.iload 4, 2) := by decide +kernel
theorem d_Fi_put_29 : decode c_Fi_put 29 = .ok (.iload_n 3, 1) := by decide +kernel
theorem d_Fi_put_30 : decode c_Fi_put 30 = .ok (.iastore, 1) := by decide +kernel
theorem d_Fi_put_31 : decode c_Fi_put 31 = .ok (.return_, 1) := by decide +kernel
theorem d_Li_sendGreeting_0 : decode c_Li_sendGreeting 0 = .ok (.aload_n 0, 1) := by decide +kernel
theorem d_Li_sendGreeting_1 : decode c_Li_sendGreeting 1 = .ok (.getfield 15, 3) := by decide +kernel
theorem d_Li_sendGreeting_4 : decode c_Li_sendGreeting 4 = .ok (.iconst 0, 1) := by decide +kernel
theorem d_Li_sendGreeting_5 : decode c_Li_sendGreeting 5 = .ok (.bipush 59, 2) := by decide +kernel
theorem d_Li_sendGreeting_7 : decode c_Li_sendGreeting 7 = .ok (.iastore, 1) := by decide +kernel
theorem d_Li_sendGreeting_8 : decode c_Li_sendGreeting 8 = .ok (.aload_n 0, 1) := by decide +kernel
theorem d_Li_sendGreeting_9 : decode c_Li_sendGreeting 9 = .ok (.getfield 15, 3) := by decide +kernel
theorem d_Li_sendGreeting_12 : decode c_Li_sendGreeting 12 = .ok (.iconst 1, 1) := by decide +kernel
theorem d_Li_sendGreeting_13 : decode c_Li_sendGreeting 13 = .ok (.iconst 1, 1) := by decide +kernel
theorem d_Li_sendGreeting_14 : decode c_Li_sendGreeting 14 = .ok (.iastore, 1) := by decide +kernel
theorem d_Li_sendGreeting_15 : decode c_Li_sendGreeting 15 = .ok (.aload_n 0, 1) := by decide +kernel
theorem d_Li_sendGreeting_16 : decode c_Li_sendGreeting 16 = .ok (.getfield 15, 3) := by decide +kernel
theorem d_Li_sendGreeting_19 : decode c_Li_sendGreeting 19 = .ok (.iconst 2, 1) := by decide +kernel
theorem d_Li_sendGreeting_20 : decode c_Li_sendGreeting 20 = .ok (.iload_n 1, 1) := by decide +kernel
theorem d_Li_sendGreeting_21 : decode c_Li_sendGreeting 21 = .ok (.iastore, 1) := by decide +kernel
theorem d_Li_sendGreeting_22 : decode c_Li_sendGreeting 22 = .ok (.aload_n 0, 1) := by decide +kernel
theorem d_Li_sendGreeting_23 : decode c_Li_sendGreeting 23 = .ok (.getfield 15, 3) := by decide +kernel
theorem d_Li_sendGreeting_26 : decode c_Li_sendGreeting 26 = .ok (.iconst 3, 1) := by decide +kernel
theorem d_Li_sendGreeting_27 : decode c_Li_sendGreeting 27 = .ok (.bipush 32, 2) := by decide +kernel
theorem d_Li_sendGreeting_29 : decode c_Li_sendGreeting 29 = .ok (.iastore, 1) := by decide +kernel
theorem d_Li_sendGreeting_30 : decode c_Li_sendGreeting 30 = .ok (.aload_n 0, 1) := by decide +kernel
theorem d_Li_sendGreeting_31 : decode c_Li_sendGreeting 31 = .ok (.iconst 4, 1) := by decide +kernel
theorem d_Li_sendGreeting_32 : decode c_Li_sendGreeting 32 = .ok (.putfield 31, 3) := by decide +kernel
theorem d_Li_sendGreeting_35 : decode c_Li_sendGreeting 35 = .ok (.return_, 1) := by decide +kernel
theorem d_Ca_off_0 : decode c_Ca_off 0 = .ok (.aload_n 0, 1) := by decide +kernel
theorem d_Ca_off_1 : decode c_Ca_off 1 = .ok (.getfield 44, 3) := by decide +kernel
theorem d_Ca_off_4 : decode c_Ca_off 4 = .ok (.ifCond .eq 7, 3) := by decide +kernel
theorem d_Ca_off_7 : decode c_Ca_off 7 = .ok (.iconst 1, 1) := by decide +kernel
theorem d_Ca_off_8 : decode c_Ca_off 8 = .ok (.goto 4, 3) := by decide +kernel
theorem d_Ca_off_11 : decode c_Ca_off 11 = .ok (.iconst 0, 1) := by decide +kernel
theorem d_Ca_off_12 : decode c_Ca_off 12 = .ok (.istore_n 1, 1) := by decide +kernel
theorem d_Ca_off_13 : decode c_Ca_off 13 = .ok (.aload_n 0, 1) := by decide +kernel
theorem d_Ca_off_14 : decode c_Ca_off 14 = .ok (.invokevirtual 56, 3) := by decide +kernel
theorem d_Ca_off_17 : decode c_Ca_off 17 = .ok (.iload_n 1, 1) := by decide +kernel
theorem d_Ca_off_18 : decode c_Ca_off 18 = .ok (.ireturn, 1) := by decide +kernel
theorem d_Ca_feed_0 : decode c_Ca_feed 0 = .ok (.iload_n 3, 1) := by decide +kernel
theorem d_Ca_feed_1 : decode c_Ca_feed 1 = .ok (.iconst 1, 1) := by decide +kernel
theorem d_Ca_feed_2 : decode c_Ca_feed 2 = .ok (.if_icmp .lt 9, 3) := by decide +kernel
theorem d_Ca_feed_5 : decode c_Ca_feed 5 = .ok (.iload_n 3, 1) := by decide +kernel
theorem d_Ca_feed_6 : decode c_Ca_feed 6 = .ok (.bipush 8, 2) := by decide +kernel
theorem d_Ca_feed_8 : decode c_Ca_feed 8 = .ok (.if_icmp .le 5, 3) := by decide +kernel
theorem d_Ca_feed_11 : decode c_Ca_feed 11 = .ok (.iconst (-1), 1) := by decide +kernel
theorem d_Ca_feed_12 : decode c_Ca_feed 12 = .ok (.ireturn, 1) := by decide +kernel
theorem d_Ca_feed_13 : decode c_Ca_feed 13 = .ok (.aload_n 0, 1) := by decide +kernel
theorem d_Ca_feed_14 : decode c_Ca_feed 14 = .ok (.getfield 44, 3) := by decide +kernel
theorem d_Ca_feed_17 : decode c_Ca_feed 17 = .ok (.ifCond .ne 6, 3) := by decide +kernel
theorem d_Ca_feed_20 : decode c_Ca_feed 20 = .ok (.bipush (-3), 2) := by decide +kernel
theorem d_Ca_feed_22 : decode c_Ca_feed 22 = .ok (.ireturn, 1) := by decide +kernel
theorem d_Ca_feed_23 : decode c_Ca_feed 23 = .ok (.iconst 0, 1) := by decide +kernel
theorem d_Ca_feed_24 : decode c_Ca_feed 24 = .ok (.istore 4, 2) := by decide +kernel
theorem d_Ca_feed_26 : decode c_Ca_feed 26 = .ok (.iload 4, 2) := by decide +kernel
theorem d_Ca_feed_28 : decode c_Ca_feed 28 = .ok (.iload_n 3, 1) := by decide +kernel
theorem d_Ca_feed_29 : decode c_Ca_feed 29 = .ok (.if_icmp .ge 43, 3) := by decide +kernel
theorem d_Ca_feed_32 : decode c_Ca_feed 32 = .ok (.aload_n 0, 1) := by decide +kernel
theorem d_Ca_feed_33 : decode c_Ca_feed 33 = .ok (.getfield 44, 3) := by decide +kernel
theorem d_Ca_feed_36 : decode c_Ca_feed 36 = .ok (.ifCond .eq 36, 3) := by decide +kernel
theorem d_Ca_feed_39 : decode c_Ca_feed 39 = .ok (.aload_n 0, 1) := by decide +kernel
theorem d_Ca_feed_40 : decode c_Ca_feed 40 = .ok (.getfield 10, 3) := by decide +kernel
theorem d_Ca_feed_43 : decode c_Ca_feed 43 = .ok (.lload_n 1, 1) := by decide +kernel
theorem d_Ca_feed_44 : decode c_Ca_feed 44 = .ok (.iload 4, 2) := by decide +kernel
theorem d_Ca_feed_46 : decode c_Ca_feed 46 = .ok (.invokestatic 73, 3) := by decide +kernel
theorem d_Ca_feed_49 : decode c_Ca_feed 49 = .ok (.invokevirtual 77, 3) := by decide +kernel
theorem d_Ca_feed_52 : decode c_Ca_feed 52 = .ok (.aload_n 0, 1) := by decide +kernel
theorem d_Ca_feed_53 : decode c_Ca_feed 53 = .ok (.getfield 10, 3) := by decide +kernel
theorem d_Ca_feed_56 : decode c_Ca_feed 56 = .ok (.invokevirtual 80, 3) := by decide +kernel
theorem d_Ca_feed_59 : decode c_Ca_feed 59 = .ok (.ifCond .eq 7, 3) := by decide +kernel
theorem d_Ca_feed_62 : decode c_Ca_feed 62 = .ok (.aload_n 0, 1) := by decide +kernel
theorem d_Ca_feed_63 : decode c_Ca_feed 63 = .ok (.invokevirtual 83, 3) := by decide +kernel
theorem d_Ca_feed_66 : decode c_Ca_feed 66 = .ok (.iinc 4 1, 3) := by decide +kernel
theorem d_Ca_feed_69 : decode c_Ca_feed 69 = .ok (.goto (-43), 3) := by decide +kernel
theorem d_Ca_feed_72 : decode c_Ca_feed 72 = .ok (.aload_n 0, 1) := by decide +kernel
theorem d_Ca_feed_73 : decode c_Ca_feed 73 = .ok (.getfield 10, 3) := by decide +kernel
theorem d_Ca_feed_76 : decode c_Ca_feed 76 = .ok (.getfield 86, 3) := by decide +kernel
theorem d_Ca_feed_79 : decode c_Ca_feed 79 = .ok (.ireturn, 1) := by decide +kernel
theorem d_Ca_octetOf_0 : decode c_Ca_octetOf 0 = .ok (.lload_n 0, 1) := by decide +kernel
theorem d_Ca_octetOf_1 : decode c_Ca_octetOf 1 = .ok (.bipush 8, 2) := by decide +kernel
theorem d_Ca_octetOf_3 : decode c_Ca_octetOf 3 = .ok (.iload_n 2, 1) := by decide +kernel
theorem d_Ca_octetOf_4 : decode c_Ca_octetOf 4 = .ok (.imul, 1) := by decide +kernel
theorem d_Ca_octetOf_5 : decode c_Ca_octetOf 5 = .ok (.lushr, 1) := by decide +kernel
theorem d_Ca_octetOf_6 : decode c_Ca_octetOf 6 = .ok (.l2i, 1) := by decide +kernel
theorem d_Ca_octetOf_7 : decode c_Ca_octetOf 7 = .ok (.sipush 255, 3) := by decide +kernel
theorem d_Ca_octetOf_10 : decode c_Ca_octetOf 10 = .ok (.iand, 1) := by decide +kernel
theorem d_Ca_octetOf_11 : decode c_Ca_octetOf 11 = .ok (.ireturn, 1) := by decide +kernel
theorem d_Li_take_0 : decode c_Li_take 0 = .ok (.aload_n 0, 1) := by decide +kernel
theorem d_Li_take_1 : decode c_Li_take 1 = .ok (.getfield 28, 3) := by decide +kernel
theorem d_Li_take_4 : decode c_Li_take 4 = .ok (.bipush 36, 2) := by decide +kernel
theorem d_Li_take_6 : decode c_Li_take 6 = .ok (.if_icmp .ge 20, 3) := by decide +kernel
theorem d_Li_take_9 : decode c_Li_take 9 = .ok (.aload_n 0, 1) := by decide +kernel
theorem d_Li_take_10 : decode c_Li_take 10 = .ok (.getfield 11, 3) := by decide +kernel
theorem d_Li_take_13 : decode c_Li_take 13 = .ok (.aload_n 0, 1) := by decide +kernel
theorem d_Li_take_14 : decode c_Li_take 14 = .ok (.dup, 1) := by decide +kernel
theorem d_Li_take_15 : decode c_Li_take 15 = .ok (.getfield 28, 3) := by decide +kernel
theorem d_Li_take_18 : decode c_Li_take 18 = .ok (.dup_x1, 1) := by decide +kernel
theorem d_Li_take_19 : decode c_Li_take 19 = .ok (.iconst 1, 1) := by decide +kernel
theorem d_Li_take_20 : decode c_Li_take 20 = .ok (.iadd, 1) := by decide +kernel
theorem d_Li_take_21 : decode c_Li_take 21 = .ok (.putfield 28, 3) := by decide +kernel
theorem d_Li_take_24 : decode c_Li_take 24 = .ok (.iload_n 1, 1) := by decide +kernel
theorem d_Li_take_25 : decode c_Li_take 25 = .ok (.iastore, 1) := by decide +kernel
theorem d_Li_take_26 : decode c_Li_take 26 = .ok (.return_, 1) := by decide +kernel
theorem d_Li_isWhole_0 : decode c_Li_isWhole 0 = .ok (.aload_n 0, 1) := by decide +kernel
theorem d_Li_isWhole_1 : decode c_Li_isWhole 1 = .ok (.getfield 28, 3) := by decide +kernel
theorem d_Li_isWhole_4 : decode c_Li_isWhole 4 = .ok (.iconst 3, 1) := by decide +kernel
theorem d_Li_isWhole_5 : decode c_Li_isWhole 5 = .ok (.if_icmp .lt 29, 3) := by decide +kernel
theorem d_Li_isWhole_8 : decode c_Li_isWhole 8 = .ok (.aload_n 0, 1) := by decide +kernel
theorem d_Li_isWhole_9 : decode c_Li_isWhole 9 = .ok (.invokevirtual 43, 3) := by decide +kernel
theorem d_Li_isWhole_12 : decode c_Li_isWhole 12 = .ok (.ifCond .ne 18, 3) := by decide +kernel
theorem d_Li_isWhole_15 : decode c_Li_isWhole 15 = .ok (.aload_n 0, 1) := by decide +kernel
theorem d_Li_isWhole_16 : decode c_Li_isWhole 16 = .ok (.getfield 28, 3) := by decide +kernel
theorem d_Li_isWhole_19 : decode c_Li_isWhole 19 = .ok (.iconst 3, 1) := by decide +kernel
theorem d_Li_isWhole_20 : decode c_Li_isWhole 20 = .ok (.aload_n 0, 1) := by decide +kernel
theorem d_Li_isWhole_21 : decode c_Li_isWhole 21 = .ok (.invokevirtual 47, 3) := by decide +kernel
theorem d_Li_isWhole_24 : decode c_Li_isWhole 24 = .ok (.iadd, 1) := by decide +kernel
theorem d_Li_isWhole_25 : decode c_Li_isWhole 25 = .ok (.iconst 1, 1) := by decide +kernel
theorem d_Li_isWhole_26 : decode c_Li_isWhole 26 = .ok (.iadd, 1) := by decide +kernel
theorem d_Li_isWhole_27 : decode c_Li_isWhole 27 = .ok (.if_icmp .ne 7, 3) := by decide +kernel
theorem d_Li_isWhole_30 : decode c_Li_isWhole 30 = .ok (.iconst 1, 1) := by decide +kernel
theorem d_Li_isWhole_31 : decode c_Li_isWhole 31 = .ok (.goto 4, 3) := by decide +kernel
theorem d_Li_isWhole_34 : decode c_Li_isWhole 34 = .ok (.iconst 0, 1) := by decide +kernel
theorem d_Li_isWhole_35 : decode c_Li_isWhole 35 = .ok (.ireturn, 1) := by decide +kernel
theorem d_Li_isTooLong_0 : decode c_Li_isTooLong 0 = .ok (.aload_n 0, 1) := by decide +kernel
theorem d_Li_isTooLong_1 : decode c_Li_isTooLong 1 = .ok (.getfield 11, 3) := by decide +kernel
theorem d_Li_isTooLong_4 : decode c_Li_isTooLong 4 = .ok (.iconst 2, 1) := by decide +kernel
theorem d_Li_isTooLong_5 : decode c_Li_isTooLong 5 = .ok (.iaload, 1) := by decide +kernel
theorem d_Li_isTooLong_6 : decode c_Li_isTooLong 6 = .ok (.bipush 32, 2) := by decide +kernel
theorem d_Li_isTooLong_8 : decode c_Li_isTooLong 8 = .ok (.if_icmp .le 7, 3) := by decide +kernel
theorem d_Li_isTooLong_11 : decode c_Li_isTooLong 11 = .ok (.iconst 1, 1) := by decide +kernel
theorem d_Li_isTooLong_12 : decode c_Li_isTooLong 12 = .ok (.goto 4, 3) := by decide +kernel
theorem d_Li_isTooLong_15 : decode c_Li_isTooLong 15 = .ok (.iconst 0, 1) := by decide +kernel
theorem d_Li_isTooLong_16 : decode c_Li_isTooLong 16 = .ok (.ireturn, 1) := by decide +kernel
theorem d_Li_infLength_0 : decode c_Li_infLength 0 = .ok (.aload_n 0, 1) := by decide +kernel
theorem d_Li_infLength_1 : decode c_Li_infLength 1 = .ok (.getfield 11, 3) := by decide +kernel
theorem d_Li_infLength_4 : decode c_Li_infLength 4 = .ok (.iconst 2, 1) := by decide +kernel
theorem d_Li_infLength_5 : decode c_Li_infLength 5 = .ok (.iaload, 1) := by decide +kernel
theorem d_Li_infLength_6 : decode c_Li_infLength 6 = .ok (.ireturn, 1) := by decide +kernel
theorem d_Ca_answerBlock_0 : decode c_Ca_answerBlock 0 = .ok (.aload_n 0, 1) := by decide +kernel
theorem d_Ca_answerBlock_1 : decode c_Ca_answerBlock 1 = .ok (.getfield 10, 3) := by decide +kernel
theorem d_Ca_answerBlock_4 : decode c_Ca_answerBlock 4 = .ok (.invokevirtual 185, 3) := by decide +kernel
theorem d_Ca_answerBlock_7 : decode c_Ca_answerBlock 7 = .ok (.istore_n 1, 1) := by decide +kernel
theorem d_Ca_answerBlock_8 : decode c_Ca_answerBlock 8 = .ok (.iload_n 1, 1) := by decide +kernel
theorem d_Ca_answerBlock_9 : decode c_Ca_answerBlock 9 = .ok (.ifCond .ne 177, 3) := by decide +kernel
theorem d_Ca_answerBlock_12 : decode c_Ca_answerBlock 12 = .ok (.aload_n 0, 1) := by decide +kernel
theorem d_Ca_answerBlock_13 : decode c_Ca_answerBlock 13 = .ok (.getfield 10, 3) := by decide +kernel
theorem d_Ca_answerBlock_16 : decode c_Ca_answerBlock 16 = .ok (.invokevirtual 188, 3) := by decide +kernel
theorem d_Ca_answerBlock_19 : decode c_Ca_answerBlock 19 = .ok (.istore_n 2, 1) := by decide +kernel
theorem d_Ca_answerBlock_20 : decode c_Ca_answerBlock 20 = .ok (.iload_n 2, 1) := by decide +kernel
theorem d_Ca_answerBlock_21 : decode c_Ca_answerBlock 21 = .ok (.lookupswitch 163 #[(0, 115), (32, 115), (64, 115), (96, 115), (128, 141), (129, 141), (130, 141), (144, 141), (145, 141), (146, 141), (192, 154), (193, 154), (194, 154)], 115) := by decide +kernel
theorem d_Ca_answerBlock_136 : decode c_Ca_answerBlock 136 = .ok (.aload_n 0, 1) := by decide +kernel
theorem d_Ca_answerBlock_137 : decode c_Ca_answerBlock 137 = .ok (.iload_n 2, 1) := by decide +kernel
theorem d_Ca_answerBlock_138 : decode c_Ca_answerBlock 138 = .ok (.bipush 6, 2) := by decide +kernel
theorem d_Ca_answerBlock_140 : decode c_Ca_answerBlock 140 = .ok (.ishr, 1) := by decide +kernel
theorem d_Ca_answerBlock_141 : decode c_Ca_answerBlock 141 = .ok (.iconst 1, 1) := by decide +kernel
theorem d_Ca_answerBlock_142 : decode c_Ca_answerBlock 142 = .ok (.iand, 1) := by decide +kernel
theorem d_Ca_answerBlock_143 : decode c_Ca_answerBlock 143 = .ok (.iload_n 2, 1) := by decide +kernel
theorem d_Ca_answerBlock_144 : decode c_Ca_answerBlock 144 = .ok (.bipush 32, 2) := by decide +kernel
theorem d_Ca_answerBlock_146 : decode c_Ca_answerBlock 146 = .ok (.iand, 1) := by decide +kernel
theorem d_Ca_answerBlock_147 : decode c_Ca_answerBlock 147 = .ok (.ifCond .eq 7, 3) := by decide +kernel
theorem d_Ca_answerBlock_150 : decode c_Ca_answerBlock 150 = .ok (.iconst 1, 1) := by decide +kernel
theorem d_Ca_answerBlock_151 : decode c_Ca_answerBlock 151 = .ok (.goto 4, 3) := by decide +kernel
theorem d_Ca_answerBlock_154 : decode c_Ca_answerBlock 154 = .ok (.iconst 0, 1) := by decide +kernel
theorem d_Ca_answerBlock_155 : decode c_Ca_answerBlock 155 = .ok (.invokevirtual 191, 3) := by decide +kernel
theorem d_Ca_answerBlock_158 : decode c_Ca_answerBlock 158 = .ok (.istore_n 1, 1) := by decide +kernel
theorem d_Ca_answerBlock_159 : decode c_Ca_answerBlock 159 = .ok (.goto 27, 3) := by decide +kernel
theorem d_Ca_answerBlock_162 : decode c_Ca_answerBlock 162 = .ok (.aload_n 0, 1) := by decide +kernel
theorem d_Ca_answerBlock_163 : decode c_Ca_answerBlock 163 = .ok (.iload_n 2, 1) := by decide +kernel
theorem d_Ca_answerBlock_164 : decode c_Ca_answerBlock 164 = .ok (.iconst 4, 1) := by decide +kernel
theorem d_Ca_answerBlock_165 : decode c_Ca_answerBlock 165 = .ok (.ishr, 1) := by decide +kernel
theorem d_Ca_answerBlock_166 : decode c_Ca_answerBlock 166 = .ok (.iconst 1, 1) := by decide +kernel
theorem d_Ca_answerBlock_167 : decode c_Ca_answerBlock 167 = .ok (.iand, 1) := by decide +kernel
theorem d_Ca_answerBlock_168 : decode c_Ca_answerBlock 168 = .ok (.invokevirtual 195, 3) := by decide +kernel
theorem d_Ca_answerBlock_171 : decode c_Ca_answerBlock 171 = .ok (.istore_n 1, 1) := by decide +kernel
theorem d_Ca_answerBlock_172 : decode c_Ca_answerBlock 172 = .ok (.goto 14, 3) := by decide +kernel
theorem d_Ca_answerBlock_175 : decode c_Ca_answerBlock 175 = .ok (.aload_n 0, 1) := by decide +kernel
theorem d_Ca_answerBlock_176 : decode c_Ca_answerBlock 176 = .ok (.iload_n 2, 1) := by decide +kernel
theorem d_Ca_answerBlock_177 : decode c_Ca_answerBlock 177 = .ok (.invokevirtual 198, 3) := by decide +kernel
theorem d_Ca_answerBlock_180 : decode c_Ca_answerBlock 180 = .ok (.istore_n 1, 1) := by decide +kernel
theorem d_Ca_answerBlock_181 : decode c_Ca_answerBlock 181 = .ok (.goto 5, 3) := by decide +kernel
theorem d_Ca_answerBlock_184 : decode c_Ca_answerBlock 184 = .ok (.iconst 2, 1) := by decide +kernel
theorem d_Ca_answerBlock_185 : decode c_Ca_answerBlock 185 = .ok (.istore_n 1, 1) := by decide +kernel
theorem d_Ca_answerBlock_186 : decode c_Ca_answerBlock 186 = .ok (.iload_n 1, 1) := by decide +kernel
theorem d_Ca_answerBlock_187 : decode c_Ca_answerBlock 187 = .ok (.ifCond .eq 11, 3) := by decide +kernel
theorem d_Ca_answerBlock_190 : decode c_Ca_answerBlock 190 = .ok (.aload_n 0, 1) := by decide +kernel
theorem d_Ca_answerBlock_191 : decode c_Ca_answerBlock 191 = .ok (.getfield 10, 3) := by decide +kernel
theorem d_Ca_answerBlock_194 : decode c_Ca_answerBlock 194 = .ok (.iload_n 1, 1) := by decide +kernel
theorem d_Ca_answerBlock_195 : decode c_Ca_answerBlock 195 = .ok (.invokevirtual 201, 3) := by decide +kernel
theorem d_Ca_answerBlock_198 : decode c_Ca_answerBlock 198 = .ok (.aload_n 0, 1) := by decide +kernel
theorem d_Ca_answerBlock_199 : decode c_Ca_answerBlock 199 = .ok (.getfield 10, 3) := by decide +kernel
theorem d_Ca_answerBlock_202 : decode c_Ca_answerBlock 202 = .ok (.iconst 0, 1) := by decide +kernel
theorem d_Ca_answerBlock_203 : decode c_Ca_answerBlock 203 = .ok (.putfield 86, 3) := by decide +kernel
theorem d_Ca_answerBlock_206 : decode c_Ca_answerBlock 206 = .ok (.return_, 1) := by decide +kernel
theorem d_Li_wrong_0 : decode c_Li_wrong 0 = .ok (.aload_n 0, 1) := by decide +kernel
theorem d_Li_wrong_1 : decode c_Li_wrong 1 = .ok (.invokevirtual 43, 3) := by decide +kernel
theorem d_Li_wrong_4 : decode c_Li_wrong 4 = .ok (.ifCond .eq 5, 3) := by decide +kernel
theorem d_Li_wrong_7 : decode c_Li_wrong 7 = .ok (.iconst 2, 1) := by decide +kernel
theorem d_Li_wrong_8 : decode c_Li_wrong 8 = .ok (.ireturn, 1) := by decide +kernel
theorem d_Li_wrong_9 : decode c_Li_wrong 9 = .ok (.aload_n 0, 1) := by decide +kernel
theorem d_Li_wrong_10 : decode c_Li_wrong 10 = .ok (.invokevirtual 51, 3) := by decide +kernel
theorem d_Li_wrong_13 : decode c_Li_wrong 13 = .ok (.ifCond .eq 5, 3) := by decide +kernel
theorem d_Li_wrong_16 : decode c_Li_wrong 16 = .ok (.iconst 1, 1) := by decide +kernel
theorem d_Li_wrong_17 : decode c_Li_wrong 17 = .ok (.ireturn, 1) := by decide +kernel
theorem d_Li_wrong_18 : decode c_Li_wrong 18 = .ok (.aload_n 0, 1) := by decide +kernel
theorem d_Li_wrong_19 : decode c_Li_wrong 19 = .ok (.getfield 11, 3) := by decide +kernel
theorem d_Li_wrong_22 : decode c_Li_wrong 22 = .ok (.iconst 0, 1) := by decide +kernel
theorem d_Li_wrong_23 : decode c_Li_wrong 23 = .ok (.iaload, 1) := by decide +kernel
theorem d_Li_wrong_24 : decode c_Li_wrong 24 = .ok (.ifCond .ne 7, 3) := by decide +kernel
theorem d_Li_wrong_27 : decode c_Li_wrong 27 = .ok (.iconst 0, 1) := by decide +kernel
theorem d_Li_wrong_28 : decode c_Li_wrong 28 = .ok (.goto 4, 3) := by decide +kernel
theorem d_Li_wrong_31 : decode c_Li_wrong 31 = .ok (.iconst 2, 1) := by decide +kernel
theorem d_Li_wrong_32 : decode c_Li_wrong 32 = .ok (.ireturn, 1) := by decide +kernel
theorem d_Li_sumOfArrived_0 : decode c_Li_sumOfArrived 0 = .ok (.aload_n 0, 1) := by decide +kernel
theorem d_Li_sumOfArrived_1 : decode c_Li_sumOfArrived 1 = .ok (.getfield 11, 3) := by decide +kernel
theorem d_Li_sumOfArrived_4 : decode c_Li_sumOfArrived 4 = .ok (.aload_n 0, 1) := by decide +kernel
theorem d_Li_sumOfArrived_5 : decode c_Li_sumOfArrived 5 = .ok (.getfield 28, 3) := by decide +kernel
theorem d_Li_sumOfArrived_8 : decode c_Li_sumOfArrived 8 = .ok (.invokestatic 54, 3) := by decide +kernel
theorem d_Li_sumOfArrived_11 : decode c_Li_sumOfArrived 11 = .ok (.ireturn, 1) := by decide +kernel
theorem d_Li_sum_0 : decode c_Li_sum 0 = .ok (.iconst 0, 1) := by decide +kernel
theorem d_Li_sum_1 : decode c_Li_sum 1 = .ok (.istore_n 2, 1) := by decide +kernel
theorem d_Li_sum_2 : decode c_Li_sum 2 = .ok (.iconst 0, 1) := by decide +kernel
theorem d_Li_sum_3 : decode c_Li_sum 3 = .ok (.istore_n 3, 1) := by decide +kernel
theorem d_Li_sum_4 : decode c_Li_sum 4 = .ok (.iload_n 3, 1) := by decide +kernel
theorem d_Li_sum_5 : decode c_Li_sum 5 = .ok (.iload_n 1, 1) := by decide +kernel
theorem d_Li_sum_6 : decode c_Li_sum 6 = .ok (.if_icmp .ge 21, 3) := by decide +kernel
theorem d_Li_sum_9 : decode c_Li_sum 9 = .ok (.iload_n 3, 1) := by decide +kernel
theorem d_Li_sum_10 : decode c_Li_sum 10 = .ok (.aload_n 0, 1) := by decide +kernel
theorem d_Li_sum_11 : decode c_Li_sum 11 = .ok (.arraylength, 1) := by decide +kernel
theorem d_Li_sum_12 : decode c_Li_sum 12 = .ok (.if_icmp .ge 15, 3) := by decide +kernel
theorem d_Li_sum_15 : decode c_Li_sum 15 = .ok (.iload_n 2, 1) := by decide +kernel
theorem d_Li_sum_16 : decode c_Li_sum 16 = .ok (.aload_n 0, 1) := by decide +kernel
theorem d_Li_sum_17 : decode c_Li_sum 17 = .ok (.iload_n 3, 1) := by decide +kernel
theorem d_Li_sum_18 : decode c_Li_sum 18 = .ok (.iaload, 1) := by decide +kernel
theorem d_Li_sum_19 : decode c_Li_sum 19 = .ok (.ixor, 1) := by decide +kernel
theorem d_Li_sum_20 : decode c_Li_sum 20 = .ok (.istore_n 2, 1) := by decide +kernel
theorem d_Li_sum_21 : decode c_Li_sum 21 = .ok (.iinc 3 1, 3) := by decide +kernel
theorem d_Li_sum_24 : decode c_Li_sum 24 = .ok (.goto (-20), 3) := by decide +kernel
theorem d_Li_sum_27 : decode c_Li_sum 27 = .ok (.iload_n 2, 1) := by decide +kernel
theorem d_Li_sum_28 : decode c_Li_sum 28 = .ok (.ireturn, 1) := by decide +kernel
theorem d_Li_pcb_0 : decode c_Li_pcb 0 = .ok (.aload_n 0, 1) := by decide +kernel
theorem d_Li_pcb_1 : decode c_Li_pcb 1 = .ok (.getfield 11, 3) := by decide +kernel
theorem d_Li_pcb_4 : decode c_Li_pcb 4 = .ok (.iconst 1, 1) := by decide +kernel
theorem d_Li_pcb_5 : decode c_Li_pcb 5 = .ok (.iaload, 1) := by decide +kernel
theorem d_Li_pcb_6 : decode c_Li_pcb 6 = .ok (.ireturn, 1) := by decide +kernel
theorem d_Ca_takeInformation_0 : decode c_Ca_takeInformation 0 = .ok (.iload_n 1, 1) := by decide +kernel
theorem d_Ca_takeInformation_1 : decode c_Ca_takeInformation 1 = .ok (.aload_n 0, 1) := by decide +kernel
theorem d_Ca_takeInformation_2 : decode c_Ca_takeInformation 2 = .ok (.getfield 10, 3) := by decide +kernel
theorem d_Ca_takeInformation_5 : decode c_Ca_takeInformation 5 = .ok (.getfield 154, 3) := by decide +kernel
theorem d_Ca_takeInformation_8 : decode c_Ca_takeInformation 8 = .ok (.if_icmp .eq 5, 3) := by decide +kernel
theorem d_Ca_takeInformation_11 : decode c_Ca_takeInformation 11 = .ok (.iconst 2, 1) := by decide +kernel
theorem d_Ca_takeInformation_12 : decode c_Ca_takeInformation 12 = .ok (.ireturn, 1) := by decide +kernel
theorem d_Ca_takeInformation_13 : decode c_Ca_takeInformation 13 = .ok (.aload_n 0, 1) := by decide +kernel
theorem d_Ca_takeInformation_14 : decode c_Ca_takeInformation 14 = .ok (.getfield 10, 3) := by decide +kernel
theorem d_Ca_takeInformation_17 : decode c_Ca_takeInformation 17 = .ok (.dup, 1) := by decide +kernel
theorem d_Ca_takeInformation_18 : decode c_Ca_takeInformation 18 = .ok (.getfield 154, 3) := by decide +kernel
theorem d_Ca_takeInformation_21 : decode c_Ca_takeInformation 21 = .ok (.iconst 1, 1) := by decide +kernel
theorem d_Ca_takeInformation_22 : decode c_Ca_takeInformation 22 = .ok (.ixor, 1) := by decide +kernel
theorem d_Ca_takeInformation_23 : decode c_Ca_takeInformation 23 = .ok (.putfield 154, 3) := by decide +kernel
theorem d_Ca_takeInformation_26 : decode c_Ca_takeInformation 26 = .ok (.aload_n 0, 1) := by decide +kernel
theorem d_Ca_takeInformation_27 : decode c_Ca_takeInformation 27 = .ok (.getfield 19, 3) := by decide +kernel
theorem d_Ca_takeInformation_30 : decode c_Ca_takeInformation 30 = .ok (.getfield 172, 3) := by decide +kernel
theorem d_Ca_takeInformation_33 : decode c_Ca_takeInformation 33 = .ok (.invokevirtual 204, 3) := by decide +kernel
theorem d_Ca_takeInformation_36 : decode c_Ca_takeInformation 36 = .ok (.iconst 0, 1) := by decide +kernel
theorem d_Ca_takeInformation_37 : decode c_Ca_takeInformation 37 = .ok (.istore_n 3, 1) := by decide +kernel
theorem d_Ca_takeInformation_38 : decode c_Ca_takeInformation 38 = .ok (.iload_n 3, 1) := by decide +kernel
theorem d_Ca_takeInformation_39 : decode c_Ca_takeInformation 39 = .ok (.aload_n 0, 1) := by decide +kernel
theorem d_Ca_takeInformation_40 : decode c_Ca_takeInformation 40 = .ok (.getfield 10, 3) := by decide +kernel
theorem d_Ca_takeInformation_43 : decode c_Ca_takeInformation 43 = .ok (.invokevirtual 207, 3) := by decide +kernel
theorem d_Ca_takeInformation_46 : decode c_Ca_takeInformation 46 = .ok (.if_icmp .ge 27, 3) := by decide +kernel
theorem d_Ca_takeInformation_49 : decode c_Ca_takeInformation 49 = .ok (.aload_n 0, 1) := by decide +kernel
theorem d_Ca_takeInformation_50 : decode c_Ca_takeInformation 50 = .ok (.getfield 19, 3) := by decide +kernel
theorem d_Ca_takeInformation_53 : decode c_Ca_takeInformation 53 = .ok (.getfield 163, 3) := by decide +kernel
theorem d_Ca_takeInformation_56 : decode c_Ca_takeInformation 56 = .ok (.aload_n 0, 1) := by decide +kernel
theorem d_Ca_takeInformation_57 : decode c_Ca_takeInformation 57 = .ok (.getfield 10, 3) := by decide +kernel
theorem d_Ca_takeInformation_60 : decode c_Ca_takeInformation 60 = .ok (.iload_n 3, 1) := by decide +kernel
theorem d_Ca_takeInformation_61 : decode c_Ca_takeInformation 61 = .ok (.invokevirtual 210, 3) := by decide +kernel
theorem d_Ca_takeInformation_64 : decode c_Ca_takeInformation 64 = .ok (.invokevirtual 213, 3) := by decide +kernel
theorem d_Ca_takeInformation_67 : decode c_Ca_takeInformation 67 = .ok (.iinc 3 1, 3) := by decide +kernel
theorem d_Ca_takeInformation_70 : decode c_Ca_takeInformation 70 = .ok (.goto (-32), 3) := by decide +kernel
theorem d_Ca_takeInformation_73 : decode c_Ca_takeInformation 73 = .ok (.iload_n 2, 1) := by decide +kernel
theorem d_Ca_takeInformation_74 : decode c_Ca_takeInformation 74 = .ok (.ifCond .eq 13, 3) := by decide +kernel
theorem d_Ca_takeInformation_77 : decode c_Ca_takeInformation 77 = .ok (.aload_n 0, 1) := by decide +kernel
theorem d_Ca_takeInformation_78 : decode c_Ca_takeInformation 78 = .ok (.getfield 10, 3) := by decide +kernel
theorem d_Ca_takeInformation_81 : decode c_Ca_takeInformation 81 = .ok (.iconst 0, 1) := by decide +kernel
theorem d_Ca_takeInformation_82 : decode c_Ca_takeInformation 82 = .ok (.invokevirtual 201, 3) := by decide +kernel
theorem d_Ca_takeInformation_85 : decode c_Ca_takeInformation 85 = .ok (.iconst 0, 1) := by decide +kernel
theorem d_Ca_takeInformation_86 : decode c_Ca_takeInformation 86 = .ok (.ireturn, 1) := by decide +kernel
theorem d_Ca_takeInformation_87 : decode c_Ca_takeInformation 87 = .ok (.aload_n 0, 1) := by decide +kernel
theorem d_Ca_takeInformation_88 : decode c_Ca_takeInformation 88 = .ok (.getfield 19, 3) := by decide +kernel
theorem d_Ca_takeInformation_91 : decode c_Ca_takeInformation 91 = .ok (.invokevirtual 215, 3) := by decide +kernel
theorem d_Ca_takeInformation_94 : decode c_Ca_takeInformation 94 = .ok (.istore_n 3, 1) := by decide +kernel
theorem d_Ca_takeInformation_95 : decode c_Ca_takeInformation 95 = .ok (.iload_n 3, 1) := by decide +kernel
theorem d_Ca_takeInformation_96 : decode c_Ca_takeInformation 96 = .ok (.iconst (-1), 1) := by decide +kernel
theorem d_Ca_takeInformation_97 : decode c_Ca_takeInformation 97 = .ok (.if_icmp .ne 10, 3) := by decide +kernel
theorem d_Ca_takeInformation_100 : decode c_Ca_takeInformation 100 = .ok (.aload_n 0, 1) := by decide +kernel
theorem d_Ca_takeInformation_101 : decode c_Ca_takeInformation 101 = .ok (.invokevirtual 56, 3) := by decide +kernel
theorem d_Ca_takeInformation_104 : decode c_Ca_takeInformation 104 = .ok (.goto 35, 3) := by decide +kernel
theorem d_Ca_takeInformation_107 : decode c_Ca_takeInformation 107 = .ok (.aload_n 0, 1) := by decide +kernel
theorem d_Ca_takeInformation_108 : decode c_Ca_takeInformation 108 = .ok (.getfield 19, 3) := by decide +kernel
theorem d_Ca_takeInformation_111 : decode c_Ca_takeInformation 111 = .ok (.iload_n 3, 1) := by decide +kernel
theorem d_Ca_takeInformation_112 : decode c_Ca_takeInformation 112 = .ok (.invokevirtual 218, 3) := by decide +kernel
theorem d_Ca_takeInformation_115 : decode c_Ca_takeInformation 115 = .ok (.aload_n 0, 1) := by decide +kernel
theorem d_Ca_takeInformation_116 : decode c_Ca_takeInformation 116 = .ok (.dup, 1) := by decide +kernel
theorem d_Ca_takeInformation_117 : decode c_Ca_takeInformation 117 = .ok (.getfield 120, 3) := by decide +kernel
theorem d_Ca_takeInformation_120 : decode c_Ca_takeInformation 120 = .ok (.iconst 1, 1) := by decide +kernel
theorem d_Ca_takeInformation_121 : decode c_Ca_takeInformation 121 = .ok (.iadd, 1) := by decide +kernel
theorem d_Ca_takeInformation_122 : decode c_Ca_takeInformation 122 = .ok (.putfield 120, 3) := by decide +kernel
theorem d_Ca_takeInformation_125 : decode c_Ca_takeInformation 125 = .ok (.aload_n 0, 1) := by decide +kernel
theorem d_Ca_takeInformation_126 : decode c_Ca_takeInformation 126 = .ok (.getfield 10, 3) := by decide +kernel
theorem d_Ca_takeInformation_129 : decode c_Ca_takeInformation 129 = .ok (.aload_n 0, 1) := by decide +kernel
theorem d_Ca_takeInformation_130 : decode c_Ca_takeInformation 130 = .ok (.getfield 19, 3) := by decide +kernel
theorem d_Ca_takeInformation_133 : decode c_Ca_takeInformation 133 = .ok (.getfield 172, 3) := by decide +kernel
theorem d_Ca_takeInformation_136 : decode c_Ca_takeInformation 136 = .ok (.invokevirtual 221, 3) := by decide +kernel
theorem d_Ca_takeInformation_139 : decode c_Ca_takeInformation 139 = .ok (.iconst 0, 1) := by decide +kernel
theorem d_Ca_takeInformation_140 : decode c_Ca_takeInformation 140 = .ok (.ireturn, 1) := by decide +kernel
theorem d_Li_inf_0 : decode c_Li_inf 0 = .ok (.iload_n 1, 1) := by decide +kernel
theorem d_Li_inf_1 : decode c_Li_inf 1 = .ok (.ifCond .lt 20, 3) := by decide +kernel
theorem d_Li_inf_4 : decode c_Li_inf 4 = .ok (.iload_n 1, 1) := by decide +kernel
theorem d_Li_inf_5 : decode c_Li_inf 5 = .ok (.bipush 32, 2) := by decide +kernel
theorem d_Li_inf_7 : decode c_Li_inf 7 = .ok (.if_icmp .ge 14, 3) := by decide +kernel
theorem d_Li_inf_10 : decode c_Li_inf 10 = .ok (.aload_n 0, 1) := by decide +kernel
theorem d_Li_inf_11 : decode c_Li_inf 11 = .ok (.getfield 11, 3) := by decide +kernel
theorem d_Li_inf_14 : decode c_Li_inf 14 = .ok (.iconst 3, 1) := by decide +kernel
theorem d_Li_inf_15 : decode c_Li_inf 15 = .ok (.iload_n 1, 1) := by decide +kernel
theorem d_Li_inf_16 : decode c_Li_inf 16 = .ok (.iadd, 1) := by decide +kernel
theorem d_Li_inf_17 : decode c_Li_inf 17 = .ok (.iaload, 1) := by decide +kernel
theorem d_Li_inf_18 : decode c_Li_inf 18 = .ok (.goto 4, 3) := by decide +kernel
theorem d_Li_inf_21 : decode c_Li_inf 21 = .ok (.iconst 0, 1) := by decide +kernel
theorem d_Li_inf_22 : decode c_Li_inf 22 = .ok (.ireturn, 1) := by decide +kernel
theorem d_Co_add_0 : decode c_Co_add 0 = .ok (.aload_n 0, 1) := by decide +kernel
theorem d_Co_add_1 : decode c_Co_add 1 = .ok (.getfield 15, 3) := by decide +kernel
theorem d_Co_add_4 : decode c_Co_add 4 = .ok (.bipush 40, 2) := by decide +kernel
theorem d_Co_add_6 : decode c_Co_add 6 = .ok (.if_icmp .ge 23, 3) := by decide +kernel
theorem d_Co_add_9 : decode c_Co_add 9 = .ok (.aload_n 0, 1) := by decide +kernel
theorem d_Co_add_10 : decode c_Co_add 10 = .ok (.getfield 11, 3) := by decide +kernel
theorem d_Co_add_13 : decode c_Co_add 13 = .ok (.aload_n 0, 1) := by decide +kernel
theorem d_Co_add_14 : decode c_Co_add 14 = .ok (.dup, 1) := by decide +kernel
theorem d_Co_add_15 : decode c_Co_add 15 = .ok (.getfield 15, 3) := by decide +kernel
theorem d_Co_add_18 : decode c_Co_add 18 = .ok (.dup_x1, 1) := by decide +kernel
theorem d_Co_add_19 : decode c_Co_add 19 = .ok (.iconst 1, 1) := by decide +kernel
theorem d_Co_add_20 : decode c_Co_add 20 = .ok (.iadd, 1) := by decide +kernel
theorem d_Co_add_21 : decode c_Co_add 21 = .ok (.putfield 15, 3) := by decide +kernel
theorem d_Co_add_24 : decode c_Co_add 24 = .ok (.iload_n 1, 1) := by decide +kernel
theorem d_Co_add_25 : decode c_Co_add 25 = .ok (.iastore, 1) := by decide +kernel
theorem d_Co_add_26 : decode c_Co_add 26 = .ok (.goto 8, 3) := by decide +kernel
theorem d_Co_add_29 : decode c_Co_add 29 = .ok (.aload_n 0, 1) := by decide +kernel
theorem d_Co_add_30 : decode c_Co_add 30 = .ok (.iconst 1, 1) := by decide +kernel
theorem d_Co_add_31 : decode c_Co_add 31 = .ok (.putfield 19, 3) := by decide +kernel
theorem d_Co_add_34 : decode c_Co_add 34 = .ok (.return_, 1) := by decide +kernel
theorem d_Li_sendReady_0 : decode c_Li_sendReady 0 = .ok (.aload_n 0, 1) := by decide +kernel
theorem d_Li_sendReady_1 : decode c_Li_sendReady 1 = .ok (.sipush 128, 3) := by decide +kernel
theorem d_Li_sendReady_4 : decode c_Li_sendReady 4 = .ok (.bipush 16, 2) := by decide +kernel
theorem d_Li_sendReady_6 : decode c_Li_sendReady 6 = .ok (.aload_n 0, 1) := by decide +kernel
theorem d_Li_sendReady_7 : decode c_Li_sendReady 7 = .ok (.getfield 34, 3) := by decide +kernel
theorem d_Li_sendReady_10 : decode c_Li_sendReady 10 = .ok (.imul, 1) := by decide +kernel
theorem d_Li_sendReady_11 : decode c_Li_sendReady 11 = .ok (.iadd, 1) := by decide +kernel
theorem d_Li_sendReady_12 : decode c_Li_sendReady 12 = .ok (.iload_n 1, 1) := by decide +kernel
theorem d_Li_sendReady_13 : decode c_Li_sendReady 13 = .ok (.iadd, 1) := by decide +kernel
theorem d_Li_sendReady_14 : decode c_Li_sendReady 14 = .ok (.invokevirtual 58, 3) := by decide +kernel
theorem d_Li_sendReady_17 : decode c_Li_sendReady 17 = .ok (.aload_n 0, 1) := by decide +kernel
theorem d_Li_sendReady_18 : decode c_Li_sendReady 18 = .ok (.invokevirtual 62, 3) := by decide +kernel
theorem d_Li_sendReady_21 : decode c_Li_sendReady 21 = .ok (.aload_n 0, 1) := by decide +kernel
theorem d_Li_sendReady_22 : decode c_Li_sendReady 22 = .ok (.iconst 0, 1) := by decide +kernel
theorem d_Li_sendReady_23 : decode c_Li_sendReady 23 = .ok (.putfield 40, 3) := by decide +kernel
theorem d_Li_sendReady_26 : decode c_Li_sendReady 26 = .ok (.return_, 1) := by decide +kernel
theorem d_Li_begin_0 : decode c_Li_begin 0 = .ok (.aload_n 0, 1) := by decide +kernel
theorem d_Li_begin_1 : decode c_Li_begin 1 = .ok (.getfield 15, 3) := by decide +kernel
theorem d_Li_begin_4 : decode c_Li_begin 4 = .ok (.iconst 0, 1) := by decide +kernel
theorem d_Li_begin_5 : decode c_Li_begin 5 = .ok (.iconst 0, 1) := by decide +kernel
theorem d_Li_begin_6 : decode c_Li_begin 6 = .ok (.iastore, 1) := by decide +kernel
theorem d_Li_begin_7 : decode c_Li_begin 7 = .ok (.aload_n 0, 1) := by decide +kernel
theorem d_Li_begin_8 : decode c_Li_begin 8 = .ok (.getfield 15, 3) := by decide +kernel
theorem d_Li_begin_11 : decode c_Li_begin 11 = .ok (.iconst 1, 1) := by decide +kernel
theorem d_Li_begin_12 : decode c_Li_begin 12 = .ok (.iload_n 1, 1) := by decide +kernel
theorem d_Li_begin_13 : decode c_Li_begin 13 = .ok (.iastore, 1) := by decide +kernel
theorem d_Li_begin_14 : decode c_Li_begin 14 = .ok (.aload_n 0, 1) := by decide +kernel
theorem d_Li_begin_15 : decode c_Li_begin 15 = .ok (.getfield 15, 3) := by decide +kernel
theorem d_Li_begin_18 : decode c_Li_begin 18 = .ok (.iconst 2, 1) := by decide +kernel
theorem d_Li_begin_19 : decode c_Li_begin 19 = .ok (.iconst 0, 1) := by decide +kernel
theorem d_Li_begin_20 : decode c_Li_begin 20 = .ok (.iastore, 1) := by decide +kernel
theorem d_Li_begin_21 : decode c_Li_begin 21 = .ok (.aload_n 0, 1) := by decide +kernel
theorem d_Li_begin_22 : decode c_Li_begin 22 = .ok (.iconst 3, 1) := by decide +kernel
theorem d_Li_begin_23 : decode c_Li_begin 23 = .ok (.putfield 31, 3) := by decide +kernel
theorem d_Li_begin_26 : decode c_Li_begin 26 = .ok (.return_, 1) := by decide +kernel
theorem d_Li_finish_0 : decode c_Li_finish 0 = .ok (.aload_n 0, 1) := by decide +kernel
theorem d_Li_finish_1 : decode c_Li_finish 1 = .ok (.getfield 15, 3) := by decide +kernel
theorem d_Li_finish_4 : decode c_Li_finish 4 = .ok (.aload_n 0, 1) := by decide +kernel
theorem d_Li_finish_5 : decode c_Li_finish 5 = .ok (.getfield 31, 3) := by decide +kernel
theorem d_Li_finish_8 : decode c_Li_finish 8 = .ok (.aload_n 0, 1) := by decide +kernel
theorem d_Li_finish_9 : decode c_Li_finish 9 = .ok (.getfield 15, 3) := by decide +kernel
theorem d_Li_finish_12 : decode c_Li_finish 12 = .ok (.aload_n 0, 1) := by decide +kernel
theorem d_Li_finish_13 : decode c_Li_finish 13 = .ok (.getfield 31, 3) := by decide +kernel
theorem d_Li_finish_16 : decode c_Li_finish 16 = .ok (.invokestatic 54, 3) := by decide +kernel
theorem d_Li_finish_19 : decode c_Li_finish 19 = .ok (.iastore, 1) := by decide +kernel
theorem d_Li_finish_20 : decode c_Li_finish 20 = .ok (.aload_n 0, 1) := by decide +kernel
theorem d_Li_finish_21 : decode c_Li_finish 21 = .ok (.dup, 1) := by decide +kernel
theorem d_Li_finish_22 : decode c_Li_finish 22 = .ok (.getfield 31, 3) := by decide +kernel
theorem d_Li_finish_25 : decode c_Li_finish 25 = .ok (.iconst 1, 1) := by decide +kernel
theorem d_Li_finish_26 : decode c_Li_finish 26 = .ok (.iadd, 1) := by decide +kernel
theorem d_Li_finish_27 : decode c_Li_finish 27 = .ok (.putfield 31, 3) := by decide +kernel
theorem d_Li_finish_30 : decode c_Li_finish 30 = .ok (.return_, 1) := by decide +kernel
theorem d_Wo_perform_0 : decode c_Wo_perform 0 = .ok (.aload_n 0, 1) := by decide +kernel
theorem d_Wo_perform_1 : decode c_Wo_perform 1 = .ok (.getfield 21, 3) := by decide +kernel
theorem d_Wo_perform_4 : decode c_Wo_perform 4 = .ok (.invokevirtual 50, 3) := by decide +kernel
theorem d_Wo_perform_7 : decode c_Wo_perform 7 = .ok (.ifCond .ne 7, 3) := by decide +kernel
theorem d_Wo_perform_10 : decode c_Wo_perform 10 = .ok (.sipush 26368, 3) := by decide +kernel
theorem d_Wo_perform_13 : decode c_Wo_perform 13 = .ok (.ireturn, 1) := by decide +kernel
theorem d_Wo_perform_14 : decode c_Wo_perform 14 = .ok (.aload_n 0, 1) := by decide +kernel
theorem d_Wo_perform_15 : decode c_Wo_perform 15 = .ok (.getfield 21, 3) := by decide +kernel
theorem d_Wo_perform_18 : decode c_Wo_perform 18 = .ok (.invokevirtual 54, 3) := by decide +kernel
theorem d_Wo_perform_21 : decode c_Wo_perform 21 = .ok (.ifCond .eq 7, 3) := by decide +kernel
theorem d_Wo_perform_24 : decode c_Wo_perform 24 = .ok (.sipush 28160, 3) := by decide +kernel
theorem d_Wo_perform_27 : decode c_Wo_perform 27 = .ok (.ireturn, 1) := by decide +kernel
theorem d_Wo_perform_28 : decode c_Wo_perform 28 = .ok (.aload_n 0, 1) := by decide +kernel
theorem d_Wo_perform_29 : decode c_Wo_perform 29 = .ok (.getfield 21, 3) := by decide +kernel
theorem d_Wo_perform_32 : decode c_Wo_perform 32 = .ok (.invokevirtual 58, 3) := by decide +kernel
theorem d_Wo_perform_35 : decode c_Wo_perform 35 = .ok (.lookupswitch 74 #[(32, 64), (36, 69), (164, 49), (176, 54), (214, 59)], 49) := by decide +kernel
theorem d_Wo_perform_84 : decode c_Wo_perform 84 = .ok (.aload_n 0, 1) := by decide +kernel
theorem d_Wo_perform_85 : decode c_Wo_perform 85 = .ok (.invokevirtual 61, 3) := by decide +kernel
theorem d_Wo_perform_88 : decode c_Wo_perform 88 = .ok (.ireturn, 1) := by decide +kernel
theorem d_Wo_perform_89 : decode c_Wo_perform 89 = .ok (.aload_n 0, 1) := by decide +kernel
theorem d_Wo_perform_90 : decode c_Wo_perform 90 = .ok (.invokevirtual 64, 3) := by decide +kernel
theorem d_Wo_perform_93 : decode c_Wo_perform 93 = .ok (.ireturn, 1) := by decide +kernel
theorem d_Wo_perform_94 : decode c_Wo_perform 94 = .ok (.aload_n 0, 1) := by decide +kernel
theorem d_Wo_perform_95 : decode c_Wo_perform 95 = .ok (.invokevirtual 67, 3) := by decide +kernel
theorem d_Wo_perform_98 : decode c_Wo_perform 98 = .ok (.ireturn, 1) := by decide +kernel
theorem d_Wo_perform_99 : decode c_Wo_perform 99 = .ok (.aload_n 0, 1) := by decide +kernel
theorem d_Wo_perform_100 : decode c_Wo_perform 100 = .ok (.invokevirtual 70, 3) := by decide +kernel
theorem d_Wo_perform_103 : decode c_Wo_perform 103 = .ok (.ireturn, 1) := by decide +kernel
theorem d_Wo_perform_104 : decode c_Wo_perform 104 = .ok (.aload_n 0, 1) := by decide +kernel
theorem d_Wo_perform_105 : decode c_Wo_perform 105 = .ok (.invokevirtual 73, 3) := by decide +kernel
theorem d_Wo_perform_108 : decode c_Wo_perform 108 = .ok (.ireturn, 1) := by decide +kernel
theorem d_Wo_perform_109 : decode c_Wo_perform 109 = .ok (.sipush 27904, 3) := by decide +kernel
theorem d_Wo_perform_112 : decode c_Wo_perform 112 = .ok (.ireturn, 1) := by decide +kernel
theorem d_Co_parse_0 : decode c_Co_parse 0 = .ok (.aload_n 0, 1) := by decide +kernel
theorem d_Co_parse_1 : decode c_Co_parse 1 = .ok (.iconst 0, 1) := by decide +kernel
theorem d_Co_parse_2 : decode c_Co_parse 2 = .ok (.putfield 23, 3) := by decide +kernel
theorem d_Co_parse_5 : decode c_Co_parse 5 = .ok (.aload_n 0, 1) := by decide +kernel
theorem d_Co_parse_6 : decode c_Co_parse 6 = .ok (.iconst (-1), 1) := by decide +kernel
theorem d_Co_parse_7 : decode c_Co_parse 7 = .ok (.putfield 26, 3) := by decide +kernel
theorem d_Co_parse_10 : decode c_Co_parse 10 = .ok (.aload_n 0, 1) := by decide +kernel
theorem d_Co_parse_11 : decode c_Co_parse 11 = .ok (.getfield 19, 3) := by decide +kernel
theorem d_Co_parse_14 : decode c_Co_parse 14 = .ok (.ifCond .ne 11, 3) := by decide +kernel
theorem d_Co_parse_17 : decode c_Co_parse 17 = .ok (.aload_n 0, 1) := by decide +kernel
theorem d_Co_parse_18 : decode c_Co_parse 18 = .ok (.getfield 15, 3) := by decide +kernel
theorem d_Co_parse_21 : decode c_Co_parse 21 = .ok (.iconst 4, 1) := by decide +kernel
theorem d_Co_parse_22 : decode c_Co_parse 22 = .ok (.if_icmp .ge 5, 3) := by decide +kernel
theorem d_Co_parse_25 : decode c_Co_parse 25 = .ok (.iconst 0, 1) := by decide +kernel
theorem d_Co_parse_26 : decode c_Co_parse 26 = .ok (.ireturn, 1) := by decide +kernel
theorem d_Co_parse_27 : decode c_Co_parse 27 = .ok (.aload_n 0, 1) := by decide +kernel
theorem d_Co_parse_28 : decode c_Co_parse 28 = .ok (.getfield 15, 3) := by decide +kernel
theorem d_Co_parse_31 : decode c_Co_parse 31 = .ok (.iconst 5, 1) := by decide +kernel
theorem d_Co_parse_32 : decode c_Co_parse 32 = .ok (.if_icmp .le 13, 3) := by decide +kernel
theorem d_Co_parse_35 : decode c_Co_parse 35 = .ok (.aload_n 0, 1) := by decide +kernel
