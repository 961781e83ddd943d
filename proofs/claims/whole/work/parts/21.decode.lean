/-! what each instruction is, part 0 -/
theorem d_D_init_0 : decode (jyc Y_D_init) 0 = .ok (.aload_n 0, 1) := by decide +kernel
theorem d_D_init_1 : decode (jyc Y_D_init) 1 = .ok (.invokespecial 1, 3) := by decide +kernel
theorem d_D_init_4 : decode (jyc Y_D_init) 4 = .ok (.aload_n 0, 1) := by decide +kernel
theorem d_D_init_5 : decode (jyc Y_D_init) 5 = .ok (.bipush 64, 2) := by decide +kernel
theorem d_D_init_7 : decode (jyc Y_D_init) 7 = .ok (.newarray .int, 2) := by decide +kernel
theorem d_D_init_9 : decode (jyc Y_D_init) 9 = .ok (.putfield 9, 3) := by decide +kernel
theorem d_D_init_12 : decode (jyc Y_D_init) 12 = .ok (.aload_n 0, 1) := by decide +kernel
theorem d_D_init_13 : decode (jyc Y_D_init) 13 = .ok (.iconst 3, 1) := by decide +kernel
theorem d_D_init_14 : decode (jyc Y_D_init) 14 = .ok (.anewarray 13, 3) := by decide +kernel
theorem d_D_init_17 : decode (jyc Y_D_init) 17 = .ok (.putfield 15, 3) := by decide +kernel
theorem d_D_init_20 : decode (jyc Y_D_init) 20 = .ok (.iconst 0, 1) := by decide +kernel
theorem d_D_init_21 : decode (jyc Y_D_init) 21 = .ok (.istore_n 1, 1) := by decide +kernel
theorem d_D_init_22 : decode (jyc Y_D_init) 22 = .ok (.iload_n 1, 1) := by decide +kernel
theorem d_D_init_23 : decode (jyc Y_D_init) 23 = .ok (.iconst 3, 1) := by decide +kernel
theorem d_D_init_24 : decode (jyc Y_D_init) 24 = .ok (.if_icmp .ge 22, 3) := by decide +kernel
theorem d_D_init_27 : decode (jyc Y_D_init) 27 = .ok (.aload_n 0, 1) := by decide +kernel
theorem d_D_init_28 : decode (jyc Y_D_init) 28 = .ok (.getfield 15, 3) := by decide +kernel
theorem d_D_init_31 : decode (jyc Y_D_init) 31 = .ok (.iload_n 1, 1) := by decide +kernel
theorem d_D_init_32 : decode (jyc Y_D_init) 32 = .ok (.new 13, 3) := by decide +kernel
theorem d_D_init_35 : decode (jyc Y_D_init) 35 = .ok (.dup, 1) := by decide +kernel
theorem d_D_init_36 : decode (jyc Y_D_init) 36 = .ok (.invokespecial 19, 3) := by decide +kernel
theorem d_D_init_39 : decode (jyc Y_D_init) 39 = .ok (.aastore, 1) := by decide +kernel
theorem d_D_init_40 : decode (jyc Y_D_init) 40 = .ok (.iinc 1 1, 3) := by decide +kernel
theorem d_D_init_43 : decode (jyc Y_D_init) 43 = .ok (.goto (-21), 3) := by decide +kernel
theorem d_D_init_46 : decode (jyc Y_D_init) 46 = .ok (.aload_n 0, 1) := by decide +kernel
theorem d_D_init_47 : decode (jyc Y_D_init) 47 = .ok (.iconst 4, 1) := by decide +kernel
theorem d_D_init_48 : decode (jyc Y_D_init) 48 = .ok (.anewarray 20, 3) := by decide +kernel
theorem d_D_init_51 : decode (jyc Y_D_init) 51 = .ok (.putfield 22, 3) := by decide +kernel
theorem d_D_init_54 : decode (jyc Y_D_init) 54 = .ok (.iconst 0, 1) := by decide +kernel
theorem d_D_init_55 : decode (jyc Y_D_init) 55 = .ok (.istore_n 1, 1) := by decide +kernel
theorem d_D_init_56 : decode (jyc Y_D_init) 56 = .ok (.iload_n 1, 1) := by decide +kernel
theorem d_D_init_57 : decode (jyc Y_D_init) 57 = .ok (.iconst 4, 1) := by decide +kernel
theorem d_D_init_58 : decode (jyc Y_D_init) 58 = .ok (.if_icmp .ge 22, 3) := by decide +kernel
theorem d_D_init_61 : decode (jyc Y_D_init) 61 = .ok (.aload_n 0, 1) := by decide +kernel
theorem d_D_init_62 : decode (jyc Y_D_init) 62 = .ok (.getfield 22, 3) := by decide +kernel
theorem d_D_init_65 : decode (jyc Y_D_init) 65 = .ok (.iload_n 1, 1) := by decide +kernel
theorem d_D_init_66 : decode (jyc Y_D_init) 66 = .ok (.new 20, 3) := by decide +kernel
theorem d_D_init_69 : decode (jyc Y_D_init) 69 = .ok (.dup, 1) := by decide +kernel
theorem d_D_init_70 : decode (jyc Y_D_init) 70 = .ok (.invokespecial 26, 3) := by decide +kernel
theorem d_D_init_73 : decode (jyc Y_D_init) 73 = .ok (.aastore, 1) := by decide +kernel
theorem d_D_init_74 : decode (jyc Y_D_init) 74 = .ok (.iinc 1 1, 3) := by decide +kernel
theorem d_D_init_77 : decode (jyc Y_D_init) 77 = .ok (.goto (-21), 3) := by decide +kernel
theorem d_D_init_80 : decode (jyc Y_D_init) 80 = .ok (.aload_n 0, 1) := by decide +kernel
theorem d_D_init_81 : decode (jyc Y_D_init) 81 = .ok (.new 27, 3) := by decide +kernel
theorem d_D_init_84 : decode (jyc Y_D_init) 84 = .ok (.dup, 1) := by decide +kernel
theorem d_D_init_85 : decode (jyc Y_D_init) 85 = .ok (.invokespecial 29, 3) := by decide +kernel
theorem d_D_init_88 : decode (jyc Y_D_init) 88 = .ok (.putfield 30, 3) := by decide +kernel
theorem d_D_init_91 : decode (jyc Y_D_init) 91 = .ok (.aload_n 0, 1) := by decide +kernel
theorem d_D_init_92 : decode (jyc Y_D_init) 92 = .ok (.bipush 24, 2) := by decide +kernel
theorem d_D_init_94 : decode (jyc Y_D_init) 94 = .ok (.newarray .int, 2) := by decide +kernel
theorem d_D_init_96 : decode (jyc Y_D_init) 96 = .ok (.putfield 34, 3) := by decide +kernel
theorem d_D_init_99 : decode (jyc Y_D_init) 99 = .ok (.aload_n 0, 1) := by decide +kernel
theorem d_D_init_100 : decode (jyc Y_D_init) 100 = .ok (.bipush 64, 2) := by decide +kernel
theorem d_D_init_102 : decode (jyc Y_D_init) 102 = .ok (.newarray .int, 2) := by decide +kernel
theorem d_D_init_104 : decode (jyc Y_D_init) 104 = .ok (.putfield 37, 3) := by decide +kernel
theorem d_D_init_107 : decode (jyc Y_D_init) 107 = .ok (.aload_n 0, 1) := by decide +kernel
theorem d_D_init_108 : decode (jyc Y_D_init) 108 = .ok (.new 40, 3) := by decide +kernel
theorem d_D_init_111 : decode (jyc Y_D_init) 111 = .ok (.dup, 1) := by decide +kernel
theorem d_D_init_112 : decode (jyc Y_D_init) 112 = .ok (.invokespecial 42, 3) := by decide +kernel
theorem d_D_init_115 : decode (jyc Y_D_init) 115 = .ok (.putfield 43, 3) := by decide +kernel
theorem d_D_init_118 : decode (jyc Y_D_init) 118 = .ok (.aload_n 0, 1) := by decide +kernel
theorem d_D_init_119 : decode (jyc Y_D_init) 119 = .ok (.bipush 6, 2) := by decide +kernel
theorem d_D_init_121 : decode (jyc Y_D_init) 121 = .ok (.newarray .boolean, 2) := by decide +kernel
theorem d_D_init_123 : decode (jyc Y_D_init) 123 = .ok (.putfield 47, 3) := by decide +kernel
theorem d_D_init_126 : decode (jyc Y_D_init) 126 = .ok (.return_, 1) := by decide +kernel
theorem d_D_key_0 : decode (jyc Y_D_key) 0 = .ok (.aload_n 0, 1) := by decide +kernel
theorem d_D_key_1 : decode (jyc Y_D_key) 1 = .ok (.getfield 51, 3) := by decide +kernel
theorem d_D_key_4 : decode (jyc Y_D_key) 4 = .ok (.ifCond .le 13, 3) := by decide +kernel
theorem d_D_key_7 : decode (jyc Y_D_key) 7 = .ok (.new 55, 3) := by decide +kernel
theorem d_D_key_10 : decode (jyc Y_D_key) 10 = .ok (.dup, 1) := by decide +kernel
theorem d_D_key_11 : decode (jyc Y_D_key) 11 = .ok (.ldc 57, 2) := by decide +kernel
theorem d_D_key_13 : decode (jyc Y_D_key) 13 = .ok (.invokespecial 59, 3) := by decide +kernel
theorem d_D_key_16 : decode (jyc Y_D_key) 16 = .ok (.athrow, 1) := by decide +kernel
theorem d_D_key_17 : decode (jyc Y_D_key) 17 = .ok (.aload_n 0, 1) := by decide +kernel
theorem d_D_key_18 : decode (jyc Y_D_key) 18 = .ok (.lload_n 1, 1) := by decide +kernel
theorem d_D_key_19 : decode (jyc Y_D_key) 19 = .ok (.putfield 62, 3) := by decide +kernel
theorem d_D_key_22 : decode (jyc Y_D_key) 22 = .ok (.aload_n 0, 1) := by decide +kernel
theorem d_D_key_23 : decode (jyc Y_D_key) 23 = .ok (.lload_n 3, 1) := by decide +kernel
theorem d_D_key_24 : decode (jyc Y_D_key) 24 = .ok (.putfield 66, 3) := by decide +kernel
theorem d_D_key_27 : decode (jyc Y_D_key) 27 = .ok (.return_, 1) := by decide +kernel
theorem d_D_word_0 : decode (jyc Y_D_word) 0 = .ok (.iload_n 1, 1) := by decide +kernel
theorem d_D_word_1 : decode (jyc Y_D_word) 1 = .ok (.ifCond .lt 16, 3) := by decide +kernel
theorem d_D_word_4 : decode (jyc Y_D_word) 4 = .ok (.iload_n 1, 1) := by decide +kernel
theorem d_D_word_5 : decode (jyc Y_D_word) 5 = .ok (.bipush 64, 2) := by decide +kernel
theorem d_D_word_7 : decode (jyc Y_D_word) 7 = .ok (.if_icmp .ge 10, 3) := by decide +kernel
theorem d_D_word_10 : decode (jyc Y_D_word) 10 = .ok (.iload_n 2, 1) := by decide +kernel
theorem d_D_word_11 : decode (jyc Y_D_word) 11 = .ok (.invokestatic 69, 3) := by decide +kernel
theorem d_D_word_14 : decode (jyc Y_D_word) 14 = .ok (.ifCond .ne 5, 3) := by decide +kernel
theorem d_D_word_17 : decode (jyc Y_D_word) 17 = .ok (.iconst 0, 1) := by decide +kernel
theorem d_D_word_18 : decode (jyc Y_D_word) 18 = .ok (.ireturn, 1) := by decide +kernel
theorem d_D_word_19 : decode (jyc Y_D_word) 19 = .ok (.aload_n 0, 1) := by decide +kernel
theorem d_D_word_20 : decode (jyc Y_D_word) 20 = .ok (.getfield 9, 3) := by decide +kernel
theorem d_D_word_23 : decode (jyc Y_D_word) 23 = .ok (.iload_n 1, 1) := by decide +kernel
theorem d_D_word_24 : decode (jyc Y_D_word) 24 = .ok (.iload_n 2, 1) := by decide +kernel
theorem d_D_word_25 : decode (jyc Y_D_word) 25 = .ok (.iastore, 1) := by decide +kernel
theorem d_D_word_26 : decode (jyc Y_D_word) 26 = .ok (.iconst 1, 1) := by decide +kernel
theorem d_D_word_27 : decode (jyc Y_D_word) 27 = .ok (.ireturn, 1) := by decide +kernel
theorem d_D_file_0 : decode (jyc Y_D_file) 0 = .ok (.iload_n 1, 1) := by decide +kernel
theorem d_D_file_1 : decode (jyc Y_D_file) 1 = .ok (.iconst 1, 1) := by decide +kernel
theorem d_D_file_2 : decode (jyc Y_D_file) 2 = .ok (.if_icmp .lt 9, 3) := by decide +kernel
theorem d_D_file_5 : decode (jyc Y_D_file) 5 = .ok (.iload_n 1, 1) := by decide +kernel
theorem d_D_file_6 : decode (jyc Y_D_file) 6 = .ok (.bipush 64, 2) := by decide +kernel
theorem d_D_file_8 : decode (jyc Y_D_file) 8 = .ok (.if_icmp .le 13, 3) := by decide +kernel
theorem d_D_file_11 : decode (jyc Y_D_file) 11 = .ok (.new 75, 3) := by decide +kernel
theorem d_D_file_14 : decode (jyc Y_D_file) 14 = .ok (.dup, 1) := by decide +kernel
theorem d_D_file_15 : decode (jyc Y_D_file) 15 = .ok (.ldc 77, 2) := by decide +kernel
theorem d_D_file_17 : decode (jyc Y_D_file) 17 = .ok (.invokespecial 79, 3) := by decide +kernel
theorem d_D_file_20 : decode (jyc Y_D_file) 20 = .ok (.athrow, 1) := by decide +kernel
theorem d_D_file_21 : decode (jyc Y_D_file) 21 = .ok (.aload_n 0, 1) := by decide +kernel
theorem d_D_file_22 : decode (jyc Y_D_file) 22 = .ok (.getfield 51, 3) := by decide +kernel
theorem d_D_file_25 : decode (jyc Y_D_file) 25 = .ok (.iconst 3, 1) := by decide +kernel
theorem d_D_file_26 : decode (jyc Y_D_file) 26 = .ok (.if_icmp .lt 13, 3) := by decide +kernel
theorem d_D_file_29 : decode (jyc Y_D_file) 29 = .ok (.new 55, 3) := by decide +kernel
theorem d_D_file_32 : decode (jyc Y_D_file) 32 = .ok (.dup, 1) := by decide +kernel
theorem d_D_file_33 : decode (jyc Y_D_file) 33 = .ok (.ldc 80, 2) := by decide +kernel
theorem d_D_file_35 : decode (jyc Y_D_file) 35 = .ok (.invokespecial 59, 3) := by decide +kernel
theorem d_D_file_38 : decode (jyc Y_D_file) 38 = .ok (.athrow, 1) := by decide +kernel
theorem d_D_file_39 : decode (jyc Y_D_file) 39 = .ok (.aload_n 0, 1) := by decide +kernel
theorem d_D_file_40 : decode (jyc Y_D_file) 40 = .ok (.getfield 51, 3) := by decide +kernel
theorem d_D_file_43 : decode (jyc Y_D_file) 43 = .ok (.istore_n 2, 1) := by decide +kernel
theorem d_D_file_44 : decode (jyc Y_D_file) 44 = .ok (.aload_n 0, 1) := by decide +kernel
theorem d_D_file_45 : decode (jyc Y_D_file) 45 = .ok (.getfield 15, 3) := by decide +kernel
theorem d_D_file_48 : decode (jyc Y_D_file) 48 = .ok (.iload_n 2, 1) := by decide +kernel
theorem d_D_file_49 : decode (jyc Y_D_file) 49 = .ok (.aaload, 1) := by decide +kernel
theorem d_D_file_50 : decode (jyc Y_D_file) 50 = .ok (.aload_n 0, 1) := by decide +kernel
theorem d_D_file_51 : decode (jyc Y_D_file) 51 = .ok (.getfield 62, 3) := by decide +kernel
theorem d_D_file_54 : decode (jyc Y_D_file) 54 = .ok (.aload_n 0, 1) := by decide +kernel
theorem d_D_file_55 : decode (jyc Y_D_file) 55 = .ok (.getfield 66, 3) := by decide +kernel
theorem d_D_file_58 : decode (jyc Y_D_file) 58 = .ok (.iload_n 2, 1) := by decide +kernel
theorem d_D_file_59 : decode (jyc Y_D_file) 59 = .ok (.invokevirtual 82, 3) := by decide +kernel
theorem d_D_file_62 : decode (jyc Y_D_file) 62 = .ok (.aload_n 0, 1) := by decide +kernel
theorem d_D_file_63 : decode (jyc Y_D_file) 63 = .ok (.getfield 15, 3) := by decide +kernel
theorem d_D_file_66 : decode (jyc Y_D_file) 66 = .ok (.iload_n 2, 1) := by decide +kernel
theorem d_D_file_67 : decode (jyc Y_D_file) 67 = .ok (.aaload, 1) := by decide +kernel
theorem d_D_file_68 : decode (jyc Y_D_file) 68 = .ok (.aload_n 0, 1) := by decide +kernel
theorem d_D_file_69 : decode (jyc Y_D_file) 69 = .ok (.getfield 9, 3) := by decide +kernel
theorem d_D_file_72 : decode (jyc Y_D_file) 72 = .ok (.iload_n 1, 1) := by decide +kernel
theorem d_D_file_73 : decode (jyc Y_D_file) 73 = .ok (.invokevirtual 86, 3) := by decide +kernel
theorem d_D_file_76 : decode (jyc Y_D_file) 76 = .ok (.aload_n 0, 1) := by decide +kernel
theorem d_D_file_77 : decode (jyc Y_D_file) 77 = .ok (.iload_n 2, 1) := by decide +kernel
theorem d_D_file_78 : decode (jyc Y_D_file) 78 = .ok (.iconst 1, 1) := by decide +kernel
theorem d_D_file_79 : decode (jyc Y_D_file) 79 = .ok (.iadd, 1) := by decide +kernel
theorem d_D_file_80 : decode (jyc Y_D_file) 80 = .ok (.putfield 51, 3) := by decide +kernel
theorem d_D_file_83 : decode (jyc Y_D_file) 83 = .ok (.iload_n 2, 1) := by decide +kernel
theorem d_D_file_84 : decode (jyc Y_D_file) 84 = .ok (.ireturn, 1) := by decide +kernel
theorem d_D_place_0 : decode (jyc Y_D_place) 0 = .ok (.aload_n 0, 1) := by decide +kernel
theorem d_D_place_1 : decode (jyc Y_D_place) 1 = .ok (.iload_n 1, 1) := by decide +kernel
theorem d_D_place_2 : decode (jyc Y_D_place) 2 = .ok (.invokevirtual 90, 3) := by decide +kernel
theorem d_D_place_5 : decode (jyc Y_D_place) 5 = .ok (.ifCond .eq 10, 3) := by decide +kernel
theorem d_D_place_8 : decode (jyc Y_D_place) 8 = .ok (.iload_n 2, 1) := by decide +kernel
theorem d_D_place_9 : decode (jyc Y_D_place) 9 = .ok (.invokestatic 93, 3) := by decide +kernel
theorem d_D_place_12 : decode (jyc Y_D_place) 12 = .ok (.ifCond .ne 13, 3) := by decide +kernel
theorem d_D_place_15 : decode (jyc Y_D_place) 15 = .ok (.new 96, 3) := by decide +kernel
theorem d_D_place_18 : decode (jyc Y_D_place) 18 = .ok (.dup, 1) := by decide +kernel
theorem d_D_place_19 : decode (jyc Y_D_place) 19 = .ok (.ldc 98, 2) := by decide +kernel
theorem d_D_place_21 : decode (jyc Y_D_place) 21 = .ok (.invokespecial 100, 3) := by decide +kernel
theorem d_D_place_24 : decode (jyc Y_D_place) 24 = .ok (.athrow, 1) := by decide +kernel
theorem d_D_place_25 : decode (jyc Y_D_place) 25 = .ok (.aload_n 0, 1) := by decide +kernel
theorem d_D_place_26 : decode (jyc Y_D_place) 26 = .ok (.getfield 22, 3) := by decide +kernel
theorem d_D_place_29 : decode (jyc Y_D_place) 29 = .ok (.iload_n 2, 1) := by decide +kernel
theorem d_D_place_30 : decode (jyc Y_D_place) 30 = .ok (.aaload, 1) := by decide +kernel
theorem d_D_place_31 : decode (jyc Y_D_place) 31 = .ok (.getfield 101, 3) := by decide +kernel
theorem d_D_place_34 : decode (jyc Y_D_place) 34 = .ok (.iload_n 1, 1) := by decide +kernel
theorem d_D_place_35 : decode (jyc Y_D_place) 35 = .ok (.aaload, 1) := by decide +kernel
theorem d_D_place_36 : decode (jyc Y_D_place) 36 = .ok (.astore_n 3, 1) := by decide +kernel
theorem d_D_place_37 : decode (jyc Y_D_place) 37 = .ok (.aload_n 3, 1) := by decide +kernel
theorem d_D_place_38 : decode (jyc Y_D_place) 38 = .ok (.getfield 105, 3) := by decide +kernel
theorem d_D_place_41 : decode (jyc Y_D_place) 41 = .ok (.ifCond .eq 5, 3) := by decide +kernel
theorem d_D_place_44 : decode (jyc Y_D_place) 44 = .ok (.iconst 0, 1) := by decide +kernel
theorem d_D_place_45 : decode (jyc Y_D_place) 45 = .ok (.ireturn, 1) := by decide +kernel
theorem d_D_place_46 : decode (jyc Y_D_place) 46 = .ok (.aload_n 3, 1) := by decide +kernel
theorem d_D_place_47 : decode (jyc Y_D_place) 47 = .ok (.aload_n 0, 1) := by decide +kernel
theorem d_D_place_48 : decode (jyc Y_D_place) 48 = .ok (.getfield 15, 3) := by decide +kernel
theorem d_D_place_51 : decode (jyc Y_D_place) 51 = .ok (.iload_n 1, 1) := by decide +kernel
theorem d_D_place_52 : decode (jyc Y_D_place) 52 = .ok (.aaload, 1) := by decide +kernel
theorem d_D_place_53 : decode (jyc Y_D_place) 53 = .ok (.getfield 111, 3) := by decide +kernel
theorem d_D_place_56 : decode (jyc Y_D_place) 56 = .ok (.aload_n 0, 1) := by decide +kernel
theorem d_D_place_57 : decode (jyc Y_D_place) 57 = .ok (.getfield 15, 3) := by decide +kernel
theorem d_D_place_60 : decode (jyc Y_D_place) 60 = .ok (.iload_n 1, 1) := by decide +kernel
theorem d_D_place_61 : decode (jyc Y_D_place) 61 = .ok (.aaload, 1) := by decide +kernel
theorem d_D_place_62 : decode (jyc Y_D_place) 62 = .ok (.getfield 114, 3) := by decide +kernel
theorem d_D_place_65 : decode (jyc Y_D_place) 65 = .ok (.invokevirtual 117, 3) := by decide +kernel
theorem d_D_place_68 : decode (jyc Y_D_place) 68 = .ok (.pop, 1) := by decide +kernel
theorem d_D_place_69 : decode (jyc Y_D_place) 69 = .ok (.iconst 1, 1) := by decide +kernel
theorem d_D_place_70 : decode (jyc Y_D_place) 70 = .ok (.ireturn, 1) := by decide +kernel
theorem d_D_lose_0 : decode (jyc Y_D_lose) 0 = .ok (.aload_n 0, 1) := by decide +kernel
theorem d_D_lose_1 : decode (jyc Y_D_lose) 1 = .ok (.iload_n 1, 1) := by decide +kernel
theorem d_D_lose_2 : decode (jyc Y_D_lose) 2 = .ok (.iload_n 2, 1) := by decide +kernel
theorem d_D_lose_3 : decode (jyc Y_D_lose) 3 = .ok (.iload_n 3, 1) := by decide +kernel
theorem d_D_lose_4 : decode (jyc Y_D_lose) 4 = .ok (.invokevirtual 121, 3) := by decide +kernel
theorem d_D_lose_7 : decode (jyc Y_D_lose) 7 = .ok (.ifCond .ne 13, 3) := by decide +kernel
theorem d_D_lose_10 : decode (jyc Y_D_lose) 10 = .ok (.new 75, 3) := by decide +kernel
theorem d_D_lose_13 : decode (jyc Y_D_lose) 13 = .ok (.dup, 1) := by decide +kernel
theorem d_D_lose_14 : decode (jyc Y_D_lose) 14 = .ok (.ldc 125, 2) := by decide +kernel
theorem d_D_lose_16 : decode (jyc Y_D_lose) 16 = .ok (.invokespecial 79, 3) := by decide +kernel
theorem d_D_lose_19 : decode (jyc Y_D_lose) 19 = .ok (.athrow, 1) := by decide +kernel
theorem d_D_lose_20 : decode (jyc Y_D_lose) 20 = .ok (.aload_n 0, 1) := by decide +kernel
theorem d_D_lose_21 : decode (jyc Y_D_lose) 21 = .ok (.getfield 22, 3) := by decide +kernel
theorem d_D_lose_24 : decode (jyc Y_D_lose) 24 = .ok (.iload_n 1, 1) := by decide +kernel
theorem d_D_lose_25 : decode (jyc Y_D_lose) 25 = .ok (.aaload, 1) := by decide +kernel
theorem d_D_lose_26 : decode (jyc Y_D_lose) 26 = .ok (.getfield 101, 3) := by decide +kernel
theorem d_D_lose_29 : decode (jyc Y_D_lose) 29 = .ok (.iload_n 2, 1) := by decide +kernel
theorem d_D_lose_30 : decode (jyc Y_D_lose) 30 = .ok (.aaload, 1) := by decide +kernel
theorem d_D_lose_31 : decode (jyc Y_D_lose) 31 = .ok (.astore 4, 2) := by decide +kernel
theorem d_D_lose_33 : decode (jyc Y_D_lose) 33 = .ok (.aload 4, 2) := by decide +kernel
theorem d_D_lose_35 : decode (jyc Y_D_lose) 35 = .ok (.getfield 127, 3) := by decide +kernel
theorem d_D_lose_38 : decode (jyc Y_D_lose) 38 = .ok (.iload_n 3, 1) := by decide +kernel
theorem d_D_lose_39 : decode (jyc Y_D_lose) 39 = .ok (.baload, 1) := by decide +kernel
theorem d_D_lose_40 : decode (jyc Y_D_lose) 40 = .ok (.ifCond .eq 5, 3) := by decide +kernel
theorem d_D_lose_43 : decode (jyc Y_D_lose) 43 = .ok (.iconst 0, 1) := by decide +kernel
theorem d_D_lose_44 : decode (jyc Y_D_lose) 44 = .ok (.ireturn, 1) := by decide +kernel
theorem d_D_lose_45 : decode (jyc Y_D_lose) 45 = .ok (.aload 4, 2) := by decide +kernel
theorem d_D_lose_47 : decode (jyc Y_D_lose) 47 = .ok (.iload_n 3, 1) := by decide +kernel
theorem d_D_lose_48 : decode (jyc Y_D_lose) 48 = .ok (.invokevirtual 130, 3) := by decide +kernel
theorem d_D_lose_51 : decode (jyc Y_D_lose) 51 = .ok (.iconst 1, 1) := by decide +kernel
theorem d_D_lose_52 : decode (jyc Y_D_lose) 52 = .ok (.ireturn, 1) := by decide +kernel
theorem d_D_change_0 : decode (jyc Y_D_change) 0 = .ok (.aload_n 0, 1) := by decide +kernel
theorem d_D_change_1 : decode (jyc Y_D_change) 1 = .ok (.iload_n 1, 1) := by decide +kernel
theorem d_D_change_2 : decode (jyc Y_D_change) 2 = .ok (.iload_n 2, 1) := by decide +kernel
theorem d_D_change_3 : decode (jyc Y_D_change) 3 = .ok (.iload_n 3, 1) := by decide +kernel
theorem d_D_change_4 : decode (jyc Y_D_change) 4 = .ok (.invokevirtual 121, 3) := by decide +kernel
theorem d_D_change_7 : decode (jyc Y_D_change) 7 = .ok (.ifCond .eq 19, 3) := by decide +kernel
theorem d_D_change_10 : decode (jyc Y_D_change) 10 = .ok (.iload 4, 2) := by decide +kernel
theorem d_D_change_12 : decode (jyc Y_D_change) 12 = .ok (.invokestatic 134, 3) := by decide +kernel
theorem d_D_change_15 : decode (jyc Y_D_change) 15 = .ok (.ifCond .eq 11, 3) := by decide +kernel
theorem d_D_change_18 : decode (jyc Y_D_change) 18 = .ok (.iload 5, 2) := by decide +kernel
theorem d_D_change_20 : decode (jyc Y_D_change) 20 = .ok (.invokestatic 69, 3) := by decide +kernel
theorem d_D_change_23 : decode (jyc Y_D_change) 23 = .ok (.ifCond .ne 13, 3) := by decide +kernel
theorem d_D_change_26 : decode (jyc Y_D_change) 26 = .ok (.new 75, 3) := by decide +kernel
theorem d_D_change_29 : decode (jyc Y_D_change) 29 = .ok (.dup, 1) := by decide +kernel
theorem d_D_change_30 : decode (jyc Y_D_change) 30 = .ok (.ldc 137, 2) := by decide +kernel
theorem d_D_change_32 : decode (jyc Y_D_change) 32 = .ok (.invokespecial 79, 3) := by decide +kernel
theorem d_D_change_35 : decode (jyc Y_D_change) 35 = .ok (.athrow, 1) := by decide +kernel
theorem d_D_change_36 : decode (jyc Y_D_change) 36 = .ok (.aload_n 0, 1) := by decide +kernel
theorem d_D_change_37 : decode (jyc Y_D_change) 37 = .ok (.getfield 22, 3) := by decide +kernel
theorem d_D_change_40 : decode (jyc Y_D_change) 40 = .ok (.iload_n 1, 1) := by decide +kernel
theorem d_D_change_41 : decode (jyc Y_D_change) 41 = .ok (.aaload, 1) := by decide +kernel
theorem d_D_change_42 : decode (jyc Y_D_change) 42 = .ok (.getfield 101, 3) := by decide +kernel
theorem d_D_change_45 : decode (jyc Y_D_change) 45 = .ok (.iload_n 2, 1) := by decide +kernel
theorem d_D_change_46 : decode (jyc Y_D_change) 46 = .ok (.aaload, 1) := by decide +kernel
theorem d_D_change_47 : decode (jyc Y_D_change) 47 = .ok (.astore 6, 2) := by decide +kernel
theorem d_D_change_49 : decode (jyc Y_D_change) 49 = .ok (.aload 6, 2) := by decide +kernel
theorem d_D_change_51 : decode (jyc Y_D_change) 51 = .ok (.getfield 127, 3) := by decide +kernel
theorem d_D_change_54 : decode (jyc Y_D_change) 54 = .ok (.iload_n 3, 1) := by decide +kernel
theorem d_D_change_55 : decode (jyc Y_D_change) 55 = .ok (.baload, 1) := by decide +kernel
theorem d_D_change_56 : decode (jyc Y_D_change) 56 = .ok (.ifCond .eq 13, 3) := by decide +kernel
theorem d_D_change_59 : decode (jyc Y_D_change) 59 = .ok (.new 55, 3) := by decide +kernel
theorem d_D_change_62 : decode (jyc Y_D_change) 62 = .ok (.dup, 1) := by decide +kernel
theorem d_D_change_63 : decode (jyc Y_D_change) 63 = .ok (.ldc 139, 2) := by decide +kernel
theorem d_D_change_65 : decode (jyc Y_D_change) 65 = .ok (.invokespecial 59, 3) := by decide +kernel
theorem d_D_change_68 : decode (jyc Y_D_change) 68 = .ok (.athrow, 1) := by decide +kernel
theorem d_D_change_69 : decode (jyc Y_D_change) 69 = .ok (.aload 6, 2) := by decide +kernel
theorem d_D_change_71 : decode (jyc Y_D_change) 71 = .ok (.getfield 141, 3) := by decide +kernel
theorem d_D_change_74 : decode (jyc Y_D_change) 74 = .ok (.iload_n 3, 1) := by decide +kernel
theorem d_D_change_75 : decode (jyc Y_D_change) 75 = .ok (.iload 4, 2) := by decide +kernel
theorem d_D_change_77 : decode (jyc Y_D_change) 77 = .ok (.invokevirtual 142, 3) := by decide +kernel
theorem d_D_change_80 : decode (jyc Y_D_change) 80 = .ok (.iload 5, 2) := by decide +kernel
theorem d_D_change_82 : decode (jyc Y_D_change) 82 = .ok (.invokestatic 146, 3) := by decide +kernel
theorem d_D_change_85 : decode (jyc Y_D_change) 85 = .ok (.istore 7, 2) := by decide +kernel
theorem d_D_change_87 : decode (jyc Y_D_change) 87 = .ok (.aload 6, 2) := by decide +kernel
theorem d_D_change_89 : decode (jyc Y_D_change) 89 = .ok (.getfield 141, 3) := by decide +kernel
theorem d_D_change_92 : decode (jyc Y_D_change) 92 = .ok (.iload_n 3, 1) := by decide +kernel
theorem d_D_change_93 : decode (jyc Y_D_change) 93 = .ok (.iload 4, 2) := by decide +kernel
theorem d_D_change_95 : decode (jyc Y_D_change) 95 = .ok (.iload 7, 2) := by decide +kernel
theorem d_D_change_97 : decode (jyc Y_D_change) 97 = .ok (.invokevirtual 149, 3) := by decide +kernel
theorem d_D_change_100 : decode (jyc Y_D_change) 100 = .ok (.iload 7, 2) := by decide +kernel
theorem d_D_change_102 : decode (jyc Y_D_change) 102 = .ok (.ireturn, 1) := by decide +kernel
theorem d_D_challenge_0 : decode (jyc Y_D_challenge) 0 = .ok (.aload_n 0, 1) := by decide +kernel
theorem d_D_challenge_1 : decode (jyc Y_D_challenge) 1 = .ok (.iload_n 2, 1) := by decide +kernel
theorem d_D_challenge_2 : decode (jyc Y_D_challenge) 2 = .ok (.iload_n 1, 1) := by decide +kernel
theorem d_D_challenge_3 : decode (jyc Y_D_challenge) 3 = .ok (.invokevirtual 153, 3) := by decide +kernel
theorem d_D_challenge_6 : decode (jyc Y_D_challenge) 6 = .ok (.ifCond .eq 23, 3) := by decide +kernel
theorem d_D_challenge_9 : decode (jyc Y_D_challenge) 9 = .ok (.iload 4, 2) := by decide +kernel
theorem d_D_challenge_11 : decode (jyc Y_D_challenge) 11 = .ok (.iconst 1, 1) := by decide +kernel
theorem d_D_challenge_12 : decode (jyc Y_D_challenge) 12 = .ok (.if_icmp .lt 17, 3) := by decide +kernel
theorem d_D_challenge_15 : decode (jyc Y_D_challenge) 15 = .ok (.iload 4, 2) := by decide +kernel
theorem d_D_challenge_17 : decode (jyc Y_D_challenge) 17 = .ok (.aload_n 0, 1) := by decide +kernel
theorem d_D_challenge_18 : decode (jyc Y_D_challenge) 18 = .ok (.getfield 15, 3) := by decide +kernel
theorem d_D_challenge_21 : decode (jyc Y_D_challenge) 21 = .ok (.iload_n 1, 1) := by decide +kernel
theorem d_D_challenge_22 : decode (jyc Y_D_challenge) 22 = .ok (.aaload, 1) := by decide +kernel
theorem d_D_challenge_23 : decode (jyc Y_D_challenge) 23 = .ok (.getfield 114, 3) := by decide +kernel
theorem d_D_challenge_26 : decode (jyc Y_D_challenge) 26 = .ok (.if_icmp .le 13, 3) := by decide +kernel
theorem d_D_challenge_29 : decode (jyc Y_D_challenge) 29 = .ok (.new 75, 3) := by decide +kernel
theorem d_D_challenge_32 : decode (jyc Y_D_challenge) 32 = .ok (.dup, 1) := by decide +kernel
theorem d_D_challenge_33 : decode (jyc Y_D_challenge) 33 = .ok (.ldc 157, 2) := by decide +kernel
theorem d_D_challenge_35 : decode (jyc Y_D_challenge) 35 = .ok (.invokespecial 79, 3) := by decide +kernel
theorem d_D_challenge_38 : decode (jyc Y_D_challenge) 38 = .ok (.athrow, 1) := by decide +kernel
theorem d_D_challenge_39 : decode (jyc Y_D_challenge) 39 = .ok (.aload_n 0, 1) := by decide +kernel
theorem d_D_challenge_40 : decode (jyc Y_D_challenge) 40 = .ok (.getfield 30, 3) := by decide +kernel
theorem d_D_challenge_43 : decode (jyc Y_D_challenge) 43 = .ok (.iload_n 1, 1) := by decide +kernel
theorem d_D_challenge_44 : decode (jyc Y_D_challenge) 44 = .ok (.iload_n 2, 1) := by decide +kernel
theorem d_D_challenge_45 : decode (jyc Y_D_challenge) 45 = .ok (.invokevirtual 159, 3) := by decide +kernel
theorem d_D_challenge_48 : decode (jyc Y_D_challenge) 48 = .ok (.aload_n 0, 1) := by decide +kernel
theorem d_D_challenge_49 : decode (jyc Y_D_challenge) 49 = .ok (.getfield 30, 3) := by decide +kernel
theorem d_D_challenge_52 : decode (jyc Y_D_challenge) 52 = .ok (.iload_n 3, 1) := by decide +kernel
theorem d_D_challenge_53 : decode (jyc Y_D_challenge) 53 = .ok (.iload 4, 2) := by decide +kernel
theorem d_D_challenge_55 : decode (jyc Y_D_challenge) 55 = .ok (.aload_n 0, 1) := by decide +kernel
theorem d_D_challenge_56 : decode (jyc Y_D_challenge) 56 = .ok (.getfield 15, 3) := by decide +kernel
theorem d_D_challenge_59 : decode (jyc Y_D_challenge) 59 = .ok (.iload_n 1, 1) := by decide +kernel
theorem d_D_challenge_60 : decode (jyc Y_D_challenge) 60 = .ok (.aaload, 1) := by decide +kernel
theorem d_D_challenge_61 : decode (jyc Y_D_challenge) 61 = .ok (.getfield 114, 3) := by decide +kernel
theorem d_D_challenge_64 : decode (jyc Y_D_challenge) 64 = .ok (.invokevirtual 163, 3) := by decide +kernel
theorem d_D_challenge_67 : decode (jyc Y_D_challenge) 67 = .ok (.aload_n 0, 1) := by decide +kernel
theorem d_D_challenge_68 : decode (jyc Y_D_challenge) 68 = .ok (.getfield 30, 3) := by decide +kernel
theorem d_D_challenge_71 : decode (jyc Y_D_challenge) 71 = .ok (.aload_n 0, 1) := by decide +kernel
theorem d_D_challenge_72 : decode (jyc Y_D_challenge) 72 = .ok (.getfield 22, 3) := by decide +kernel
theorem d_D_challenge_75 : decode (jyc Y_D_challenge) 75 = .ok (.iload_n 2, 1) := by decide +kernel
theorem d_D_challenge_76 : decode (jyc Y_D_challenge) 76 = .ok (.aaload, 1) := by decide +kernel
theorem d_D_challenge_77 : decode (jyc Y_D_challenge) 77 = .ok (.getfield 101, 3) := by decide +kernel
theorem d_D_challenge_80 : decode (jyc Y_D_challenge) 80 = .ok (.iload_n 1, 1) := by decide +kernel
theorem d_D_challenge_81 : decode (jyc Y_D_challenge) 81 = .ok (.aaload, 1) := by decide +kernel
theorem d_D_challenge_82 : decode (jyc Y_D_challenge) 82 = .ok (.getfield 141, 3) := by decide +kernel
theorem d_D_challenge_85 : decode (jyc Y_D_challenge) 85 = .ok (.invokevirtual 166, 3) := by decide +kernel
theorem d_D_challenge_88 : decode (jyc Y_D_challenge) 88 = .ok (.aload_n 0, 1) := by decide +kernel
theorem d_D_challenge_89 : decode (jyc Y_D_challenge) 89 = .ok (.getfield 30, 3) := by decide +kernel
theorem d_D_challenge_92 : decode (jyc Y_D_challenge) 92 = .ok (.getfield 170, 3) := by decide +kernel
theorem d_D_challenge_95 : decode (jyc Y_D_challenge) 95 = .ok (.iconst 0, 1) := by decide +kernel
theorem d_D_challenge_96 : decode (jyc Y_D_challenge) 96 = .ok (.iaload, 1) := by decide +kernel
theorem d_D_challenge_97 : decode (jyc Y_D_challenge) 97 = .ok (.ireturn, 1) := by decide +kernel
theorem d_D_asked_0 : decode (jyc Y_D_asked) 0 = .ok (.aload_n 0, 1) := by decide +kernel
theorem d_D_asked_1 : decode (jyc Y_D_asked) 1 = .ok (.getfield 30, 3) := by decide +kernel
theorem d_D_asked_4 : decode (jyc Y_D_asked) 4 = .ok (.getfield 172, 3) := by decide +kernel
theorem d_D_asked_7 : decode (jyc Y_D_asked) 7 = .ok (.ifCond .eq 7, 3) := by decide +kernel
theorem d_D_asked_10 : decode (jyc Y_D_asked) 10 = .ok (.iload_n 2, 1) := by decide +kernel
theorem d_D_asked_11 : decode (jyc Y_D_asked) 11 = .ok (.ifCond .ge 5, 3) := by decide +kernel
theorem d_D_asked_14 : decode (jyc Y_D_asked) 14 = .ok (.iconst (-1), 1) := by decide +kernel
theorem d_D_asked_15 : decode (jyc Y_D_asked) 15 = .ok (.ireturn, 1) := by decide +kernel
theorem d_D_asked_16 : decode (jyc Y_D_asked) 16 = .ok (.iload_n 1, 1) := by decide +kernel
theorem d_D_asked_17 : decode (jyc Y_D_asked) 17 = .ok (.ifCond .ne 24, 3) := by decide +kernel
theorem d_D_asked_20 : decode (jyc Y_D_asked) 20 = .ok (.iload_n 2, 1) := by decide +kernel
theorem d_D_asked_21 : decode (jyc Y_D_asked) 21 = .ok (.aload_n 0, 1) := by decide +kernel
theorem d_D_asked_22 : decode (jyc Y_D_asked) 22 = .ok (.getfield 30, 3) := by decide +kernel
theorem d_D_asked_25 : decode (jyc Y_D_asked) 25 = .ok (.getfield 175, 3) := by decide +kernel
theorem d_D_asked_28 : decode (jyc Y_D_asked) 28 = .ok (.if_icmp .ge 13, 3) := by decide +kernel
theorem d_D_asked_31 : decode (jyc Y_D_asked) 31 = .ok (.aload_n 0, 1) := by decide +kernel
theorem d_D_asked_32 : decode (jyc Y_D_asked) 32 = .ok (.getfield 30, 3) := by decide +kernel
theorem d_D_asked_35 : decode (jyc Y_D_asked) 35 = .ok (.getfield 170, 3) := by decide +kernel
theorem d_D_asked_38 : decode (jyc Y_D_asked) 38 = .ok (.iload_n 2, 1) := by decide +kernel
theorem d_D_asked_39 : decode (jyc Y_D_asked) 39 = .ok (.iaload, 1) := by decide +kernel
theorem d_D_asked_40 : decode (jyc Y_D_asked) 40 = .ok (.ireturn, 1) := by decide +kernel
theorem d_D_asked_41 : decode (jyc Y_D_asked) 41 = .ok (.iload_n 1, 1) := by decide +kernel
theorem d_D_asked_42 : decode (jyc Y_D_asked) 42 = .ok (.iconst 1, 1) := by decide +kernel
theorem d_D_asked_43 : decode (jyc Y_D_asked) 43 = .ok (.if_icmp .ne 24, 3) := by decide +kernel
theorem d_D_asked_46 : decode (jyc Y_D_asked) 46 = .ok (.iload_n 2, 1) := by decide +kernel
theorem d_D_asked_47 : decode (jyc Y_D_asked) 47 = .ok (.aload_n 0, 1) := by decide +kernel
theorem d_D_asked_48 : decode (jyc Y_D_asked) 48 = .ok (.getfield 30, 3) := by decide +kernel
theorem d_D_asked_51 : decode (jyc Y_D_asked) 51 = .ok (.getfield 175, 3) := by decide +kernel
theorem d_D_asked_54 : decode (jyc Y_D_asked) 54 = .ok (.if_icmp .ge 13, 3) := by decide +kernel
theorem d_D_asked_57 : decode (jyc Y_D_asked) 57 = .ok (.aload_n 0, 1) := by decide +kernel
theorem d_D_asked_58 : decode (jyc Y_D_asked) 58 = .ok (.getfield 30, 3) := by decide +kernel
theorem d_D_asked_61 : decode (jyc Y_D_asked) 61 = .ok (.getfield 178, 3) := by decide +kernel
theorem d_D_asked_64 : decode (jyc Y_D_asked) 64 = .ok (.iload_n 2, 1) := by decide +kernel
theorem d_D_asked_65 : decode (jyc Y_D_asked) 65 = .ok (.iaload, 1) := by decide +kernel
theorem d_D_asked_66 : decode (jyc Y_D_asked) 66 = .ok (.ireturn, 1) := by decide +kernel
theorem d_D_asked_67 : decode (jyc Y_D_asked) 67 = .ok (.iload_n 1, 1) := by decide +kernel
theorem d_D_asked_68 : decode (jyc Y_D_asked) 68 = .ok (.iconst 2, 1) := by decide +kernel
theorem d_D_asked_69 : decode (jyc Y_D_asked) 69 = .ok (.if_icmp .ne 18, 3) := by decide +kernel
theorem d_D_asked_72 : decode (jyc Y_D_asked) 72 = .ok (.iload_n 2, 1) := by decide +kernel
theorem d_D_asked_73 : decode (jyc Y_D_asked) 73 = .ok (.iconst 5, 1) := by decide +kernel
theorem d_D_asked_74 : decode (jyc Y_D_asked) 74 = .ok (.if_icmp .ge 13, 3) := by decide +kernel
theorem d_D_asked_77 : decode (jyc Y_D_asked) 77 = .ok (.aload_n 0, 1) := by decide +kernel
theorem d_D_asked_78 : decode (jyc Y_D_asked) 78 = .ok (.getfield 30, 3) := by decide +kernel
theorem d_D_asked_81 : decode (jyc Y_D_asked) 81 = .ok (.getfield 181, 3) := by decide +kernel
theorem d_D_asked_84 : decode (jyc Y_D_asked) 84 = .ok (.iload_n 2, 1) := by decide +kernel
theorem d_D_asked_85 : decode (jyc Y_D_asked) 85 = .ok (.iaload, 1) := by decide +kernel
theorem d_D_asked_86 : decode (jyc Y_D_asked) 86 = .ok (.ireturn, 1) := by decide +kernel
theorem d_D_asked_87 : decode (jyc Y_D_asked) 87 = .ok (.iconst (-1), 1) := by decide +kernel
theorem d_D_asked_88 : decode (jyc Y_D_asked) 88 = .ok (.ireturn, 1) := by decide +kernel
theorem d_D_tamper_0 : decode (jyc Y_D_tamper) 0 = .ok (.aload_n 0, 1) := by decide +kernel
theorem d_D_tamper_1 : decode (jyc Y_D_tamper) 1 = .ok (.getfield 30, 3) := by decide +kernel
theorem d_D_tamper_4 : decode (jyc Y_D_tamper) 4 = .ok (.getfield 172, 3) := by decide +kernel
theorem d_D_tamper_7 : decode (jyc Y_D_tamper) 7 = .ok (.ifCond .eq 17, 3) := by decide +kernel
theorem d_D_tamper_10 : decode (jyc Y_D_tamper) 10 = .ok (.iload_n 1, 1) := by decide +kernel
theorem d_D_tamper_11 : decode (jyc Y_D_tamper) 11 = .ok (.invokestatic 134, 3) := by decide +kernel
theorem d_D_tamper_14 : decode (jyc Y_D_tamper) 14 = .ok (.ifCond .eq 10, 3) := by decide +kernel
theorem d_D_tamper_17 : decode (jyc Y_D_tamper) 17 = .ok (.iload_n 2, 1) := by decide +kernel
theorem d_D_tamper_18 : decode (jyc Y_D_tamper) 18 = .ok (.invokestatic 69, 3) := by decide +kernel
theorem d_D_tamper_21 : decode (jyc Y_D_tamper) 21 = .ok (.ifCond .ne 5, 3) := by decide +kernel
theorem d_D_tamper_24 : decode (jyc Y_D_tamper) 24 = .ok (.iconst 0, 1) := by decide +kernel
theorem d_D_tamper_25 : decode (jyc Y_D_tamper) 25 = .ok (.ireturn, 1) := by decide +kernel
theorem d_D_tamper_26 : decode (jyc Y_D_tamper) 26 = .ok (.aload_n 0, 1) := by decide +kernel
theorem d_D_tamper_27 : decode (jyc Y_D_tamper) 27 = .ok (.getfield 30, 3) := by decide +kernel
theorem d_D_tamper_30 : decode (jyc Y_D_tamper) 30 = .ok (.getfield 181, 3) := by decide +kernel
theorem d_D_tamper_33 : decode (jyc Y_D_tamper) 33 = .ok (.iload_n 1, 1) := by decide +kernel
theorem d_D_tamper_34 : decode (jyc Y_D_tamper) 34 = .ok (.aload_n 0, 1) := by decide +kernel
theorem d_D_tamper_35 : decode (jyc Y_D_tamper) 35 = .ok (.getfield 30, 3) := by decide +kernel
theorem d_D_tamper_38 : decode (jyc Y_D_tamper) 38 = .ok (.getfield 181, 3) := by decide +kernel
theorem d_D_tamper_41 : decode (jyc Y_D_tamper) 41 = .ok (.iload_n 1, 1) := by decide +kernel
theorem d_D_tamper_42 : decode (jyc Y_D_tamper) 42 = .ok (.iaload, 1) := by decide +kernel
theorem d_D_tamper_43 : decode (jyc Y_D_tamper) 43 = .ok (.iload_n 2, 1) := by decide +kernel
theorem d_D_tamper_44 : decode (jyc Y_D_tamper) 44 = .ok (.invokestatic 146, 3) := by decide +kernel
theorem d_D_tamper_47 : decode (jyc Y_D_tamper) 47 = .ok (.iastore, 1) := by decide +kernel
theorem d_D_tamper_48 : decode (jyc Y_D_tamper) 48 = .ok (.iconst 1, 1) := by decide +kernel
theorem d_D_tamper_49 : decode (jyc Y_D_tamper) 49 = .ok (.ireturn, 1) := by decide +kernel
theorem d_D_judge_0 : decode (jyc Y_D_judge) 0 = .ok (.aload_n 0, 1) := by decide +kernel
theorem d_D_judge_1 : decode (jyc Y_D_judge) 1 = .ok (.getfield 30, 3) := by decide +kernel
theorem d_D_judge_4 : decode (jyc Y_D_judge) 4 = .ok (.getfield 172, 3) := by decide +kernel
theorem d_D_judge_7 : decode (jyc Y_D_judge) 7 = .ok (.ifCond .ne 13, 3) := by decide +kernel
theorem d_D_judge_10 : decode (jyc Y_D_judge) 10 = .ok (.new 55, 3) := by decide +kernel
theorem d_D_judge_13 : decode (jyc Y_D_judge) 13 = .ok (.dup, 1) := by decide +kernel
theorem d_D_judge_14 : decode (jyc Y_D_judge) 14 = .ok (.ldc 184, 2) := by decide +kernel
theorem d_D_judge_16 : decode (jyc Y_D_judge) 16 = .ok (.invokespecial 59, 3) := by decide +kernel
theorem d_D_judge_19 : decode (jyc Y_D_judge) 19 = .ok (.athrow, 1) := by decide +kernel
theorem d_D_judge_20 : decode (jyc Y_D_judge) 20 = .ok (.aload_n 0, 1) := by decide +kernel
theorem d_D_judge_21 : decode (jyc Y_D_judge) 21 = .ok (.getfield 30, 3) := by decide +kernel
theorem d_D_judge_24 : decode (jyc Y_D_judge) 24 = .ok (.aload_n 0, 1) := by decide +kernel
theorem d_D_judge_25 : decode (jyc Y_D_judge) 25 = .ok (.getfield 15, 3) := by decide +kernel
theorem d_D_judge_28 : decode (jyc Y_D_judge) 28 = .ok (.aload_n 0, 1) := by decide +kernel
theorem d_D_judge_29 : decode (jyc Y_D_judge) 29 = .ok (.getfield 30, 3) := by decide +kernel
theorem d_D_judge_32 : decode (jyc Y_D_judge) 32 = .ok (.getfield 186, 3) := by decide +kernel
theorem d_D_judge_35 : decode (jyc Y_D_judge) 35 = .ok (.aaload, 1) := by decide +kernel
theorem d_D_judge_36 : decode (jyc Y_D_judge) 36 = .ok (.invokevirtual 189, 3) := by decide +kernel
theorem d_D_judge_39 : decode (jyc Y_D_judge) 39 = .ok (.istore_n 1, 1) := by decide +kernel
theorem d_D_judge_40 : decode (jyc Y_D_judge) 40 = .ok (.iload_n 1, 1) := by decide +kernel
theorem d_D_judge_41 : decode (jyc Y_D_judge) 41 = .ok (.ifCond .eq 27, 3) := by decide +kernel
theorem d_D_judge_44 : decode (jyc Y_D_judge) 44 = .ok (.aload_n 0, 1) := by decide +kernel
theorem d_D_judge_45 : decode (jyc Y_D_judge) 45 = .ok (.getfield 22, 3) := by decide +kernel
theorem d_D_judge_48 : decode (jyc Y_D_judge) 48 = .ok (.aload_n 0, 1) := by decide +kernel
theorem d_D_judge_49 : decode (jyc Y_D_judge) 49 = .ok (.getfield 30, 3) := by decide +kernel
theorem d_D_judge_52 : decode (jyc Y_D_judge) 52 = .ok (.getfield 193, 3) := by decide +kernel
theorem d_D_judge_55 : decode (jyc Y_D_judge) 55 = .ok (.aaload, 1) := by decide +kernel
theorem d_D_judge_56 : decode (jyc Y_D_judge) 56 = .ok (.dup, 1) := by decide +kernel
theorem d_D_judge_57 : decode (jyc Y_D_judge) 57 = .ok (.getfield 196, 3) := by decide +kernel
theorem d_D_judge_60 : decode (jyc Y_D_judge) 60 = .ok (.iconst 1, 1) := by decide +kernel
theorem d_D_judge_61 : decode (jyc Y_D_judge) 61 = .ok (.iadd, 1) := by decide +kernel
theorem d_D_judge_62 : decode (jyc Y_D_judge) 62 = .ok (.putfield 196, 3) := by decide +kernel
theorem d_D_judge_65 : decode (jyc Y_D_judge) 65 = .ok (.goto 24, 3) := by decide +kernel
theorem d_D_judge_68 : decode (jyc Y_D_judge) 68 = .ok (.aload_n 0, 1) := by decide +kernel
theorem d_D_judge_69 : decode (jyc Y_D_judge) 69 = .ok (.getfield 22, 3) := by decide +kernel
theorem d_D_judge_72 : decode (jyc Y_D_judge) 72 = .ok (.aload_n 0, 1) := by decide +kernel
theorem d_D_judge_73 : decode (jyc Y_D_judge) 73 = .ok (.getfield 30, 3) := by decide +kernel
theorem d_D_judge_76 : decode (jyc Y_D_judge) 76 = .ok (.getfield 193, 3) := by decide +kernel
theorem d_D_judge_79 : decode (jyc Y_D_judge) 79 = .ok (.aaload, 1) := by decide +kernel
theorem d_D_judge_80 : decode (jyc Y_D_judge) 80 = .ok (.dup, 1) := by decide +kernel
theorem d_D_judge_81 : decode (jyc Y_D_judge) 81 = .ok (.getfield 199, 3) := by decide +kernel
theorem d_D_judge_84 : decode (jyc Y_D_judge) 84 = .ok (.iconst 1, 1) := by decide +kernel
theorem d_D_judge_85 : decode (jyc Y_D_judge) 85 = .ok (.iadd, 1) := by decide +kernel
theorem d_D_judge_86 : decode (jyc Y_D_judge) 86 = .ok (.putfield 199, 3) := by decide +kernel
theorem d_D_judge_89 : decode (jyc Y_D_judge) 89 = .ok (.iload_n 1, 1) := by decide +kernel
theorem d_D_judge_90 : decode (jyc Y_D_judge) 90 = .ok (.ireturn, 1) := by decide +kernel
theorem d_D_locate_0 : decode (jyc Y_D_locate) 0 = .ok (.aload_n 0, 1) := by decide +kernel
theorem d_D_locate_1 : decode (jyc Y_D_locate) 1 = .ok (.iload_n 2, 1) := by decide +kernel
theorem d_D_locate_2 : decode (jyc Y_D_locate) 2 = .ok (.iload_n 1, 1) := by decide +kernel
theorem d_D_locate_3 : decode (jyc Y_D_locate) 3 = .ok (.invokevirtual 153, 3) := by decide +kernel
theorem d_D_locate_6 : decode (jyc Y_D_locate) 6 = .ok (.ifCond .ne 13, 3) := by decide +kernel
theorem d_D_locate_9 : decode (jyc Y_D_locate) 9 = .ok (.new 75, 3) := by decide +kernel
theorem d_D_locate_12 : decode (jyc Y_D_locate) 12 = .ok (.dup, 1) := by decide +kernel
theorem d_D_locate_13 : decode (jyc Y_D_locate) 13 = .ok (.ldc 202, 2) := by decide +kernel
theorem d_D_locate_15 : decode (jyc Y_D_locate) 15 = .ok (.invokespecial 79, 3) := by decide +kernel
theorem d_D_locate_18 : decode (jyc Y_D_locate) 18 = .ok (.athrow, 1) := by decide +kernel
theorem d_D_locate_19 : decode (jyc Y_D_locate) 19 = .ok (.aload_n 0, 1) := by decide +kernel
theorem d_D_locate_20 : decode (jyc Y_D_locate) 20 = .ok (.iconst 0, 1) := by decide +kernel
theorem d_D_locate_21 : decode (jyc Y_D_locate) 21 = .ok (.putfield 204, 3) := by decide +kernel
theorem d_D_locate_24 : decode (jyc Y_D_locate) 24 = .ok (.iconst 0, 1) := by decide +kernel
theorem d_D_locate_25 : decode (jyc Y_D_locate) 25 = .ok (.istore_n 3, 1) := by decide +kernel
theorem d_D_locate_26 : decode (jyc Y_D_locate) 26 = .ok (.iload_n 3, 1) := by decide +kernel
theorem d_D_locate_27 : decode (jyc Y_D_locate) 27 = .ok (.aload_n 0, 1) := by decide +kernel
theorem d_D_locate_28 : decode (jyc Y_D_locate) 28 = .ok (.getfield 15, 3) := by decide +kernel
theorem d_D_locate_31 : decode (jyc Y_D_locate) 31 = .ok (.iload_n 1, 1) := by decide +kernel
theorem d_D_locate_32 : decode (jyc Y_D_locate) 32 = .ok (.aaload, 1) := by decide +kernel
theorem d_D_locate_33 : decode (jyc Y_D_locate) 33 = .ok (.getfield 114, 3) := by decide +kernel
theorem d_D_locate_36 : decode (jyc Y_D_locate) 36 = .ok (.if_icmp .ge 39, 3) := by decide +kernel
theorem d_D_locate_39 : decode (jyc Y_D_locate) 39 = .ok (.aload_n 0, 1) := by decide +kernel
theorem d_D_locate_40 : decode (jyc Y_D_locate) 40 = .ok (.iload_n 2, 1) := by decide +kernel
theorem d_D_locate_41 : decode (jyc Y_D_locate) 41 = .ok (.iload_n 1, 1) := by decide +kernel
theorem d_D_locate_42 : decode (jyc Y_D_locate) 42 = .ok (.iload_n 3, 1) := by decide +kernel
theorem d_D_locate_43 : decode (jyc Y_D_locate) 43 = .ok (.invokevirtual 207, 3) := by decide +kernel
theorem d_D_locate_46 : decode (jyc Y_D_locate) 46 = .ok (.ifCond .ne 23, 3) := by decide +kernel
theorem d_D_locate_49 : decode (jyc Y_D_locate) 49 = .ok (.aload_n 0, 1) := by decide +kernel
theorem d_D_locate_50 : decode (jyc Y_D_locate) 50 = .ok (.getfield 34, 3) := by decide +kernel
theorem d_D_locate_53 : decode (jyc Y_D_locate) 53 = .ok (.aload_n 0, 1) := by decide +kernel
theorem d_D_locate_54 : decode (jyc Y_D_locate) 54 = .ok (.getfield 204, 3) := by decide +kernel
theorem d_D_locate_57 : decode (jyc Y_D_locate) 57 = .ok (.iload_n 3, 1) := by decide +kernel
theorem d_D_locate_58 : decode (jyc Y_D_locate) 58 = .ok (.iastore, 1) := by decide +kernel
theorem d_D_locate_59 : decode (jyc Y_D_locate) 59 = .ok (.aload_n 0, 1) := by decide +kernel
theorem d_D_locate_60 : decode (jyc Y_D_locate) 60 = .ok (.dup, 1) := by decide +kernel
theorem d_D_locate_61 : decode (jyc Y_D_locate) 61 = .ok (.getfield 204, 3) := by decide +kernel
theorem d_D_locate_64 : decode (jyc Y_D_locate) 64 = .ok (.iconst 1, 1) := by decide +kernel
theorem d_D_locate_65 : decode (jyc Y_D_locate) 65 = .ok (.iadd, 1) := by decide +kernel
theorem d_D_locate_66 : decode (jyc Y_D_locate) 66 = .ok (.putfield 204, 3) := by decide +kernel
theorem d_D_locate_69 : decode (jyc Y_D_locate) 69 = .ok (.iinc 3 1, 3) := by decide +kernel
theorem d_D_locate_72 : decode (jyc Y_D_locate) 72 = .ok (.goto (-46), 3) := by decide +kernel
theorem d_D_locate_75 : decode (jyc Y_D_locate) 75 = .ok (.aload_n 0, 1) := by decide +kernel
theorem d_D_locate_76 : decode (jyc Y_D_locate) 76 = .ok (.getfield 204, 3) := by decide +kernel
theorem d_D_locate_79 : decode (jyc Y_D_locate) 79 = .ok (.ireturn, 1) := by decide +kernel
theorem d_D_found_0 : decode (jyc Y_D_found) 0 = .ok (.iload_n 1, 1) := by decide +kernel
theorem d_D_found_1 : decode (jyc Y_D_found) 1 = .ok (.ifCond .lt 20, 3) := by decide +kernel
theorem d_D_found_4 : decode (jyc Y_D_found) 4 = .ok (.iload_n 1, 1) := by decide +kernel
theorem d_D_found_5 : decode (jyc Y_D_found) 5 = .ok (.aload_n 0, 1) := by decide +kernel
theorem d_D_found_6 : decode (jyc Y_D_found) 6 = .ok (.getfield 204, 3) := by decide +kernel
theorem d_D_found_9 : decode (jyc Y_D_found) 9 = .ok (.if_icmp .ge 12, 3) := by decide +kernel
theorem d_D_found_12 : decode (jyc Y_D_found) 12 = .ok (.aload_n 0, 1) := by decide +kernel
theorem d_D_found_13 : decode (jyc Y_D_found) 13 = .ok (.getfield 34, 3) := by decide +kernel
theorem d_D_found_16 : decode (jyc Y_D_found) 16 = .ok (.iload_n 1, 1) := by decide +kernel
theorem d_D_found_17 : decode (jyc Y_D_found) 17 = .ok (.iaload, 1) := by decide +kernel
theorem d_D_found_18 : decode (jyc Y_D_found) 18 = .ok (.goto 4, 3) := by decide +kernel
theorem d_D_found_21 : decode (jyc Y_D_found) 21 = .ok (.iconst (-1), 1) := by decide +kernel
theorem d_D_found_22 : decode (jyc Y_D_found) 22 = .ok (.ireturn, 1) := by decide +kernel
theorem d_D_repair_0 : decode (jyc Y_D_repair) 0 = .ok (.aload_n 0, 1) := by decide +kernel
theorem d_D_repair_1 : decode (jyc Y_D_repair) 1 = .ok (.iload_n 1, 1) := by decide +kernel
theorem d_D_repair_2 : decode (jyc Y_D_repair) 2 = .ok (.invokevirtual 90, 3) := by decide +kernel
theorem d_D_repair_5 : decode (jyc Y_D_repair) 5 = .ok (.ifCond .eq 10, 3) := by decide +kernel
theorem d_D_repair_8 : decode (jyc Y_D_repair) 8 = .ok (.iload_n 2, 1) := by decide +kernel
theorem d_D_repair_9 : decode (jyc Y_D_repair) 9 = .ok (.invokestatic 93, 3) := by decide +kernel
theorem d_D_repair_12 : decode (jyc Y_D_repair) 12 = .ok (.ifCond .ne 13, 3) := by decide +kernel
theorem d_D_repair_15 : decode (jyc Y_D_repair) 15 = .ok (.new 96, 3) := by decide +kernel
theorem d_D_repair_18 : decode (jyc Y_D_repair) 18 = .ok (.dup, 1) := by decide +kernel
theorem d_D_repair_19 : decode (jyc Y_D_repair) 19 = .ok (.ldc 98, 2) := by decide +kernel
theorem d_D_repair_21 : decode (jyc Y_D_repair) 21 = .ok (.invokespecial 100, 3) := by decide +kernel
theorem d_D_repair_24 : decode (jyc Y_D_repair) 24 = .ok (.athrow, 1) := by decide +kernel
theorem d_D_repair_25 : decode (jyc Y_D_repair) 25 = .ok (.aload_n 0, 1) := by decide +kernel
theorem d_D_repair_26 : decode (jyc Y_D_repair) 26 = .ok (.iload_n 1, 1) := by decide +kernel
theorem d_D_repair_27 : decode (jyc Y_D_repair) 27 = .ok (.invokevirtual 210, 3) := by decide +kernel
theorem d_D_repair_30 : decode (jyc Y_D_repair) 30 = .ok (.ifCond .ne 13, 3) := by decide +kernel
theorem d_D_repair_33 : decode (jyc Y_D_repair) 33 = .ok (.new 55, 3) := by decide +kernel
theorem d_D_repair_36 : decode (jyc Y_D_repair) 36 = .ok (.dup, 1) := by decide +kernel
theorem d_D_repair_37 : decode (jyc Y_D_repair) 37 = .ok (.ldc 213, 2) := by decide +kernel
theorem d_D_repair_39 : decode (jyc Y_D_repair) 39 = .ok (.invokespecial 59, 3) := by decide +kernel
theorem d_D_repair_42 : decode (jyc Y_D_repair) 42 = .ok (.athrow, 1) := by decide +kernel
theorem d_D_repair_43 : decode (jyc Y_D_repair) 43 = .ok (.aload_n 0, 1) := by decide +kernel
theorem d_D_repair_44 : decode (jyc Y_D_repair) 44 = .ok (.getfield 22, 3) := by decide +kernel
theorem d_D_repair_47 : decode (jyc Y_D_repair) 47 = .ok (.iload_n 2, 1) := by decide +kernel
theorem d_D_repair_48 : decode (jyc Y_D_repair) 48 = .ok (.aaload, 1) := by decide +kernel
theorem d_D_repair_49 : decode (jyc Y_D_repair) 49 = .ok (.getfield 101, 3) := by decide +kernel
theorem d_D_repair_52 : decode (jyc Y_D_repair) 52 = .ok (.iload_n 1, 1) := by decide +kernel
theorem d_D_repair_53 : decode (jyc Y_D_repair) 53 = .ok (.aaload, 1) := by decide +kernel
theorem d_D_repair_54 : decode (jyc Y_D_repair) 54 = .ok (.aload_n 0, 1) := by decide +kernel
theorem d_D_repair_55 : decode (jyc Y_D_repair) 55 = .ok (.getfield 43, 3) := by decide +kernel
theorem d_D_repair_58 : decode (jyc Y_D_repair) 58 = .ok (.aload_n 0, 1) := by decide +kernel
theorem d_D_repair_59 : decode (jyc Y_D_repair) 59 = .ok (.getfield 15, 3) := by decide +kernel
theorem d_D_repair_62 : decode (jyc Y_D_repair) 62 = .ok (.iload_n 1, 1) := by decide +kernel
theorem d_D_repair_63 : decode (jyc Y_D_repair) 63 = .ok (.aaload, 1) := by decide +kernel
theorem d_D_repair_64 : decode (jyc Y_D_repair) 64 = .ok (.getfield 114, 3) := by decide +kernel
theorem d_D_repair_67 : decode (jyc Y_D_repair) 67 = .ok (.invokevirtual 117, 3) := by decide +kernel
theorem d_D_repair_70 : decode (jyc Y_D_repair) 70 = .ok (.istore_n 3, 1) := by decide +kernel
theorem d_D_repair_71 : decode (jyc Y_D_repair) 71 = .ok (.aload_n 0, 1) := by decide +kernel
theorem d_D_repair_72 : decode (jyc Y_D_repair) 72 = .ok (.getfield 22, 3) := by decide +kernel
theorem d_D_repair_75 : decode (jyc Y_D_repair) 75 = .ok (.iload_n 2, 1) := by decide +kernel
theorem d_D_repair_76 : decode (jyc Y_D_repair) 76 = .ok (.aaload, 1) := by decide +kernel
theorem d_D_repair_77 : decode (jyc Y_D_repair) 77 = .ok (.dup, 1) := by decide +kernel
theorem d_D_repair_78 : decode (jyc Y_D_repair) 78 = .ok (.getfield 215, 3) := by decide +kernel
theorem d_D_repair_81 : decode (jyc Y_D_repair) 81 = .ok (.iload_n 3, 1) := by decide +kernel
theorem d_D_repair_82 : decode (jyc Y_D_repair) 82 = .ok (.iadd, 1) := by decide +kernel
theorem d_D_repair_83 : decode (jyc Y_D_repair) 83 = .ok (.putfield 215, 3) := by decide +kernel
theorem d_D_repair_86 : decode (jyc Y_D_repair) 86 = .ok (.iload_n 3, 1) := by decide +kernel
theorem d_D_repair_87 : decode (jyc Y_D_repair) 87 = .ok (.ireturn, 1) := by decide +kernel
theorem d_D_fetch_0 : decode (jyc Y_D_fetch) 0 = .ok (.aload_n 0, 1) := by decide +kernel
theorem d_D_fetch_1 : decode (jyc Y_D_fetch) 1 = .ok (.iload_n 1, 1) := by decide +kernel
theorem d_D_fetch_2 : decode (jyc Y_D_fetch) 2 = .ok (.invokevirtual 90, 3) := by decide +kernel
theorem d_D_fetch_5 : decode (jyc Y_D_fetch) 5 = .ok (.ifCond .ne 13, 3) := by decide +kernel
theorem d_D_fetch_8 : decode (jyc Y_D_fetch) 8 = .ok (.new 96, 3) := by decide +kernel
theorem d_D_fetch_11 : decode (jyc Y_D_fetch) 11 = .ok (.dup, 1) := by decide +kernel
theorem d_D_fetch_12 : decode (jyc Y_D_fetch) 12 = .ok (.ldc 218, 2) := by decide +kernel
theorem d_D_fetch_14 : decode (jyc Y_D_fetch) 14 = .ok (.invokespecial 100, 3) := by decide +kernel
theorem d_D_fetch_17 : decode (jyc Y_D_fetch) 17 = .ok (.athrow, 1) := by decide +kernel
theorem d_D_fetch_18 : decode (jyc Y_D_fetch) 18 = .ok (.aload_n 0, 1) := by decide +kernel
theorem d_D_fetch_19 : decode (jyc Y_D_fetch) 19 = .ok (.iload_n 1, 1) := by decide +kernel
theorem d_D_fetch_20 : decode (jyc Y_D_fetch) 20 = .ok (.invokevirtual 210, 3) := by decide +kernel
theorem d_D_fetch_23 : decode (jyc Y_D_fetch) 23 = .ok (.ifCond .ne 13, 3) := by decide +kernel
theorem d_D_fetch_26 : decode (jyc Y_D_fetch) 26 = .ok (.new 55, 3) := by decide +kernel
theorem d_D_fetch_29 : decode (jyc Y_D_fetch) 29 = .ok (.dup, 1) := by decide +kernel
theorem d_D_fetch_30 : decode (jyc Y_D_fetch) 30 = .ok (.ldc 213, 2) := by decide +kernel
theorem d_D_fetch_32 : decode (jyc Y_D_fetch) 32 = .ok (.invokespecial 59, 3) := by decide +kernel
theorem d_D_fetch_35 : decode (jyc Y_D_fetch) 35 = .ok (.athrow, 1) := by decide +kernel
theorem d_D_fetch_36 : decode (jyc Y_D_fetch) 36 = .ok (.aload_n 0, 1) := by decide +kernel
theorem d_D_fetch_37 : decode (jyc Y_D_fetch) 37 = .ok (.aload_n 0, 1) := by decide +kernel
theorem d_D_fetch_38 : decode (jyc Y_D_fetch) 38 = .ok (.getfield 15, 3) := by decide +kernel
theorem d_D_fetch_41 : decode (jyc Y_D_fetch) 41 = .ok (.iload_n 1, 1) := by decide +kernel
theorem d_D_fetch_42 : decode (jyc Y_D_fetch) 42 = .ok (.aaload, 1) := by decide +kernel
theorem d_D_fetch_43 : decode (jyc Y_D_fetch) 43 = .ok (.getfield 220, 3) := by decide +kernel
theorem d_D_fetch_46 : decode (jyc Y_D_fetch) 46 = .ok (.putfield 223, 3) := by decide +kernel
theorem d_D_fetch_49 : decode (jyc Y_D_fetch) 49 = .ok (.iconst 0, 1) := by decide +kernel
theorem d_D_fetch_50 : decode (jyc Y_D_fetch) 50 = .ok (.istore_n 2, 1) := by decide +kernel
theorem d_D_fetch_51 : decode (jyc Y_D_fetch) 51 = .ok (.iload_n 2, 1) := by decide +kernel
theorem d_D_fetch_52 : decode (jyc Y_D_fetch) 52 = .ok (.aload_n 0, 1) := by decide +kernel
theorem d_D_fetch_53 : decode (jyc Y_D_fetch) 53 = .ok (.getfield 223, 3) := by decide +kernel
theorem d_D_fetch_56 : decode (jyc Y_D_fetch) 56 = .ok (.if_icmp .ge 29, 3) := by decide +kernel
theorem d_D_fetch_59 : decode (jyc Y_D_fetch) 59 = .ok (.aload_n 0, 1) := by decide +kernel
theorem d_D_fetch_60 : decode (jyc Y_D_fetch) 60 = .ok (.getfield 37, 3) := by decide +kernel
theorem d_D_fetch_63 : decode (jyc Y_D_fetch) 63 = .ok (.iload_n 2, 1) := by decide +kernel
theorem d_D_fetch_64 : decode (jyc Y_D_fetch) 64 = .ok (.aload_n 0, 1) := by decide +kernel
theorem d_D_fetch_65 : decode (jyc Y_D_fetch) 65 = .ok (.getfield 43, 3) := by decide +kernel
theorem d_D_fetch_68 : decode (jyc Y_D_fetch) 68 = .ok (.iload_n 2, 1) := by decide +kernel
theorem d_D_fetch_69 : decode (jyc Y_D_fetch) 69 = .ok (.invokestatic 226, 3) := by decide +kernel
theorem d_D_fetch_72 : decode (jyc Y_D_fetch) 72 = .ok (.iload_n 2, 1) := by decide +kernel
theorem d_D_fetch_73 : decode (jyc Y_D_fetch) 73 = .ok (.iconst 4, 1) := by decide +kernel
theorem d_D_fetch_74 : decode (jyc Y_D_fetch) 74 = .ok (.irem, 1) := by decide +kernel
theorem d_D_fetch_75 : decode (jyc Y_D_fetch) 75 = .ok (.invokevirtual 142, 3) := by decide +kernel
theorem d_D_fetch_78 : decode (jyc Y_D_fetch) 78 = .ok (.iastore, 1) := by decide +kernel
theorem d_D_fetch_79 : decode (jyc Y_D_fetch) 79 = .ok (.iinc 2 1, 3) := by decide +kernel
theorem d_D_fetch_82 : decode (jyc Y_D_fetch) 82 = .ok (.goto (-31), 3) := by decide +kernel
theorem d_D_fetch_85 : decode (jyc Y_D_fetch) 85 = .ok (.aload_n 0, 1) := by decide +kernel
theorem d_D_fetch_86 : decode (jyc Y_D_fetch) 86 = .ok (.getfield 223, 3) := by decide +kernel
theorem d_D_fetch_89 : decode (jyc Y_D_fetch) 89 = .ok (.ireturn, 1) := by decide +kernel
theorem d_D_fetched_0 : decode (jyc Y_D_fetched) 0 = .ok (.iload_n 1, 1) := by decide +kernel
theorem d_D_fetched_1 : decode (jyc Y_D_fetched) 1 = .ok (.ifCond .lt 20, 3) := by decide +kernel
theorem d_D_fetched_4 : decode (jyc Y_D_fetched) 4 = .ok (.iload_n 1, 1) := by decide +kernel
theorem d_D_fetched_5 : decode (jyc Y_D_fetched) 5 = .ok (.aload_n 0, 1) := by decide +kernel
theorem d_D_fetched_6 : decode (jyc Y_D_fetched) 6 = .ok (.getfield 223, 3) := by decide +kernel
theorem d_D_fetched_9 : decode (jyc Y_D_fetched) 9 = .ok (.if_icmp .ge 12, 3) := by decide +kernel
theorem d_D_fetched_12 : decode (jyc Y_D_fetched) 12 = .ok (.aload_n 0, 1) := by decide +kernel
theorem d_D_fetched_13 : decode (jyc Y_D_fetched) 13 = .ok (.getfield 37, 3) := by decide +kernel
theorem d_D_fetched_16 : decode (jyc Y_D_fetched) 16 = .ok (.iload_n 1, 1) := by decide +kernel
theorem d_D_fetched_17 : decode (jyc Y_D_fetched) 17 = .ok (.iaload, 1) := by decide +kernel
theorem d_D_fetched_18 : decode (jyc Y_D_fetched) 18 = .ok (.goto 4, 3) := by decide +kernel
theorem d_D_fetched_21 : decode (jyc Y_D_fetched) 21 = .ok (.iconst (-1), 1) := by decide +kernel
theorem d_D_fetched_22 : decode (jyc Y_D_fetched) 22 = .ok (.ireturn, 1) := by decide +kernel
theorem d_D_made_0 : decode (jyc Y_D_made) 0 = .ok (.aload_n 0, 1) := by decide +kernel
theorem d_D_made_1 : decode (jyc Y_D_made) 1 = .ok (.iload_n 1, 1) := by decide +kernel
theorem d_D_made_2 : decode (jyc Y_D_made) 2 = .ok (.invokevirtual 90, 3) := by decide +kernel
theorem d_D_made_5 : decode (jyc Y_D_made) 5 = .ok (.ifCond .eq 27, 3) := by decide +kernel
theorem d_D_made_8 : decode (jyc Y_D_made) 8 = .ok (.iload_n 2, 1) := by decide +kernel
theorem d_D_made_9 : decode (jyc Y_D_made) 9 = .ok (.ifCond .lt 23, 3) := by decide +kernel
theorem d_D_made_12 : decode (jyc Y_D_made) 12 = .ok (.iload_n 2, 1) := by decide +kernel
theorem d_D_made_13 : decode (jyc Y_D_made) 13 = .ok (.aload_n 0, 1) := by decide +kernel
theorem d_D_made_14 : decode (jyc Y_D_made) 14 = .ok (.getfield 15, 3) := by decide +kernel
theorem d_D_made_17 : decode (jyc Y_D_made) 17 = .ok (.iload_n 1, 1) := by decide +kernel
theorem d_D_made_18 : decode (jyc Y_D_made) 18 = .ok (.aaload, 1) := by decide +kernel
theorem d_D_made_19 : decode (jyc Y_D_made) 19 = .ok (.getfield 114, 3) := by decide +kernel
theorem d_D_made_22 : decode (jyc Y_D_made) 22 = .ok (.if_icmp .ge 10, 3) := by decide +kernel
theorem d_D_made_25 : decode (jyc Y_D_made) 25 = .ok (.iload_n 3, 1) := by decide +kernel
theorem d_D_made_26 : decode (jyc Y_D_made) 26 = .ok (.invokestatic 134, 3) := by decide +kernel
theorem d_D_made_29 : decode (jyc Y_D_made) 29 = .ok (.ifCond .ne 13, 3) := by decide +kernel
theorem d_D_made_32 : decode (jyc Y_D_made) 32 = .ok (.new 96, 3) := by decide +kernel
theorem d_D_made_35 : decode (jyc Y_D_made) 35 = .ok (.dup, 1) := by decide +kernel
theorem d_D_made_36 : decode (jyc Y_D_made) 36 = .ok (.ldc 230, 2) := by decide +kernel
theorem d_D_made_38 : decode (jyc Y_D_made) 38 = .ok (.invokespecial 100, 3) := by decide +kernel
theorem d_D_made_41 : decode (jyc Y_D_made) 41 = .ok (.athrow, 1) := by decide +kernel
theorem d_D_made_42 : decode (jyc Y_D_made) 42 = .ok (.aload_n 0, 1) := by decide +kernel
theorem d_D_made_43 : decode (jyc Y_D_made) 43 = .ok (.getfield 15, 3) := by decide +kernel
theorem d_D_made_46 : decode (jyc Y_D_made) 46 = .ok (.iload_n 1, 1) := by decide +kernel
theorem d_D_made_47 : decode (jyc Y_D_made) 47 = .ok (.aaload, 1) := by decide +kernel
theorem d_D_made_48 : decode (jyc Y_D_made) 48 = .ok (.getfield 111, 3) := by decide +kernel
theorem d_D_made_51 : decode (jyc Y_D_made) 51 = .ok (.iload_n 2, 1) := by decide +kernel
theorem d_D_made_52 : decode (jyc Y_D_made) 52 = .ok (.iload_n 3, 1) := by decide +kernel
theorem d_D_made_53 : decode (jyc Y_D_made) 53 = .ok (.invokevirtual 142, 3) := by decide +kernel
theorem d_D_made_56 : decode (jyc Y_D_made) 56 = .ok (.ireturn, 1) := by decide +kernel
theorem d_D_kept_0 : decode (jyc Y_D_kept) 0 = .ok (.aload_n 0, 1) := by decide +kernel
theorem d_D_kept_1 : decode (jyc Y_D_kept) 1 = .ok (.iload_n 1, 1) := by decide +kernel
theorem d_D_kept_2 : decode (jyc Y_D_kept) 2 = .ok (.iload_n 2, 1) := by decide +kernel
theorem d_D_kept_3 : decode (jyc Y_D_kept) 3 = .ok (.iload_n 3, 1) := by decide +kernel
theorem d_D_kept_4 : decode (jyc Y_D_kept) 4 = .ok (.invokevirtual 121, 3) := by decide +kernel
theorem d_D_kept_7 : decode (jyc Y_D_kept) 7 = .ok (.ifCond .eq 17, 3) := by decide +kernel
theorem d_D_kept_10 : decode (jyc Y_D_kept) 10 = .ok (.iload 4, 2) := by decide +kernel
theorem d_D_kept_12 : decode (jyc Y_D_kept) 12 = .ok (.invokestatic 134, 3) := by decide +kernel
theorem d_D_kept_15 : decode (jyc Y_D_kept) 15 = .ok (.ifCond .ne 19, 3) := by decide +kernel
theorem d_D_kept_18 : decode (jyc Y_D_kept) 18 = .ok (.iload 4, 2) := by decide +kernel
theorem d_D_kept_20 : decode (jyc Y_D_kept) 20 = .ok (.iconst 5, 1) := by decide +kernel
theorem d_D_kept_21 : decode (jyc Y_D_kept) 21 = .ok (.if_icmp .eq 13, 3) := by decide +kernel
theorem d_D_kept_24 : decode (jyc Y_D_kept) 24 = .ok (.new 75, 3) := by decide +kernel
theorem d_D_kept_27 : decode (jyc Y_D_kept) 27 = .ok (.dup, 1) := by decide +kernel
theorem d_D_kept_28 : decode (jyc Y_D_kept) 28 = .ok (.ldc 232, 2) := by decide +kernel
theorem d_D_kept_30 : decode (jyc Y_D_kept) 30 = .ok (.invokespecial 79, 3) := by decide +kernel
theorem d_D_kept_33 : decode (jyc Y_D_kept) 33 = .ok (.athrow, 1) := by decide +kernel
theorem d_D_kept_34 : decode (jyc Y_D_kept) 34 = .ok (.aload_n 0, 1) := by decide +kernel
theorem d_D_kept_35 : decode (jyc Y_D_kept) 35 = .ok (.getfield 22, 3) := by decide +kernel
theorem d_D_kept_38 : decode (jyc Y_D_kept) 38 = .ok (.iload_n 1, 1) := by decide +kernel
theorem d_D_kept_39 : decode (jyc Y_D_kept) 39 = .ok (.aaload, 1) := by decide +kernel
theorem d_D_kept_40 : decode (jyc Y_D_kept) 40 = .ok (.getfield 101, 3) := by decide +kernel
theorem d_D_kept_43 : decode (jyc Y_D_kept) 43 = .ok (.iload_n 2, 1) := by decide +kernel
theorem d_D_kept_44 : decode (jyc Y_D_kept) 44 = .ok (.aaload, 1) := by decide +kernel
theorem d_D_kept_45 : decode (jyc Y_D_kept) 45 = .ok (.astore 5, 2) := by decide +kernel
theorem d_D_kept_47 : decode (jyc Y_D_kept) 47 = .ok (.iload 4, 2) := by decide +kernel
theorem d_D_kept_49 : decode (jyc Y_D_kept) 49 = .ok (.iconst 5, 1) := by decide +kernel
theorem d_D_kept_50 : decode (jyc Y_D_kept) 50 = .ok (.if_icmp .ne 19, 3) := by decide +kernel
theorem d_D_kept_53 : decode (jyc Y_D_kept) 53 = .ok (.aload 5, 2) := by decide +kernel
theorem d_D_kept_55 : decode (jyc Y_D_kept) 55 = .ok (.getfield 127, 3) := by decide +kernel
theorem d_D_kept_58 : decode (jyc Y_D_kept) 58 = .ok (.iload_n 3, 1) := by decide +kernel
theorem d_D_kept_59 : decode (jyc Y_D_kept) 59 = .ok (.baload, 1) := by decide +kernel
theorem d_D_kept_60 : decode (jyc Y_D_kept) 60 = .ok (.ifCond .eq 7, 3) := by decide +kernel
theorem d_D_kept_63 : decode (jyc Y_D_kept) 63 = .ok (.iconst 1, 1) := by decide +kernel
theorem d_D_kept_64 : decode (jyc Y_D_kept) 64 = .ok (.goto 4, 3) := by decide +kernel
theorem d_D_kept_67 : decode (jyc Y_D_kept) 67 = .ok (.iconst 0, 1) := by decide +kernel
theorem d_D_kept_68 : decode (jyc Y_D_kept) 68 = .ok (.ireturn, 1) := by decide +kernel
theorem d_D_kept_69 : decode (jyc Y_D_kept) 69 = .ok (.aload 5, 2) := by decide +kernel
theorem d_D_kept_71 : decode (jyc Y_D_kept) 71 = .ok (.getfield 141, 3) := by decide +kernel
theorem d_D_kept_74 : decode (jyc Y_D_kept) 74 = .ok (.iload_n 3, 1) := by decide +kernel
theorem d_D_kept_75 : decode (jyc Y_D_kept) 75 = .ok (.iload 4, 2) := by decide +kernel
theorem d_D_kept_77 : decode (jyc Y_D_kept) 77 = .ok (.invokevirtual 142, 3) := by decide +kernel
theorem d_D_kept_80 : decode (jyc Y_D_kept) 80 = .ok (.ireturn, 1) := by decide +kernel
theorem d_D_rota_0 : decode (jyc Y_D_rota) 0 = .ok (.aload_n 0, 1) := by decide +kernel
theorem d_D_rota_1 : decode (jyc Y_D_rota) 1 = .ok (.invokevirtual 234, 3) := by decide +kernel
theorem d_D_rota_4 : decode (jyc Y_D_rota) 4 = .ok (.istore_n 2, 1) := by decide +kernel
theorem d_D_rota_5 : decode (jyc Y_D_rota) 5 = .ok (.iload_n 1, 1) := by decide +kernel
theorem d_D_rota_6 : decode (jyc Y_D_rota) 6 = .ok (.ifCond .lt 7, 3) := by decide +kernel
theorem d_D_rota_9 : decode (jyc Y_D_rota) 9 = .ok (.iload_n 2, 1) := by decide +kernel
theorem d_D_rota_10 : decode (jyc Y_D_rota) 10 = .ok (.ifCond .ne 5, 3) := by decide +kernel
theorem d_D_rota_13 : decode (jyc Y_D_rota) 13 = .ok (.iconst (-1), 1) := by decide +kernel
theorem d_D_rota_14 : decode (jyc Y_D_rota) 14 = .ok (.ireturn, 1) := by decide +kernel
theorem d_D_rota_15 : decode (jyc Y_D_rota) 15 = .ok (.iload_n 1, 1) := by decide +kernel
theorem d_D_rota_16 : decode (jyc Y_D_rota) 16 = .ok (.iload_n 2, 1) := by decide +kernel
theorem d_D_rota_17 : decode (jyc Y_D_rota) 17 = .ok (.irem, 1) := by decide +kernel
theorem d_D_rota_18 : decode (jyc Y_D_rota) 18 = .ok (.istore_n 3, 1) := by decide +kernel
theorem d_D_rota_19 : decode (jyc Y_D_rota) 19 = .ok (.iconst 0, 1) := by decide +kernel
theorem d_D_rota_20 : decode (jyc Y_D_rota) 20 = .ok (.istore 4, 2) := by decide +kernel
theorem d_D_rota_22 : decode (jyc Y_D_rota) 22 = .ok (.iload 4, 2) := by decide +kernel
theorem d_D_rota_24 : decode (jyc Y_D_rota) 24 = .ok (.aload_n 0, 1) := by decide +kernel
theorem d_D_rota_25 : decode (jyc Y_D_rota) 25 = .ok (.getfield 51, 3) := by decide +kernel
theorem d_D_rota_28 : decode (jyc Y_D_rota) 28 = .ok (.if_icmp .ge 62, 3) := by decide +kernel
theorem d_D_rota_31 : decode (jyc Y_D_rota) 31 = .ok (.iconst 0, 1) := by decide +kernel
theorem d_D_rota_32 : decode (jyc Y_D_rota) 32 = .ok (.istore 5, 2) := by decide +kernel
theorem d_D_rota_34 : decode (jyc Y_D_rota) 34 = .ok (.iload 5, 2) := by decide +kernel
theorem d_D_rota_36 : decode (jyc Y_D_rota) 36 = .ok (.iconst 4, 1) := by decide +kernel
theorem d_D_rota_37 : decode (jyc Y_D_rota) 37 = .ok (.if_icmp .ge 47, 3) := by decide +kernel
theorem d_D_rota_40 : decode (jyc Y_D_rota) 40 = .ok (.aload_n 0, 1) := by decide +kernel
theorem d_D_rota_41 : decode (jyc Y_D_rota) 41 = .ok (.getfield 22, 3) := by decide +kernel
theorem d_D_rota_44 : decode (jyc Y_D_rota) 44 = .ok (.iload 5, 2) := by decide +kernel
theorem d_D_rota_46 : decode (jyc Y_D_rota) 46 = .ok (.aaload, 1) := by decide +kernel
theorem d_D_rota_47 : decode (jyc Y_D_rota) 47 = .ok (.getfield 101, 3) := by decide +kernel
theorem d_D_rota_50 : decode (jyc Y_D_rota) 50 = .ok (.iload 4, 2) := by decide +kernel
theorem d_D_rota_52 : decode (jyc Y_D_rota) 52 = .ok (.aaload, 1) := by decide +kernel
theorem d_D_rota_53 : decode (jyc Y_D_rota) 53 = .ok (.getfield 105, 3) := by decide +kernel
theorem d_D_rota_56 : decode (jyc Y_D_rota) 56 = .ok (.ifCond .ne 6, 3) := by decide +kernel
theorem d_D_rota_59 : decode (jyc Y_D_rota) 59 = .ok (.goto 19, 3) := by decide +kernel
theorem d_D_rota_62 : decode (jyc Y_D_rota) 62 = .ok (.iload_n 3, 1) := by decide +kernel
theorem d_D_rota_63 : decode (jyc Y_D_rota) 63 = .ok (.ifCond .ne 12, 3) := by decide +kernel
theorem d_D_rota_66 : decode (jyc Y_D_rota) 66 = .ok (.bipush 8, 2) := by decide +kernel
theorem d_D_rota_68 : decode (jyc Y_D_rota) 68 = .ok (.iload 4, 2) := by decide +kernel
theorem d_D_rota_70 : decode (jyc Y_D_rota) 70 = .ok (.imul, 1) := by decide +kernel
theorem d_D_rota_71 : decode (jyc Y_D_rota) 71 = .ok (.iload 5, 2) := by decide +kernel
theorem d_D_rota_73 : decode (jyc Y_D_rota) 73 = .ok (.iadd, 1) := by decide +kernel
theorem d_D_rota_74 : decode (jyc Y_D_rota) 74 = .ok (.ireturn, 1) := by decide +kernel
theorem d_D_rota_75 : decode (jyc Y_D_rota) 75 = .ok (.iinc 3 (-1), 3) := by decide +kernel
theorem d_D_rota_78 : decode (jyc Y_D_rota) 78 = .ok (.iinc 5 1, 3) := by decide +kernel
theorem d_D_rota_81 : decode (jyc Y_D_rota) 81 = .ok (.goto (-47), 3) := by decide +kernel
theorem d_D_rota_84 : decode (jyc Y_D_rota) 84 = .ok (.iinc 4 1, 3) := by decide +kernel
theorem d_D_rota_87 : decode (jyc Y_D_rota) 87 = .ok (.goto (-65), 3) := by decide +kernel
theorem d_D_rota_90 : decode (jyc Y_D_rota) 90 = .ok (.iconst (-1), 1) := by decide +kernel
theorem d_D_rota_91 : decode (jyc Y_D_rota) 91 = .ok (.ireturn, 1) := by decide +kernel
theorem d_D_score_0 : decode (jyc Y_D_score) 0 = .ok (.iload_n 1, 1) := by decide +kernel
theorem d_D_score_1 : decode (jyc Y_D_score) 1 = .ok (.invokestatic 93, 3) := by decide +kernel
theorem d_D_score_4 : decode (jyc Y_D_score) 4 = .ok (.ifCond .eq 14, 3) := by decide +kernel
theorem d_D_score_7 : decode (jyc Y_D_score) 7 = .ok (.aload_n 0, 1) := by decide +kernel
theorem d_D_score_8 : decode (jyc Y_D_score) 8 = .ok (.getfield 22, 3) := by decide +kernel
theorem d_D_score_11 : decode (jyc Y_D_score) 11 = .ok (.iload_n 1, 1) := by decide +kernel
theorem d_D_score_12 : decode (jyc Y_D_score) 12 = .ok (.aaload, 1) := by decide +kernel
theorem d_D_score_13 : decode (jyc Y_D_score) 13 = .ok (.iload_n 2, 1) := by decide +kernel
theorem d_D_score_14 : decode (jyc Y_D_score) 14 = .ok (.invokevirtual 238, 3) := by decide +kernel
theorem d_D_score_17 : decode (jyc Y_D_score) 17 = .ok (.ireturn, 1) := by decide +kernel
theorem d_D_score_18 : decode (jyc Y_D_score) 18 = .ok (.iconst (-1), 1) := by decide +kernel
theorem d_D_score_19 : decode (jyc Y_D_score) 19 = .ok (.iload_n 1, 1) := by decide +kernel
theorem d_D_score_20 : decode (jyc Y_D_score) 20 = .ok (.isub, 1) := by decide +kernel
theorem d_D_score_21 : decode (jyc Y_D_score) 21 = .ok (.istore_n 3, 1) := by decide +kernel
theorem d_D_score_22 : decode (jyc Y_D_score) 22 = .ok (.aload_n 0, 1) := by decide +kernel
theorem d_D_score_23 : decode (jyc Y_D_score) 23 = .ok (.iload_n 3, 1) := by decide +kernel
theorem d_D_score_24 : decode (jyc Y_D_score) 24 = .ok (.invokevirtual 90, 3) := by decide +kernel
theorem d_D_score_27 : decode (jyc Y_D_score) 27 = .ok (.ifCond .ne 5, 3) := by decide +kernel
theorem d_D_score_30 : decode (jyc Y_D_score) 30 = .ok (.iconst (-1), 1) := by decide +kernel
theorem d_D_score_31 : decode (jyc Y_D_score) 31 = .ok (.ireturn, 1) := by decide +kernel
theorem d_D_score_32 : decode (jyc Y_D_score) 32 = .ok (.iload_n 2, 1) := by decide +kernel
theorem d_D_score_33 : decode (jyc Y_D_score) 33 = .ok (.ifCond .ne 13, 3) := by decide +kernel
theorem d_D_score_36 : decode (jyc Y_D_score) 36 = .ok (.aload_n 0, 1) := by decide +kernel
theorem d_D_score_37 : decode (jyc Y_D_score) 37 = .ok (.getfield 15, 3) := by decide +kernel
theorem d_D_score_40 : decode (jyc Y_D_score) 40 = .ok (.iload_n 3, 1) := by decide +kernel
theorem d_D_score_41 : decode (jyc Y_D_score) 41 = .ok (.aaload, 1) := by decide +kernel
theorem d_D_score_42 : decode (jyc Y_D_score) 42 = .ok (.getfield 220, 3) := by decide +kernel
theorem d_D_score_45 : decode (jyc Y_D_score) 45 = .ok (.ireturn, 1) := by decide +kernel
theorem d_D_score_46 : decode (jyc Y_D_score) 46 = .ok (.iload_n 2, 1) := by decide +kernel
theorem d_D_score_47 : decode (jyc Y_D_score) 47 = .ok (.iconst 1, 1) := by decide +kernel
theorem d_D_score_48 : decode (jyc Y_D_score) 48 = .ok (.if_icmp .ne 15, 3) := by decide +kernel
theorem d_D_score_51 : decode (jyc Y_D_score) 51 = .ok (.aload_n 0, 1) := by decide +kernel
theorem d_D_score_52 : decode (jyc Y_D_score) 52 = .ok (.getfield 15, 3) := by decide +kernel
theorem d_D_score_55 : decode (jyc Y_D_score) 55 = .ok (.iload_n 3, 1) := by decide +kernel
theorem d_D_score_56 : decode (jyc Y_D_score) 56 = .ok (.aaload, 1) := by decide +kernel
theorem d_D_score_57 : decode (jyc Y_D_score) 57 = .ok (.getfield 114, 3) := by decide +kernel
theorem d_D_score_60 : decode (jyc Y_D_score) 60 = .ok (.goto 4, 3) := by decide +kernel
theorem d_D_score_63 : decode (jyc Y_D_score) 63 = .ok (.iconst (-1), 1) := by decide +kernel
theorem d_D_score_64 : decode (jyc Y_D_score) 64 = .ok (.ireturn, 1) := by decide +kernel
theorem d_D_isFile_0 : decode (jyc Y_D_isFile) 0 = .ok (.iload_n 1, 1) := by decide +kernel
theorem d_D_isFile_1 : decode (jyc Y_D_isFile) 1 = .ok (.ifCond .lt 15, 3) := by decide +kernel
theorem d_D_isFile_4 : decode (jyc Y_D_isFile) 4 = .ok (.iload_n 1, 1) := by decide +kernel
theorem d_D_isFile_5 : decode (jyc Y_D_isFile) 5 = .ok (.aload_n 0, 1) := by decide +kernel
theorem d_D_isFile_6 : decode (jyc Y_D_isFile) 6 = .ok (.getfield 51, 3) := by decide +kernel
theorem d_D_isFile_9 : decode (jyc Y_D_isFile) 9 = .ok (.if_icmp .ge 7, 3) := by decide +kernel
theorem d_D_isFile_12 : decode (jyc Y_D_isFile) 12 = .ok (.iconst 1, 1) := by decide +kernel
theorem d_D_isFile_13 : decode (jyc Y_D_isFile) 13 = .ok (.goto 4, 3) := by decide +kernel
theorem d_D_isFile_16 : decode (jyc Y_D_isFile) 16 = .ok (.iconst 0, 1) := by decide +kernel
theorem d_D_isFile_17 : decode (jyc Y_D_isFile) 17 = .ok (.ireturn, 1) := by decide +kernel
theorem d_D_isKeeper_0 : decode (jyc Y_D_isKeeper) 0 = .ok (.iload_n 0, 1) := by decide +kernel
theorem d_D_isKeeper_1 : decode (jyc Y_D_isKeeper) 1 = .ok (.ifCond .lt 12, 3) := by decide +kernel
theorem d_D_isKeeper_4 : decode (jyc Y_D_isKeeper) 4 = .ok (.iload_n 0, 1) := by decide +kernel
theorem d_D_isKeeper_5 : decode (jyc Y_D_isKeeper) 5 = .ok (.iconst 4, 1) := by decide +kernel
theorem d_D_isKeeper_6 : decode (jyc Y_D_isKeeper) 6 = .ok (.if_icmp .ge 7, 3) := by decide +kernel
theorem d_D_isKeeper_9 : decode (jyc Y_D_isKeeper) 9 = .ok (.iconst 1, 1) := by decide +kernel
theorem d_D_isKeeper_10 : decode (jyc Y_D_isKeeper) 10 = .ok (.goto 4, 3) := by decide +kernel
theorem d_D_isKeeper_13 : decode (jyc Y_D_isKeeper) 13 = .ok (.iconst 0, 1) := by decide +kernel
theorem d_D_isKeeper_14 : decode (jyc Y_D_isKeeper) 14 = .ok (.ireturn, 1) := by decide +kernel
theorem d_D_isRowNumber_0 : decode (jyc Y_D_isRowNumber) 0 = .ok (.iload_n 0, 1) := by decide +kernel
theorem d_D_isRowNumber_1 : decode (jyc Y_D_isRowNumber) 1 = .ok (.ifCond .lt 12, 3) := by decide +kernel
theorem d_D_isRowNumber_4 : decode (jyc Y_D_isRowNumber) 4 = .ok (.iload_n 0, 1) := by decide +kernel
theorem d_D_isRowNumber_5 : decode (jyc Y_D_isRowNumber) 5 = .ok (.iconst 5, 1) := by decide +kernel
theorem d_D_isRowNumber_6 : decode (jyc Y_D_isRowNumber) 6 = .ok (.if_icmp .ge 7, 3) := by decide +kernel
theorem d_D_isRowNumber_9 : decode (jyc Y_D_isRowNumber) 9 = .ok (.iconst 1, 1) := by decide +kernel
theorem d_D_isRowNumber_10 : decode (jyc Y_D_isRowNumber) 10 = .ok (.goto 4, 3) := by decide +kernel
theorem d_D_isRowNumber_13 : decode (jyc Y_D_isRowNumber) 13 = .ok (.iconst 0, 1) := by decide +kernel
theorem d_D_isRowNumber_14 : decode (jyc Y_D_isRowNumber) 14 = .ok (.ireturn, 1) := by decide +kernel
theorem d_D_keeps_0 : decode (jyc Y_D_keeps) 0 = .ok (.iload_n 1, 1) := by decide +kernel
theorem d_D_keeps_1 : decode (jyc Y_D_keeps) 1 = .ok (.invokestatic 93, 3) := by decide +kernel
theorem d_D_keeps_4 : decode (jyc Y_D_keeps) 4 = .ok (.ifCond .eq 32, 3) := by decide +kernel
theorem d_D_keeps_7 : decode (jyc Y_D_keeps) 7 = .ok (.aload_n 0, 1) := by decide +kernel
theorem d_D_keeps_8 : decode (jyc Y_D_keeps) 8 = .ok (.iload_n 2, 1) := by decide +kernel
theorem d_D_keeps_9 : decode (jyc Y_D_keeps) 9 = .ok (.invokevirtual 90, 3) := by decide +kernel
theorem d_D_keeps_12 : decode (jyc Y_D_keeps) 12 = .ok (.ifCond .eq 24, 3) := by decide +kernel
theorem d_D_keeps_15 : decode (jyc Y_D_keeps) 15 = .ok (.aload_n 0, 1) := by decide +kernel
theorem d_D_keeps_16 : decode (jyc Y_D_keeps) 16 = .ok (.getfield 22, 3) := by decide +kernel
theorem d_D_keeps_19 : decode (jyc Y_D_keeps) 19 = .ok (.iload_n 1, 1) := by decide +kernel
theorem d_D_keeps_20 : decode (jyc Y_D_keeps) 20 = .ok (.aaload, 1) := by decide +kernel
theorem d_D_keeps_21 : decode (jyc Y_D_keeps) 21 = .ok (.getfield 101, 3) := by decide +kernel
theorem d_D_keeps_24 : decode (jyc Y_D_keeps) 24 = .ok (.iload_n 2, 1) := by decide +kernel
theorem d_D_keeps_25 : decode (jyc Y_D_keeps) 25 = .ok (.aaload, 1) := by decide +kernel
theorem d_D_keeps_26 : decode (jyc Y_D_keeps) 26 = .ok (.getfield 105, 3) := by decide +kernel
theorem d_D_keeps_29 : decode (jyc Y_D_keeps) 29 = .ok (.ifCond .eq 7, 3) := by decide +kernel
theorem d_D_keeps_32 : decode (jyc Y_D_keeps) 32 = .ok (.iconst 1, 1) := by decide +kernel
theorem d_D_keeps_33 : decode (jyc Y_D_keeps) 33 = .ok (.goto 4, 3) := by decide +kernel
theorem d_D_keeps_36 : decode (jyc Y_D_keeps) 36 = .ok (.iconst 0, 1) := by decide +kernel
theorem d_D_keeps_37 : decode (jyc Y_D_keeps) 37 = .ok (.ireturn, 1) := by decide +kernel
theorem d_D_keepsRow_0 : decode (jyc Y_D_keepsRow) 0 = .ok (.aload_n 0, 1) := by decide +kernel
theorem d_D_keepsRow_1 : decode (jyc Y_D_keepsRow) 1 = .ok (.iload_n 1, 1) := by decide +kernel
theorem d_D_keepsRow_2 : decode (jyc Y_D_keepsRow) 2 = .ok (.iload_n 2, 1) := by decide +kernel
theorem d_D_keepsRow_3 : decode (jyc Y_D_keepsRow) 3 = .ok (.invokevirtual 153, 3) := by decide +kernel
theorem d_D_keepsRow_6 : decode (jyc Y_D_keepsRow) 6 = .ok (.ifCond .eq 24, 3) := by decide +kernel
theorem d_D_keepsRow_9 : decode (jyc Y_D_keepsRow) 9 = .ok (.iload_n 3, 1) := by decide +kernel
theorem d_D_keepsRow_10 : decode (jyc Y_D_keepsRow) 10 = .ok (.ifCond .lt 20, 3) := by decide +kernel
theorem d_D_keepsRow_13 : decode (jyc Y_D_keepsRow) 13 = .ok (.iload_n 3, 1) := by decide +kernel
theorem d_D_keepsRow_14 : decode (jyc Y_D_keepsRow) 14 = .ok (.aload_n 0, 1) := by decide +kernel
theorem d_D_keepsRow_15 : decode (jyc Y_D_keepsRow) 15 = .ok (.getfield 15, 3) := by decide +kernel
theorem d_D_keepsRow_18 : decode (jyc Y_D_keepsRow) 18 = .ok (.iload_n 2, 1) := by decide +kernel
theorem d_D_keepsRow_19 : decode (jyc Y_D_keepsRow) 19 = .ok (.aaload, 1) := by decide +kernel
theorem d_D_keepsRow_20 : decode (jyc Y_D_keepsRow) 20 = .ok (.getfield 114, 3) := by decide +kernel
theorem d_D_keepsRow_23 : decode (jyc Y_D_keepsRow) 23 = .ok (.if_icmp .ge 7, 3) := by decide +kernel
theorem d_D_keepsRow_26 : decode (jyc Y_D_keepsRow) 26 = .ok (.iconst 1, 1) := by decide +kernel
theorem d_D_keepsRow_27 : decode (jyc Y_D_keepsRow) 27 = .ok (.goto 4, 3) := by decide +kernel
theorem d_D_keepsRow_30 : decode (jyc Y_D_keepsRow) 30 = .ok (.iconst 0, 1) := by decide +kernel
theorem d_D_keepsRow_31 : decode (jyc Y_D_keepsRow) 31 = .ok (.ireturn, 1) := by decide +kernel
theorem d_D_isGood_0 : decode (jyc Y_D_isGood) 0 = .ok (.aload_n 0, 1) := by decide +kernel
theorem d_D_isGood_1 : decode (jyc Y_D_isGood) 1 = .ok (.getfield 22, 3) := by decide +kernel
theorem d_D_isGood_4 : decode (jyc Y_D_isGood) 4 = .ok (.iload_n 1, 1) := by decide +kernel
theorem d_D_isGood_5 : decode (jyc Y_D_isGood) 5 = .ok (.aaload, 1) := by decide +kernel
theorem d_D_isGood_6 : decode (jyc Y_D_isGood) 6 = .ok (.getfield 101, 3) := by decide +kernel
theorem d_D_isGood_9 : decode (jyc Y_D_isGood) 9 = .ok (.iload_n 2, 1) := by decide +kernel
theorem d_D_isGood_10 : decode (jyc Y_D_isGood) 10 = .ok (.aaload, 1) := by decide +kernel
theorem d_D_isGood_11 : decode (jyc Y_D_isGood) 11 = .ok (.astore 4, 2) := by decide +kernel
theorem d_D_isGood_13 : decode (jyc Y_D_isGood) 13 = .ok (.aload 4, 2) := by decide +kernel
theorem d_D_isGood_15 : decode (jyc Y_D_isGood) 15 = .ok (.getfield 105, 3) := by decide +kernel
theorem d_D_isGood_18 : decode (jyc Y_D_isGood) 18 = .ok (.ifCond .eq 45, 3) := by decide +kernel
theorem d_D_isGood_21 : decode (jyc Y_D_isGood) 21 = .ok (.aload 4, 2) := by decide +kernel
theorem d_D_isGood_23 : decode (jyc Y_D_isGood) 23 = .ok (.getfield 127, 3) := by decide +kernel
theorem d_D_isGood_26 : decode (jyc Y_D_isGood) 26 = .ok (.iload_n 3, 1) := by decide +kernel
theorem d_D_isGood_27 : decode (jyc Y_D_isGood) 27 = .ok (.baload, 1) := by decide +kernel
theorem d_D_isGood_28 : decode (jyc Y_D_isGood) 28 = .ok (.ifCond .ne 35, 3) := by decide +kernel
theorem d_D_isGood_31 : decode (jyc Y_D_isGood) 31 = .ok (.aload 4, 2) := by decide +kernel
theorem d_D_isGood_33 : decode (jyc Y_D_isGood) 33 = .ok (.getfield 141, 3) := by decide +kernel
theorem d_D_isGood_36 : decode (jyc Y_D_isGood) 36 = .ok (.iload_n 3, 1) := by decide +kernel
theorem d_D_isGood_37 : decode (jyc Y_D_isGood) 37 = .ok (.iconst 4, 1) := by decide +kernel
theorem d_D_isGood_38 : decode (jyc Y_D_isGood) 38 = .ok (.invokevirtual 142, 3) := by decide +kernel
theorem d_D_isGood_41 : decode (jyc Y_D_isGood) 41 = .ok (.aload_n 0, 1) := by decide +kernel
theorem d_D_isGood_42 : decode (jyc Y_D_isGood) 42 = .ok (.getfield 15, 3) := by decide +kernel
theorem d_D_isGood_45 : decode (jyc Y_D_isGood) 45 = .ok (.iload_n 2, 1) := by decide +kernel
theorem d_D_isGood_46 : decode (jyc Y_D_isGood) 46 = .ok (.aaload, 1) := by decide +kernel
theorem d_D_isGood_47 : decode (jyc Y_D_isGood) 47 = .ok (.aload 4, 2) := by decide +kernel
theorem d_D_isGood_49 : decode (jyc Y_D_isGood) 49 = .ok (.getfield 141, 3) := by decide +kernel
theorem d_D_isGood_52 : decode (jyc Y_D_isGood) 52 = .ok (.iload_n 3, 1) := by decide +kernel
theorem d_D_isGood_53 : decode (jyc Y_D_isGood) 53 = .ok (.invokevirtual 241, 3) := by decide +kernel
theorem d_D_isGood_56 : decode (jyc Y_D_isGood) 56 = .ok (.if_icmp .ne 7, 3) := by decide +kernel
theorem d_D_isGood_59 : decode (jyc Y_D_isGood) 59 = .ok (.iconst 1, 1) := by decide +kernel
theorem d_D_isGood_60 : decode (jyc Y_D_isGood) 60 = .ok (.goto 4, 3) := by decide +kernel
theorem d_D_isGood_63 : decode (jyc Y_D_isGood) 63 = .ok (.iconst 0, 1) := by decide +kernel
theorem d_D_isGood_64 : decode (jyc Y_D_isGood) 64 = .ok (.ireturn, 1) := by decide +kernel
theorem d_D_countCopies_0 : decode (jyc Y_D_countCopies) 0 = .ok (.iconst 0, 1) := by decide +kernel
theorem d_D_countCopies_1 : decode (jyc Y_D_countCopies) 1 = .ok (.istore_n 1, 1) := by decide +kernel
theorem d_D_countCopies_2 : decode (jyc Y_D_countCopies) 2 = .ok (.iconst 0, 1) := by decide +kernel
theorem d_D_countCopies_3 : decode (jyc Y_D_countCopies) 3 = .ok (.istore_n 2, 1) := by decide +kernel
theorem d_D_countCopies_4 : decode (jyc Y_D_countCopies) 4 = .ok (.iload_n 2, 1) := by decide +kernel
theorem d_D_countCopies_5 : decode (jyc Y_D_countCopies) 5 = .ok (.aload_n 0, 1) := by decide +kernel
theorem d_D_countCopies_6 : decode (jyc Y_D_countCopies) 6 = .ok (.getfield 51, 3) := by decide +kernel
theorem d_D_countCopies_9 : decode (jyc Y_D_countCopies) 9 = .ok (.if_icmp .ge 42, 3) := by decide +kernel
theorem d_D_countCopies_12 : decode (jyc Y_D_countCopies) 12 = .ok (.iconst 0, 1) := by decide +kernel
theorem d_D_countCopies_13 : decode (jyc Y_D_countCopies) 13 = .ok (.istore_n 3, 1) := by decide +kernel
theorem d_D_countCopies_14 : decode (jyc Y_D_countCopies) 14 = .ok (.iload_n 3, 1) := by decide +kernel
theorem d_D_countCopies_15 : decode (jyc Y_D_countCopies) 15 = .ok (.iconst 4, 1) := by decide +kernel
theorem d_D_countCopies_16 : decode (jyc Y_D_countCopies) 16 = .ok (.if_icmp .ge 29, 3) := by decide +kernel
theorem d_D_countCopies_19 : decode (jyc Y_D_countCopies) 19 = .ok (.aload_n 0, 1) := by decide +kernel
theorem d_D_countCopies_20 : decode (jyc Y_D_countCopies) 20 = .ok (.getfield 22, 3) := by decide +kernel
theorem d_D_countCopies_23 : decode (jyc Y_D_countCopies) 23 = .ok (.iload_n 3, 1) := by decide +kernel
theorem d_D_countCopies_24 : decode (jyc Y_D_countCopies) 24 = .ok (.aaload, 1) := by decide +kernel
theorem d_D_countCopies_25 : decode (jyc Y_D_countCopies) 25 = .ok (.getfield 101, 3) := by decide +kernel
theorem d_D_countCopies_28 : decode (jyc Y_D_countCopies) 28 = .ok (.iload_n 2, 1) := by decide +kernel
theorem d_D_countCopies_29 : decode (jyc Y_D_countCopies) 29 = .ok (.aaload, 1) := by decide +kernel
theorem d_D_countCopies_30 : decode (jyc Y_D_countCopies) 30 = .ok (.getfield 105, 3) := by decide +kernel
theorem d_D_countCopies_33 : decode (jyc Y_D_countCopies) 33 = .ok (.ifCond .eq 6, 3) := by decide +kernel
theorem d_D_countCopies_36 : decode (jyc Y_D_countCopies) 36 = .ok (.iinc 1 1, 3) := by decide +kernel
theorem d_D_countCopies_39 : decode (jyc Y_D_countCopies) 39 = .ok (.iinc 3 1, 3) := by decide +kernel
theorem d_D_countCopies_42 : decode (jyc Y_D_countCopies) 42 = .ok (.goto (-28), 3) := by decide +kernel
theorem d_D_countCopies_45 : decode (jyc Y_D_countCopies) 45 = .ok (.iinc 2 1, 3) := by decide +kernel
theorem d_D_countCopies_48 : decode (jyc Y_D_countCopies) 48 = .ok (.goto (-44), 3) := by decide +kernel
theorem d_D_countCopies_51 : decode (jyc Y_D_countCopies) 51 = .ok (.iload_n 1, 1) := by decide +kernel
theorem d_D_countCopies_52 : decode (jyc Y_D_countCopies) 52 = .ok (.ireturn, 1) := by decide +kernel
theorem d_D_gather_0 : decode (jyc Y_D_gather) 0 = .ok (.aload_n 0, 1) := by decide +kernel
theorem d_D_gather_1 : decode (jyc Y_D_gather) 1 = .ok (.getfield 15, 3) := by decide +kernel
theorem d_D_gather_4 : decode (jyc Y_D_gather) 4 = .ok (.iload_n 1, 1) := by decide +kernel
theorem d_D_gather_5 : decode (jyc Y_D_gather) 5 = .ok (.aaload, 1) := by decide +kernel
theorem d_D_gather_6 : decode (jyc Y_D_gather) 6 = .ok (.astore_n 2, 1) := by decide +kernel
theorem d_D_gather_7 : decode (jyc Y_D_gather) 7 = .ok (.iconst 0, 1) := by decide +kernel
theorem d_D_gather_8 : decode (jyc Y_D_gather) 8 = .ok (.istore_n 3, 1) := by decide +kernel
theorem d_D_gather_9 : decode (jyc Y_D_gather) 9 = .ok (.iload_n 3, 1) := by decide +kernel
theorem d_D_gather_10 : decode (jyc Y_D_gather) 10 = .ok (.aload_n 2, 1) := by decide +kernel
theorem d_D_gather_11 : decode (jyc Y_D_gather) 11 = .ok (.getfield 114, 3) := by decide +kernel
theorem d_D_gather_14 : decode (jyc Y_D_gather) 14 = .ok (.if_icmp .ge 32, 3) := by decide +kernel
theorem d_D_gather_17 : decode (jyc Y_D_gather) 17 = .ok (.aload_n 0, 1) := by decide +kernel
theorem d_D_gather_18 : decode (jyc Y_D_gather) 18 = .ok (.iload_n 1, 1) := by decide +kernel
theorem d_D_gather_19 : decode (jyc Y_D_gather) 19 = .ok (.iload_n 3, 1) := by decide +kernel
theorem d_D_gather_20 : decode (jyc Y_D_gather) 20 = .ok (.invokevirtual 244, 3) := by decide +kernel
theorem d_D_gather_23 : decode (jyc Y_D_gather) 23 = .ok (.ifCond .ne 5, 3) := by decide +kernel
theorem d_D_gather_26 : decode (jyc Y_D_gather) 26 = .ok (.iconst 0, 1) := by decide +kernel
theorem d_D_gather_27 : decode (jyc Y_D_gather) 27 = .ok (.ireturn, 1) := by decide +kernel
theorem d_D_gather_28 : decode (jyc Y_D_gather) 28 = .ok (.aload_n 0, 1) := by decide +kernel
theorem d_D_gather_29 : decode (jyc Y_D_gather) 29 = .ok (.getfield 43, 3) := by decide +kernel
theorem d_D_gather_32 : decode (jyc Y_D_gather) 32 = .ok (.iload_n 3, 1) := by decide +kernel
theorem d_D_gather_33 : decode (jyc Y_D_gather) 33 = .ok (.aload_n 0, 1) := by decide +kernel
theorem d_D_gather_34 : decode (jyc Y_D_gather) 34 = .ok (.getfield 47, 3) := by decide +kernel
theorem d_D_gather_37 : decode (jyc Y_D_gather) 37 = .ok (.invokevirtual 247, 3) := by decide +kernel
theorem d_D_gather_40 : decode (jyc Y_D_gather) 40 = .ok (.iinc 3 6, 3) := by decide +kernel
theorem d_D_gather_43 : decode (jyc Y_D_gather) 43 = .ok (.goto (-34), 3) := by decide +kernel
theorem d_D_gather_46 : decode (jyc Y_D_gather) 46 = .ok (.aload_n 2, 1) := by decide +kernel
theorem d_D_gather_47 : decode (jyc Y_D_gather) 47 = .ok (.aload_n 0, 1) := by decide +kernel
theorem d_D_gather_48 : decode (jyc Y_D_gather) 48 = .ok (.getfield 43, 3) := by decide +kernel
theorem d_D_gather_51 : decode (jyc Y_D_gather) 51 = .ok (.invokevirtual 251, 3) := by decide +kernel
theorem d_D_gather_54 : decode (jyc Y_D_gather) 54 = .ok (.iconst 1, 1) := by decide +kernel
theorem d_D_gather_55 : decode (jyc Y_D_gather) 55 = .ok (.ireturn, 1) := by decide +kernel
theorem d_D_gatherGroup_0 : decode (jyc Y_D_gatherGroup) 0 = .ok (.iconst 0, 1) := by decide +kernel
theorem d_D_gatherGroup_1 : decode (jyc Y_D_gatherGroup) 1 = .ok (.istore_n 3, 1) := by decide +kernel
theorem d_D_gatherGroup_2 : decode (jyc Y_D_gatherGroup) 2 = .ok (.iconst 0, 1) := by decide +kernel
theorem d_D_gatherGroup_3 : decode (jyc Y_D_gatherGroup) 3 = .ok (.istore 4, 2) := by decide +kernel
theorem d_D_gatherGroup_5 : decode (jyc Y_D_gatherGroup) 5 = .ok (.iload 4, 2) := by decide +kernel
theorem d_D_gatherGroup_7 : decode (jyc Y_D_gatherGroup) 7 = .ok (.bipush 6, 2) := by decide +kernel
theorem d_D_gatherGroup_9 : decode (jyc Y_D_gatherGroup) 9 = .ok (.if_icmp .ge 86, 3) := by decide +kernel
theorem d_D_gatherGroup_12 : decode (jyc Y_D_gatherGroup) 12 = .ok (.iload_n 3, 1) := by decide +kernel
theorem d_D_gatherGroup_13 : decode (jyc Y_D_gatherGroup) 13 = .ok (.iconst 4, 1) := by decide +kernel
theorem d_D_gatherGroup_14 : decode (jyc Y_D_gatherGroup) 14 = .ok (.if_icmp .ge 15, 3) := by decide +kernel
theorem d_D_gatherGroup_17 : decode (jyc Y_D_gatherGroup) 17 = .ok (.aload_n 0, 1) := by decide +kernel
theorem d_D_gatherGroup_18 : decode (jyc Y_D_gatherGroup) 18 = .ok (.iload_n 1, 1) := by decide +kernel
theorem d_D_gatherGroup_19 : decode (jyc Y_D_gatherGroup) 19 = .ok (.iload_n 2, 1) := by decide +kernel
theorem d_D_gatherGroup_20 : decode (jyc Y_D_gatherGroup) 20 = .ok (.iload 4, 2) := by decide +kernel
theorem d_D_gatherGroup_22 : decode (jyc Y_D_gatherGroup) 22 = .ok (.iadd, 1) := by decide +kernel
theorem d_D_gatherGroup_23 : decode (jyc Y_D_gatherGroup) 23 = .ok (.invokevirtual 254, 3) := by decide +kernel
theorem d_D_gatherGroup_26 : decode (jyc Y_D_gatherGroup) 26 = .ok (.goto 4, 3) := by decide +kernel
theorem d_D_gatherGroup_29 : decode (jyc Y_D_gatherGroup) 29 = .ok (.iconst (-1), 1) := by decide +kernel
theorem d_D_gatherGroup_30 : decode (jyc Y_D_gatherGroup) 30 = .ok (.istore 5, 2) := by decide +kernel
theorem d_D_gatherGroup_32 : decode (jyc Y_D_gatherGroup) 32 = .ok (.aload_n 0, 1) := by decide +kernel
theorem d_D_gatherGroup_33 : decode (jyc Y_D_gatherGroup) 33 = .ok (.getfield 47, 3) := by decide +kernel
theorem d_D_gatherGroup_36 : decode (jyc Y_D_gatherGroup) 36 = .ok (.iload 4, 2) := by decide +kernel
theorem d_D_gatherGroup_38 : decode (jyc Y_D_gatherGroup) 38 = .ok (.iload 5, 2) := by decide +kernel
theorem d_D_gatherGroup_40 : decode (jyc Y_D_gatherGroup) 40 = .ok (.iconst (-1), 1) := by decide +kernel
theorem d_D_gatherGroup_41 : decode (jyc Y_D_gatherGroup) 41 = .ok (.if_icmp .eq 7, 3) := by decide +kernel
theorem d_D_gatherGroup_44 : decode (jyc Y_D_gatherGroup) 44 = .ok (.iconst 1, 1) := by decide +kernel
theorem d_D_gatherGroup_45 : decode (jyc Y_D_gatherGroup) 45 = .ok (.goto 4, 3) := by decide +kernel
theorem d_D_gatherGroup_48 : decode (jyc Y_D_gatherGroup) 48 = .ok (.iconst 0, 1) := by decide +kernel
theorem d_D_gatherGroup_49 : decode (jyc Y_D_gatherGroup) 49 = .ok (.bastore, 1) := by decide +kernel
theorem d_D_gatherGroup_50 : decode (jyc Y_D_gatherGroup) 50 = .ok (.aload_n 0, 1) := by decide +kernel
theorem d_D_gatherGroup_51 : decode (jyc Y_D_gatherGroup) 51 = .ok (.getfield 47, 3) := by decide +kernel
theorem d_D_gatherGroup_54 : decode (jyc Y_D_gatherGroup) 54 = .ok (.iload 4, 2) := by decide +kernel
theorem d_D_gatherGroup_56 : decode (jyc Y_D_gatherGroup) 56 = .ok (.baload, 1) := by decide +kernel
theorem d_D_gatherGroup_57 : decode (jyc Y_D_gatherGroup) 57 = .ok (.ifCond .eq 32, 3) := by decide +kernel
theorem d_D_gatherGroup_60 : decode (jyc Y_D_gatherGroup) 60 = .ok (.aload_n 0, 1) := by decide +kernel
theorem d_D_gatherGroup_61 : decode (jyc Y_D_gatherGroup) 61 = .ok (.getfield 43, 3) := by decide +kernel
theorem d_D_gatherGroup_64 : decode (jyc Y_D_gatherGroup) 64 = .ok (.aload_n 0, 1) := by decide +kernel
theorem d_D_gatherGroup_65 : decode (jyc Y_D_gatherGroup) 65 = .ok (.getfield 22, 3) := by decide +kernel
theorem d_D_gatherGroup_68 : decode (jyc Y_D_gatherGroup) 68 = .ok (.iload 5, 2) := by decide +kernel
theorem d_D_gatherGroup_70 : decode (jyc Y_D_gatherGroup) 70 = .ok (.aaload, 1) := by decide +kernel
theorem d_D_gatherGroup_71 : decode (jyc Y_D_gatherGroup) 71 = .ok (.getfield 101, 3) := by decide +kernel
theorem d_D_gatherGroup_74 : decode (jyc Y_D_gatherGroup) 74 = .ok (.iload_n 1, 1) := by decide +kernel
theorem d_D_gatherGroup_75 : decode (jyc Y_D_gatherGroup) 75 = .ok (.aaload, 1) := by decide +kernel
theorem d_D_gatherGroup_76 : decode (jyc Y_D_gatherGroup) 76 = .ok (.getfield 141, 3) := by decide +kernel
theorem d_D_gatherGroup_79 : decode (jyc Y_D_gatherGroup) 79 = .ok (.iload_n 2, 1) := by decide +kernel
theorem d_D_gatherGroup_80 : decode (jyc Y_D_gatherGroup) 80 = .ok (.iload 4, 2) := by decide +kernel
theorem d_D_gatherGroup_82 : decode (jyc Y_D_gatherGroup) 82 = .ok (.iadd, 1) := by decide +kernel
theorem d_D_gatherGroup_83 : decode (jyc Y_D_gatherGroup) 83 = .ok (.invokevirtual 257, 3) := by decide +kernel
theorem d_D_gatherGroup_86 : decode (jyc Y_D_gatherGroup) 86 = .ok (.iinc 3 1, 3) := by decide +kernel
theorem d_D_gatherGroup_89 : decode (jyc Y_D_gatherGroup) 89 = .ok (.iinc 4 1, 3) := by decide +kernel
theorem d_D_gatherGroup_92 : decode (jyc Y_D_gatherGroup) 92 = .ok (.goto (-87), 3) := by decide +kernel
theorem d_D_gatherGroup_95 : decode (jyc Y_D_gatherGroup) 95 = .ok (.iload_n 3, 1) := by decide +kernel
theorem d_D_gatherGroup_96 : decode (jyc Y_D_gatherGroup) 96 = .ok (.iconst 4, 1) := by decide +kernel
theorem d_D_gatherGroup_97 : decode (jyc Y_D_gatherGroup) 97 = .ok (.if_icmp .ne 7, 3) := by decide +kernel
theorem d_D_gatherGroup_100 : decode (jyc Y_D_gatherGroup) 100 = .ok (.iconst 1, 1) := by decide +kernel
theorem d_D_gatherGroup_101 : decode (jyc Y_D_gatherGroup) 101 = .ok (.goto 4, 3) := by decide +kernel
theorem d_D_gatherGroup_104 : decode (jyc Y_D_gatherGroup) 104 = .ok (.iconst 0, 1) := by decide +kernel
theorem d_D_gatherGroup_105 : decode (jyc Y_D_gatherGroup) 105 = .ok (.ireturn, 1) := by decide +kernel
theorem d_D_leastGoodKeeper_0 : decode (jyc Y_D_leastGoodKeeper) 0 = .ok (.iconst 0, 1) := by decide +kernel
theorem d_D_leastGoodKeeper_1 : decode (jyc Y_D_leastGoodKeeper) 1 = .ok (.istore_n 3, 1) := by decide +kernel
theorem d_D_leastGoodKeeper_2 : decode (jyc Y_D_leastGoodKeeper) 2 = .ok (.iload_n 3, 1) := by decide +kernel
theorem d_D_leastGoodKeeper_3 : decode (jyc Y_D_leastGoodKeeper) 3 = .ok (.iconst 4, 1) := by decide +kernel
theorem d_D_leastGoodKeeper_4 : decode (jyc Y_D_leastGoodKeeper) 4 = .ok (.if_icmp .ge 21, 3) := by decide +kernel
theorem d_D_leastGoodKeeper_7 : decode (jyc Y_D_leastGoodKeeper) 7 = .ok (.aload_n 0, 1) := by decide +kernel
theorem d_D_leastGoodKeeper_8 : decode (jyc Y_D_leastGoodKeeper) 8 = .ok (.iload_n 3, 1) := by decide +kernel
theorem d_D_leastGoodKeeper_9 : decode (jyc Y_D_leastGoodKeeper) 9 = .ok (.iload_n 1, 1) := by decide +kernel
theorem d_D_leastGoodKeeper_10 : decode (jyc Y_D_leastGoodKeeper) 10 = .ok (.iload_n 2, 1) := by decide +kernel
theorem d_D_leastGoodKeeper_11 : decode (jyc Y_D_leastGoodKeeper) 11 = .ok (.invokevirtual 207, 3) := by decide +kernel
theorem d_D_leastGoodKeeper_14 : decode (jyc Y_D_leastGoodKeeper) 14 = .ok (.ifCond .eq 5, 3) := by decide +kernel
theorem d_D_leastGoodKeeper_17 : decode (jyc Y_D_leastGoodKeeper) 17 = .ok (.iload_n 3, 1) := by decide +kernel
theorem d_D_leastGoodKeeper_18 : decode (jyc Y_D_leastGoodKeeper) 18 = .ok (.ireturn, 1) := by decide +kernel
theorem d_D_leastGoodKeeper_19 : decode (jyc Y_D_leastGoodKeeper) 19 = .ok (.iinc 3 1, 3) := by decide +kernel
theorem d_D_leastGoodKeeper_22 : decode (jyc Y_D_leastGoodKeeper) 22 = .ok (.goto (-20), 3) := by decide +kernel
theorem d_D_leastGoodKeeper_25 : decode (jyc Y_D_leastGoodKeeper) 25 = .ok (.iconst (-1), 1) := by decide +kernel
theorem d_D_leastGoodKeeper_26 : decode (jyc Y_D_leastGoodKeeper) 26 = .ok (.ireturn, 1) := by decide +kernel
theorem d_M_init_0 : decode (jyc Y_M_init) 0 = .ok (.aload_n 0, 1) := by decide +kernel
theorem d_M_init_1 : decode (jyc Y_M_init) 1 = .ok (.invokespecial 1, 3) := by decide +kernel
theorem d_M_init_4 : decode (jyc Y_M_init) 4 = .ok (.aload_n 0, 1) := by decide +kernel
theorem d_M_init_5 : decode (jyc Y_M_init) 5 = .ok (.bipush 64, 2) := by decide +kernel
theorem d_M_init_7 : decode (jyc Y_M_init) 7 = .ok (.newarray .int, 2) := by decide +kernel
theorem d_M_init_9 : decode (jyc Y_M_init) 9 = .ok (.putfield 7, 3) := by decide +kernel
theorem d_M_init_12 : decode (jyc Y_M_init) 12 = .ok (.aload_n 0, 1) := by decide +kernel
theorem d_M_init_13 : decode (jyc Y_M_init) 13 = .ok (.iconst 3, 1) := by decide +kernel
theorem d_M_init_14 : decode (jyc Y_M_init) 14 = .ok (.newarray .int, 2) := by decide +kernel
theorem d_M_init_16 : decode (jyc Y_M_init) 16 = .ok (.putfield 13, 3) := by decide +kernel
theorem d_M_init_19 : decode (jyc Y_M_init) 19 = .ok (.aload_n 0, 1) := by decide +kernel
theorem d_M_init_20 : decode (jyc Y_M_init) 20 = .ok (.sipush 360, 3) := by decide +kernel
theorem d_M_init_23 : decode (jyc Y_M_init) 23 = .ok (.newarray .int, 2) := by decide +kernel
theorem d_M_init_25 : decode (jyc Y_M_init) 25 = .ok (.putfield 16, 3) := by decide +kernel
theorem d_M_init_28 : decode (jyc Y_M_init) 28 = .ok (.aload_n 0, 1) := by decide +kernel
theorem d_M_init_29 : decode (jyc Y_M_init) 29 = .ok (.bipush 12, 2) := by decide +kernel
theorem d_M_init_31 : decode (jyc Y_M_init) 31 = .ok (.newarray .boolean, 2) := by decide +kernel
theorem d_M_init_33 : decode (jyc Y_M_init) 33 = .ok (.putfield 19, 3) := by decide +kernel
theorem d_M_init_36 : decode (jyc Y_M_init) 36 = .ok (.aload_n 0, 1) := by decide +kernel
theorem d_M_init_37 : decode (jyc Y_M_init) 37 = .ok (.sipush 1440, 3) := by decide +kernel
theorem d_M_init_40 : decode (jyc Y_M_init) 40 = .ok (.newarray .int, 2) := by decide +kernel
theorem d_M_init_42 : decode (jyc Y_M_init) 42 = .ok (.putfield 23, 3) := by decide +kernel
theorem d_M_init_45 : decode (jyc Y_M_init) 45 = .ok (.aload_n 0, 1) := by decide +kernel
theorem d_M_init_46 : decode (jyc Y_M_init) 46 = .ok (.sipush 288, 3) := by decide +kernel
theorem d_M_init_49 : decode (jyc Y_M_init) 49 = .ok (.newarray .boolean, 2) := by decide +kernel
theorem d_M_init_51 : decode (jyc Y_M_init) 51 = .ok (.putfield 26, 3) := by decide +kernel
theorem d_M_init_54 : decode (jyc Y_M_init) 54 = .ok (.aload_n 0, 1) := by decide +kernel
theorem d_M_init_55 : decode (jyc Y_M_init) 55 = .ok (.iconst 4, 1) := by decide +kernel
theorem d_M_init_56 : decode (jyc Y_M_init) 56 = .ok (.newarray .int, 2) := by decide +kernel
theorem d_M_init_58 : decode (jyc Y_M_init) 58 = .ok (.putfield 29, 3) := by decide +kernel
theorem d_M_init_61 : decode (jyc Y_M_init) 61 = .ok (.aload_n 0, 1) := by decide +kernel
theorem d_M_init_62 : decode (jyc Y_M_init) 62 = .ok (.iconst 4, 1) := by decide +kernel
theorem d_M_init_63 : decode (jyc Y_M_init) 63 = .ok (.newarray .int, 2) := by decide +kernel
theorem d_M_init_65 : decode (jyc Y_M_init) 65 = .ok (.putfield 32, 3) := by decide +kernel
theorem d_M_init_68 : decode (jyc Y_M_init) 68 = .ok (.aload_n 0, 1) := by decide +kernel
theorem d_M_init_69 : decode (jyc Y_M_init) 69 = .ok (.iconst 4, 1) := by decide +kernel
theorem d_M_init_70 : decode (jyc Y_M_init) 70 = .ok (.newarray .int, 2) := by decide +kernel
theorem d_M_init_72 : decode (jyc Y_M_init) 72 = .ok (.putfield 35, 3) := by decide +kernel
theorem d_M_init_75 : decode (jyc Y_M_init) 75 = .ok (.aload_n 0, 1) := by decide +kernel
theorem d_M_init_76 : decode (jyc Y_M_init) 76 = .ok (.bipush 24, 2) := by decide +kernel
theorem d_M_init_78 : decode (jyc Y_M_init) 78 = .ok (.newarray .int, 2) := by decide +kernel
theorem d_M_init_80 : decode (jyc Y_M_init) 80 = .ok (.putfield 38, 3) := by decide +kernel
theorem d_M_init_83 : decode (jyc Y_M_init) 83 = .ok (.aload_n 0, 1) := by decide +kernel
theorem d_M_init_84 : decode (jyc Y_M_init) 84 = .ok (.bipush 24, 2) := by decide +kernel
theorem d_M_init_86 : decode (jyc Y_M_init) 86 = .ok (.newarray .int, 2) := by decide +kernel
theorem d_M_init_88 : decode (jyc Y_M_init) 88 = .ok (.putfield 41, 3) := by decide +kernel
theorem d_M_init_91 : decode (jyc Y_M_init) 91 = .ok (.aload_n 0, 1) := by decide +kernel
theorem d_M_init_92 : decode (jyc Y_M_init) 92 = .ok (.iconst 5, 1) := by decide +kernel
theorem d_M_init_93 : decode (jyc Y_M_init) 93 = .ok (.newarray .int, 2) := by decide +kernel
theorem d_M_init_95 : decode (jyc Y_M_init) 95 = .ok (.putfield 44, 3) := by decide +kernel
theorem d_M_init_98 : decode (jyc Y_M_init) 98 = .ok (.aload_n 0, 1) := by decide +kernel
theorem d_M_init_99 : decode (jyc Y_M_init) 99 = .ok (.bipush 24, 2) := by decide +kernel
theorem d_M_init_101 : decode (jyc Y_M_init) 101 = .ok (.newarray .int, 2) := by decide +kernel
theorem d_M_init_103 : decode (jyc Y_M_init) 103 = .ok (.putfield 47, 3) := by decide +kernel
theorem d_M_init_106 : decode (jyc Y_M_init) 106 = .ok (.aload_n 0, 1) := by decide +kernel
theorem d_M_init_107 : decode (jyc Y_M_init) 107 = .ok (.bipush 64, 2) := by decide +kernel
theorem d_M_init_109 : decode (jyc Y_M_init) 109 = .ok (.newarray .int, 2) := by decide +kernel
theorem d_M_init_111 : decode (jyc Y_M_init) 111 = .ok (.putfield 50, 3) := by decide +kernel
theorem d_M_init_114 : decode (jyc Y_M_init) 114 = .ok (.aload_n 0, 1) := by decide +kernel
theorem d_M_init_115 : decode (jyc Y_M_init) 115 = .ok (.bipush 64, 2) := by decide +kernel
theorem d_M_init_117 : decode (jyc Y_M_init) 117 = .ok (.newarray .int, 2) := by decide +kernel
theorem d_M_init_119 : decode (jyc Y_M_init) 119 = .ok (.putfield 53, 3) := by decide +kernel
theorem d_M_init_122 : decode (jyc Y_M_init) 122 = .ok (.aload_n 0, 1) := by decide +kernel
theorem d_M_init_123 : decode (jyc Y_M_init) 123 = .ok (.bipush 32, 2) := by decide +kernel
theorem d_M_init_125 : decode (jyc Y_M_init) 125 = .ok (.newarray .long, 2) := by decide +kernel
theorem d_M_init_127 : decode (jyc Y_M_init) 127 = .ok (.putfield 56, 3) := by decide +kernel
theorem d_M_init_130 : decode (jyc Y_M_init) 130 = .ok (.aload_n 0, 1) := by decide +kernel
theorem d_M_init_131 : decode (jyc Y_M_init) 131 = .ok (.sipush 360, 3) := by decide +kernel
theorem d_M_init_134 : decode (jyc Y_M_init) 134 = .ok (.newarray .int, 2) := by decide +kernel
theorem d_M_init_136 : decode (jyc Y_M_init) 136 = .ok (.putfield 60, 3) := by decide +kernel
theorem d_M_init_139 : decode (jyc Y_M_init) 139 = .ok (.return_, 1) := by decide +kernel
theorem d_M_thrown_0 : decode (jyc Y_M_thrown) 0 = .ok (.aload_n 0, 1) := by decide +kernel
theorem d_M_thrown_1 : decode (jyc Y_M_thrown) 1 = .ok (.getfield 63, 3) := by decide +kernel
theorem d_M_thrown_4 : decode (jyc Y_M_thrown) 4 = .ok (.ireturn, 1) := by decide +kernel
theorem d_M_power_0 : decode (jyc Y_M_power) 0 = .ok (.lconst 1, 1) := by decide +kernel
theorem d_M_power_1 : decode (jyc Y_M_power) 1 = .ok (.lstore 4, 2) := by decide +kernel
theorem d_M_power_3 : decode (jyc Y_M_power) 3 = .ok (.lload_n 0, 1) := by decide +kernel
theorem d_M_power_4 : decode (jyc Y_M_power) 4 = .ok (.ldc2_w 67, 3) := by decide +kernel
theorem d_M_power_7 : decode (jyc Y_M_power) 7 = .ok (.lrem, 1) := by decide +kernel
theorem d_M_power_8 : decode (jyc Y_M_power) 8 = .ok (.lstore 6, 2) := by decide +kernel
theorem d_M_power_10 : decode (jyc Y_M_power) 10 = .ok (.lload_n 2, 1) := by decide +kernel
theorem d_M_power_11 : decode (jyc Y_M_power) 11 = .ok (.lstore 8, 2) := by decide +kernel
theorem d_M_power_13 : decode (jyc Y_M_power) 13 = .ok (.lload 8, 2) := by decide +kernel
theorem d_M_power_15 : decode (jyc Y_M_power) 15 = .ok (.lconst 0, 1) := by decide +kernel
theorem d_M_power_16 : decode (jyc Y_M_power) 16 = .ok (.lcmp, 1) := by decide +kernel
theorem d_M_power_17 : decode (jyc Y_M_power) 17 = .ok (.ifCond .le 48, 3) := by decide +kernel
theorem d_M_power_20 : decode (jyc Y_M_power) 20 = .ok (.lload 8, 2) := by decide +kernel
theorem d_M_power_22 : decode (jyc Y_M_power) 22 = .ok (.lconst 1, 1) := by decide +kernel
theorem d_M_power_23 : decode (jyc Y_M_power) 23 = .ok (.land, 1) := by decide +kernel
theorem d_M_power_24 : decode (jyc Y_M_power) 24 = .ok (.lconst 1, 1) := by decide +kernel
theorem d_M_power_25 : decode (jyc Y_M_power) 25 = .ok (.lcmp, 1) := by decide +kernel
theorem d_M_power_26 : decode (jyc Y_M_power) 26 = .ok (.ifCond .ne 15, 3) := by decide +kernel
theorem d_M_power_29 : decode (jyc Y_M_power) 29 = .ok (.lload 4, 2) := by decide +kernel
theorem d_M_power_31 : decode (jyc Y_M_power) 31 = .ok (.lload 6, 2) := by decide +kernel
theorem d_M_power_33 : decode (jyc Y_M_power) 33 = .ok (.lmul, 1) := by decide +kernel
theorem d_M_power_34 : decode (jyc Y_M_power) 34 = .ok (.ldc2_w 67, 3) := by decide +kernel
theorem d_M_power_37 : decode (jyc Y_M_power) 37 = .ok (.lrem, 1) := by decide +kernel
theorem d_M_power_38 : decode (jyc Y_M_power) 38 = .ok (.goto 5, 3) := by decide +kernel
theorem d_M_power_41 : decode (jyc Y_M_power) 41 = .ok (.lload 4, 2) := by decide +kernel
theorem d_M_power_43 : decode (jyc Y_M_power) 43 = .ok (.lstore 4, 2) := by decide +kernel
theorem d_M_power_45 : decode (jyc Y_M_power) 45 = .ok (.lload 6, 2) := by decide +kernel
theorem d_M_power_47 : decode (jyc Y_M_power) 47 = .ok (.lload 6, 2) := by decide +kernel
theorem d_M_power_49 : decode (jyc Y_M_power) 49 = .ok (.lmul, 1) := by decide +kernel
theorem d_M_power_50 : decode (jyc Y_M_power) 50 = .ok (.ldc2_w 67, 3) := by decide +kernel
theorem d_M_power_53 : decode (jyc Y_M_power) 53 = .ok (.lrem, 1) := by decide +kernel
theorem d_M_power_54 : decode (jyc Y_M_power) 54 = .ok (.lstore 6, 2) := by decide +kernel
theorem d_M_power_56 : decode (jyc Y_M_power) 56 = .ok (.lload 8, 2) := by decide +kernel
theorem d_M_power_58 : decode (jyc Y_M_power) 58 = .ok (.iconst 1, 1) := by decide +kernel
theorem d_M_power_59 : decode (jyc Y_M_power) 59 = .ok (.lshr, 1) := by decide +kernel
theorem d_M_power_60 : decode (jyc Y_M_power) 60 = .ok (.lstore 8, 2) := by decide +kernel
theorem d_M_power_62 : decode (jyc Y_M_power) 62 = .ok (.goto (-49), 3) := by decide +kernel
theorem d_M_power_65 : decode (jyc Y_M_power) 65 = .ok (.lload 4, 2) := by decide +kernel
theorem d_M_power_67 : decode (jyc Y_M_power) 67 = .ok (.lreturn, 1) := by decide +kernel
theorem d_M_over_0 : decode (jyc Y_M_over) 0 = .ok (.lload_n 0, 1) := by decide +kernel
theorem d_M_over_1 : decode (jyc Y_M_over) 1 = .ok (.ldc2_w 69, 3) := by decide +kernel
theorem d_M_over_4 : decode (jyc Y_M_over) 4 = .ok (.invokestatic 71, 3) := by decide +kernel
theorem d_M_over_7 : decode (jyc Y_M_over) 7 = .ok (.lreturn, 1) := by decide +kernel
theorem d_M_secret_0 : decode (jyc Y_M_secret) 0 = .ok (.aload_n 0, 1) := by decide +kernel
theorem d_M_secret_1 : decode (jyc Y_M_secret) 1 = .ok (.getfield 75, 3) := by decide +kernel
theorem d_M_secret_4 : decode (jyc Y_M_secret) 4 = .ok (.iload_n 1, 1) := by decide +kernel
theorem d_M_secret_5 : decode (jyc Y_M_secret) 5 = .ok (.i2l, 1) := by decide +kernel
theorem d_M_secret_6 : decode (jyc Y_M_secret) 6 = .ok (.ldc2_w 79, 3) := by decide +kernel
theorem d_M_secret_9 : decode (jyc Y_M_secret) 9 = .ok (.lmul, 1) := by decide +kernel
theorem d_M_secret_10 : decode (jyc Y_M_secret) 10 = .ok (.ladd, 1) := by decide +kernel
theorem d_M_secret_11 : decode (jyc Y_M_secret) 11 = .ok (.lstore_n 2, 1) := by decide +kernel
theorem d_M_secret_12 : decode (jyc Y_M_secret) 12 = .ok (.iconst 0, 1) := by decide +kernel
theorem d_M_secret_13 : decode (jyc Y_M_secret) 13 = .ok (.istore 4, 2) := by decide +kernel
theorem d_M_secret_15 : decode (jyc Y_M_secret) 15 = .ok (.iload 4, 2) := by decide +kernel
theorem d_M_secret_17 : decode (jyc Y_M_secret) 17 = .ok (.iconst 4, 1) := by decide +kernel
theorem d_M_secret_18 : decode (jyc Y_M_secret) 18 = .ok (.if_icmp .ge 43, 3) := by decide +kernel
theorem d_M_secret_21 : decode (jyc Y_M_secret) 21 = .ok (.lload_n 2, 1) := by decide +kernel
theorem d_M_secret_22 : decode (jyc Y_M_secret) 22 = .ok (.lload_n 2, 1) := by decide +kernel
theorem d_M_secret_23 : decode (jyc Y_M_secret) 23 = .ok (.bipush 30, 2) := by decide +kernel
theorem d_M_secret_25 : decode (jyc Y_M_secret) 25 = .ok (.lushr, 1) := by decide +kernel
theorem d_M_secret_26 : decode (jyc Y_M_secret) 26 = .ok (.lxor, 1) := by decide +kernel
theorem d_M_secret_27 : decode (jyc Y_M_secret) 27 = .ok (.ldc2_w 81, 3) := by decide +kernel
theorem d_M_secret_30 : decode (jyc Y_M_secret) 30 = .ok (.lmul, 1) := by decide +kernel
theorem d_M_secret_31 : decode (jyc Y_M_secret) 31 = .ok (.lstore_n 2, 1) := by decide +kernel
theorem d_M_secret_32 : decode (jyc Y_M_secret) 32 = .ok (.lload_n 2, 1) := by decide +kernel
theorem d_M_secret_33 : decode (jyc Y_M_secret) 33 = .ok (.lload_n 2, 1) := by decide +kernel
theorem d_M_secret_34 : decode (jyc Y_M_secret) 34 = .ok (.bipush 27, 2) := by decide +kernel
theorem d_M_secret_36 : decode (jyc Y_M_secret) 36 = .ok (.lushr, 1) := by decide +kernel
theorem d_M_secret_37 : decode (jyc Y_M_secret) 37 = .ok (.lxor, 1) := by decide +kernel
theorem d_M_secret_38 : decode (jyc Y_M_secret) 38 = .ok (.ldc2_w 83, 3) := by decide +kernel
theorem d_M_secret_41 : decode (jyc Y_M_secret) 41 = .ok (.lmul, 1) := by decide +kernel
theorem d_M_secret_42 : decode (jyc Y_M_secret) 42 = .ok (.lstore_n 2, 1) := by decide +kernel
theorem d_M_secret_43 : decode (jyc Y_M_secret) 43 = .ok (.lload_n 2, 1) := by decide +kernel
theorem d_M_secret_44 : decode (jyc Y_M_secret) 44 = .ok (.lload_n 2, 1) := by decide +kernel
theorem d_M_secret_45 : decode (jyc Y_M_secret) 45 = .ok (.bipush 31, 2) := by decide +kernel
theorem d_M_secret_47 : decode (jyc Y_M_secret) 47 = .ok (.lushr, 1) := by decide +kernel
theorem d_M_secret_48 : decode (jyc Y_M_secret) 48 = .ok (.lxor, 1) := by decide +kernel
theorem d_M_secret_49 : decode (jyc Y_M_secret) 49 = .ok (.aload_n 0, 1) := by decide +kernel
theorem d_M_secret_50 : decode (jyc Y_M_secret) 50 = .ok (.getfield 85, 3) := by decide +kernel
theorem d_M_secret_53 : decode (jyc Y_M_secret) 53 = .ok (.ladd, 1) := by decide +kernel
theorem d_M_secret_54 : decode (jyc Y_M_secret) 54 = .ok (.lstore_n 2, 1) := by decide +kernel
theorem d_M_secret_55 : decode (jyc Y_M_secret) 55 = .ok (.iinc 4 1, 3) := by decide +kernel
theorem d_M_secret_58 : decode (jyc Y_M_secret) 58 = .ok (.goto (-43), 3) := by decide +kernel
theorem d_M_secret_61 : decode (jyc Y_M_secret) 61 = .ok (.lload_n 2, 1) := by decide +kernel
theorem d_M_secret_62 : decode (jyc Y_M_secret) 62 = .ok (.bipush 33, 2) := by decide +kernel
theorem d_M_secret_64 : decode (jyc Y_M_secret) 64 = .ok (.lushr, 1) := by decide +kernel
theorem d_M_secret_65 : decode (jyc Y_M_secret) 65 = .ok (.ldc2_w 67, 3) := by decide +kernel
theorem d_M_secret_68 : decode (jyc Y_M_secret) 68 = .ok (.lrem, 1) := by decide +kernel
theorem d_M_secret_69 : decode (jyc Y_M_secret) 69 = .ok (.lreturn, 1) := by decide +kernel
theorem d_M_isNumber_0 : decode (jyc Y_M_isNumber) 0 = .ok (.iload_n 0, 1) := by decide +kernel
theorem d_M_isNumber_1 : decode (jyc Y_M_isNumber) 1 = .ok (.ifCond .lt 16, 3) := by decide +kernel
theorem d_M_isNumber_4 : decode (jyc Y_M_isNumber) 4 = .ok (.iload_n 0, 1) := by decide +kernel
theorem d_M_isNumber_5 : decode (jyc Y_M_isNumber) 5 = .ok (.i2l, 1) := by decide +kernel
theorem d_M_isNumber_6 : decode (jyc Y_M_isNumber) 6 = .ok (.ldc2_w 67, 3) := by decide +kernel
theorem d_M_isNumber_9 : decode (jyc Y_M_isNumber) 9 = .ok (.lcmp, 1) := by decide +kernel
theorem d_M_isNumber_10 : decode (jyc Y_M_isNumber) 10 = .ok (.ifCond .ge 7, 3) := by decide +kernel
theorem d_M_isNumber_13 : decode (jyc Y_M_isNumber) 13 = .ok (.iconst 1, 1) := by decide +kernel
theorem d_M_isNumber_14 : decode (jyc Y_M_isNumber) 14 = .ok (.goto 4, 3) := by decide +kernel
theorem d_M_isNumber_17 : decode (jyc Y_M_isNumber) 17 = .ok (.iconst 0, 1) := by decide +kernel
theorem d_M_isNumber_18 : decode (jyc Y_M_isNumber) 18 = .ok (.ireturn, 1) := by decide +kernel
theorem d_M_key_0 : decode (jyc Y_M_key) 0 = .ok (.aload_n 0, 1) := by decide +kernel
theorem d_M_key_1 : decode (jyc Y_M_key) 1 = .ok (.aload_n 0, 1) := by decide +kernel
theorem d_M_key_2 : decode (jyc Y_M_key) 2 = .ok (.getfield 88, 3) := by decide +kernel
theorem d_M_key_5 : decode (jyc Y_M_key) 5 = .ok (.ifCond .le 7, 3) := by decide +kernel
theorem d_M_key_8 : decode (jyc Y_M_key) 8 = .ok (.iconst 1, 1) := by decide +kernel
theorem d_M_key_9 : decode (jyc Y_M_key) 9 = .ok (.goto 4, 3) := by decide +kernel
theorem d_M_key_12 : decode (jyc Y_M_key) 12 = .ok (.iconst 0, 1) := by decide +kernel
theorem d_M_key_13 : decode (jyc Y_M_key) 13 = .ok (.putfield 63, 3) := by decide +kernel
theorem d_M_key_16 : decode (jyc Y_M_key) 16 = .ok (.aload_n 0, 1) := by decide +kernel
theorem d_M_key_17 : decode (jyc Y_M_key) 17 = .ok (.getfield 63, 3) := by decide +kernel
theorem d_M_key_20 : decode (jyc Y_M_key) 20 = .ok (.ifCond .ne 13, 3) := by decide +kernel
theorem d_M_key_23 : decode (jyc Y_M_key) 23 = .ok (.aload_n 0, 1) := by decide +kernel
theorem d_M_key_24 : decode (jyc Y_M_key) 24 = .ok (.lload_n 1, 1) := by decide +kernel
theorem d_M_key_25 : decode (jyc Y_M_key) 25 = .ok (.putfield 75, 3) := by decide +kernel
theorem d_M_key_28 : decode (jyc Y_M_key) 28 = .ok (.aload_n 0, 1) := by decide +kernel
theorem d_M_key_29 : decode (jyc Y_M_key) 29 = .ok (.lload_n 3, 1) := by decide +kernel
theorem d_M_key_30 : decode (jyc Y_M_key) 30 = .ok (.putfield 85, 3) := by decide +kernel
theorem d_M_key_33 : decode (jyc Y_M_key) 33 = .ok (.return_, 1) := by decide +kernel
theorem d_M_word_0 : decode (jyc Y_M_word) 0 = .ok (.aload_n 0, 1) := by decide +kernel
theorem d_M_word_1 : decode (jyc Y_M_word) 1 = .ok (.iconst 0, 1) := by decide +kernel
theorem d_M_word_2 : decode (jyc Y_M_word) 2 = .ok (.putfield 63, 3) := by decide +kernel
theorem d_M_word_5 : decode (jyc Y_M_word) 5 = .ok (.iload_n 1, 1) := by decide +kernel
theorem d_M_word_6 : decode (jyc Y_M_word) 6 = .ok (.ifCond .lt 16, 3) := by decide +kernel
theorem d_M_word_9 : decode (jyc Y_M_word) 9 = .ok (.iload_n 1, 1) := by decide +kernel
theorem d_M_word_10 : decode (jyc Y_M_word) 10 = .ok (.bipush 63, 2) := by decide +kernel
theorem d_M_word_12 : decode (jyc Y_M_word) 12 = .ok (.if_icmp .gt 10, 3) := by decide +kernel
theorem d_M_word_15 : decode (jyc Y_M_word) 15 = .ok (.iload_n 2, 1) := by decide +kernel
theorem d_M_word_16 : decode (jyc Y_M_word) 16 = .ok (.invokestatic 91, 3) := by decide +kernel
theorem d_M_word_19 : decode (jyc Y_M_word) 19 = .ok (.ifCond .ne 5, 3) := by decide +kernel
theorem d_M_word_22 : decode (jyc Y_M_word) 22 = .ok (.iconst 0, 1) := by decide +kernel
theorem d_M_word_23 : decode (jyc Y_M_word) 23 = .ok (.ireturn, 1) := by decide +kernel
theorem d_M_word_24 : decode (jyc Y_M_word) 24 = .ok (.aload_n 0, 1) := by decide +kernel
theorem d_M_word_25 : decode (jyc Y_M_word) 25 = .ok (.getfield 7, 3) := by decide +kernel
theorem d_M_word_28 : decode (jyc Y_M_word) 28 = .ok (.iload_n 1, 1) := by decide +kernel
theorem d_M_word_29 : decode (jyc Y_M_word) 29 = .ok (.iload_n 2, 1) := by decide +kernel
theorem d_M_word_30 : decode (jyc Y_M_word) 30 = .ok (.iastore, 1) := by decide +kernel
theorem d_M_word_31 : decode (jyc Y_M_word) 31 = .ok (.iconst 1, 1) := by decide +kernel
theorem d_M_word_32 : decode (jyc Y_M_word) 32 = .ok (.ireturn, 1) := by decide +kernel
theorem d_M_rowsOf_0 : decode (jyc Y_M_rowsOf) 0 = .ok (.bipush 6, 2) := by decide +kernel
theorem d_M_rowsOf_2 : decode (jyc Y_M_rowsOf) 2 = .ok (.aload_n 0, 1) := by decide +kernel
theorem d_M_rowsOf_3 : decode (jyc Y_M_rowsOf) 3 = .ok (.getfield 13, 3) := by decide +kernel
theorem d_M_rowsOf_6 : decode (jyc Y_M_rowsOf) 6 = .ok (.iload_n 1, 1) := by decide +kernel
theorem d_M_rowsOf_7 : decode (jyc Y_M_rowsOf) 7 = .ok (.iaload, 1) := by decide +kernel
theorem d_M_rowsOf_8 : decode (jyc Y_M_rowsOf) 8 = .ok (.bipush 15, 2) := by decide +kernel
theorem d_M_rowsOf_10 : decode (jyc Y_M_rowsOf) 10 = .ok (.iadd, 1) := by decide +kernel
theorem d_M_rowsOf_11 : decode (jyc Y_M_rowsOf) 11 = .ok (.bipush 16, 2) := by decide +kernel
theorem d_M_rowsOf_13 : decode (jyc Y_M_rowsOf) 13 = .ok (.idiv, 1) := by decide +kernel
theorem d_M_rowsOf_14 : decode (jyc Y_M_rowsOf) 14 = .ok (.imul, 1) := by decide +kernel
theorem d_M_rowsOf_15 : decode (jyc Y_M_rowsOf) 15 = .ok (.ireturn, 1) := by decide +kernel
theorem d_M_tag_0 : decode (jyc Y_M_tag) 0 = .ok (.aload_n 0, 1) := by decide +kernel
theorem d_M_tag_1 : decode (jyc Y_M_tag) 1 = .ok (.bipush 64, 2) := by decide +kernel
theorem d_M_tag_3 : decode (jyc Y_M_tag) 3 = .ok (.iload_n 1, 1) := by decide +kernel
theorem d_M_tag_4 : decode (jyc Y_M_tag) 4 = .ok (.imul, 1) := by decide +kernel
theorem d_M_tag_5 : decode (jyc Y_M_tag) 5 = .ok (.bipush 8, 2) := by decide +kernel
theorem d_M_tag_7 : decode (jyc Y_M_tag) 7 = .ok (.iadd, 1) := by decide +kernel
theorem d_M_tag_8 : decode (jyc Y_M_tag) 8 = .ok (.iload_n 2, 1) := by decide +kernel
theorem d_M_tag_9 : decode (jyc Y_M_tag) 9 = .ok (.iadd, 1) := by decide +kernel
theorem d_M_tag_10 : decode (jyc Y_M_tag) 10 = .ok (.invokevirtual 95, 3) := by decide +kernel
theorem d_M_tag_13 : decode (jyc Y_M_tag) 13 = .ok (.lstore 5, 2) := by decide +kernel
theorem d_M_tag_15 : decode (jyc Y_M_tag) 15 = .ok (.iconst 0, 1) := by decide +kernel
theorem d_M_tag_16 : decode (jyc Y_M_tag) 16 = .ok (.istore 7, 2) := by decide +kernel
theorem d_M_tag_18 : decode (jyc Y_M_tag) 18 = .ok (.iload 7, 2) := by decide +kernel
theorem d_M_tag_20 : decode (jyc Y_M_tag) 20 = .ok (.iconst 4, 1) := by decide +kernel
theorem d_M_tag_21 : decode (jyc Y_M_tag) 21 = .ok (.if_icmp .ge 38, 3) := by decide +kernel
theorem d_M_tag_24 : decode (jyc Y_M_tag) 24 = .ok (.lload 5, 2) := by decide +kernel
theorem d_M_tag_26 : decode (jyc Y_M_tag) 26 = .ok (.aload_n 0, 1) := by decide +kernel
theorem d_M_tag_27 : decode (jyc Y_M_tag) 27 = .ok (.bipush 64, 2) := by decide +kernel
theorem d_M_tag_29 : decode (jyc Y_M_tag) 29 = .ok (.iload_n 1, 1) := by decide +kernel
theorem d_M_tag_30 : decode (jyc Y_M_tag) 30 = .ok (.imul, 1) := by decide +kernel
theorem d_M_tag_31 : decode (jyc Y_M_tag) 31 = .ok (.iload 7, 2) := by decide +kernel
theorem d_M_tag_33 : decode (jyc Y_M_tag) 33 = .ok (.iadd, 1) := by decide +kernel
theorem d_M_tag_34 : decode (jyc Y_M_tag) 34 = .ok (.invokevirtual 95, 3) := by decide +kernel
