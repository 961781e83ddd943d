/-! what each instruction is, part 3 -/
theorem d_R_recover_40 : decode (jyc Y_R_recover) 40 = .ok (.ifCond .eq 7, 3) := by decide +kernel
theorem d_R_recover_43 : decode (jyc Y_R_recover) 43 = .ok (.iconst 0, 1) := by decide +kernel
theorem d_R_recover_44 : decode (jyc Y_R_recover) 44 = .ok (.goto 4, 3) := by decide +kernel
theorem d_R_recover_47 : decode (jyc Y_R_recover) 47 = .ok (.iconst 1, 1) := by decide +kernel
theorem d_R_recover_48 : decode (jyc Y_R_recover) 48 = .ok (.invokevirtual 52, 3) := by decide +kernel
theorem d_R_recover_51 : decode (jyc Y_R_recover) 51 = .ok (.goto 19, 3) := by decide +kernel
theorem d_R_recover_54 : decode (jyc Y_R_recover) 54 = .ok (.aload_n 0, 1) := by decide +kernel
theorem d_R_recover_55 : decode (jyc Y_R_recover) 55 = .ok (.iload_n 1, 1) := by decide +kernel
theorem d_R_recover_56 : decode (jyc Y_R_recover) 56 = .ok (.iload 4, 2) := by decide +kernel
theorem d_R_recover_58 : decode (jyc Y_R_recover) 58 = .ok (.iadd, 1) := by decide +kernel
theorem d_R_recover_59 : decode (jyc Y_R_recover) 59 = .ok (.invokevirtual 48, 3) := by decide +kernel
theorem d_R_recover_62 : decode (jyc Y_R_recover) 62 = .ok (.aload_n 0, 1) := by decide +kernel
theorem d_R_recover_63 : decode (jyc Y_R_recover) 63 = .ok (.iload_n 1, 1) := by decide +kernel
theorem d_R_recover_64 : decode (jyc Y_R_recover) 64 = .ok (.iload_n 3, 1) := by decide +kernel
theorem d_R_recover_65 : decode (jyc Y_R_recover) 65 = .ok (.iload 4, 2) := by decide +kernel
theorem d_R_recover_67 : decode (jyc Y_R_recover) 67 = .ok (.invokevirtual 55, 3) := by decide +kernel
theorem d_R_recover_70 : decode (jyc Y_R_recover) 70 = .ok (.return_, 1) := by decide +kernel
theorem d_R_nextMissing_0 : decode (jyc Y_R_nextMissing) 0 = .ok (.iload_n 1, 1) := by decide +kernel
theorem d_R_nextMissing_1 : decode (jyc Y_R_nextMissing) 1 = .ok (.istore_n 2, 1) := by decide +kernel
theorem d_R_nextMissing_2 : decode (jyc Y_R_nextMissing) 2 = .ok (.iload_n 2, 1) := by decide +kernel
theorem d_R_nextMissing_3 : decode (jyc Y_R_nextMissing) 3 = .ok (.iconst 4, 1) := by decide +kernel
theorem d_R_nextMissing_4 : decode (jyc Y_R_nextMissing) 4 = .ok (.if_icmp .ge 17, 3) := by decide +kernel
theorem d_R_nextMissing_7 : decode (jyc Y_R_nextMissing) 7 = .ok (.aload_n 0, 1) := by decide +kernel
theorem d_R_nextMissing_8 : decode (jyc Y_R_nextMissing) 8 = .ok (.iload_n 2, 1) := by decide +kernel
theorem d_R_nextMissing_9 : decode (jyc Y_R_nextMissing) 9 = .ok (.baload, 1) := by decide +kernel
theorem d_R_nextMissing_10 : decode (jyc Y_R_nextMissing) 10 = .ok (.ifCond .ne 5, 3) := by decide +kernel
theorem d_R_nextMissing_13 : decode (jyc Y_R_nextMissing) 13 = .ok (.iload_n 2, 1) := by decide +kernel
theorem d_R_nextMissing_14 : decode (jyc Y_R_nextMissing) 14 = .ok (.ireturn, 1) := by decide +kernel
theorem d_R_nextMissing_15 : decode (jyc Y_R_nextMissing) 15 = .ok (.iinc 2 1, 3) := by decide +kernel
theorem d_R_nextMissing_18 : decode (jyc Y_R_nextMissing) 18 = .ok (.goto (-16), 3) := by decide +kernel
theorem d_R_nextMissing_21 : decode (jyc Y_R_nextMissing) 21 = .ok (.iconst 4, 1) := by decide +kernel
theorem d_R_nextMissing_22 : decode (jyc Y_R_nextMissing) 22 = .ok (.ireturn, 1) := by decide +kernel
theorem d_R_recoverOne_0 : decode (jyc Y_R_recoverOne) 0 = .ok (.iconst 0, 1) := by decide +kernel
theorem d_R_recoverOne_1 : decode (jyc Y_R_recoverOne) 1 = .ok (.istore 4, 2) := by decide +kernel
theorem d_R_recoverOne_3 : decode (jyc Y_R_recoverOne) 3 = .ok (.iload 4, 2) := by decide +kernel
theorem d_R_recoverOne_5 : decode (jyc Y_R_recoverOne) 5 = .ok (.iconst 4, 1) := by decide +kernel
theorem d_R_recoverOne_6 : decode (jyc Y_R_recoverOne) 6 = .ok (.if_icmp .ge 34, 3) := by decide +kernel
theorem d_R_recoverOne_9 : decode (jyc Y_R_recoverOne) 9 = .ok (.aload_n 0, 1) := by decide +kernel
theorem d_R_recoverOne_10 : decode (jyc Y_R_recoverOne) 10 = .ok (.iload_n 1, 1) := by decide +kernel
theorem d_R_recoverOne_11 : decode (jyc Y_R_recoverOne) 11 = .ok (.iload_n 2, 1) := by decide +kernel
theorem d_R_recoverOne_12 : decode (jyc Y_R_recoverOne) 12 = .ok (.iadd, 1) := by decide +kernel
theorem d_R_recoverOne_13 : decode (jyc Y_R_recoverOne) 13 = .ok (.iload 4, 2) := by decide +kernel
theorem d_R_recoverOne_15 : decode (jyc Y_R_recoverOne) 15 = .ok (.aload_n 0, 1) := by decide +kernel
theorem d_R_recoverOne_16 : decode (jyc Y_R_recoverOne) 16 = .ok (.iload_n 1, 1) := by decide +kernel
theorem d_R_recoverOne_17 : decode (jyc Y_R_recoverOne) 17 = .ok (.iload_n 3, 1) := by decide +kernel
theorem d_R_recoverOne_18 : decode (jyc Y_R_recoverOne) 18 = .ok (.iload 4, 2) := by decide +kernel
theorem d_R_recoverOne_20 : decode (jyc Y_R_recoverOne) 20 = .ok (.invokevirtual 58, 3) := by decide +kernel
theorem d_R_recoverOne_23 : decode (jyc Y_R_recoverOne) 23 = .ok (.iconst 4, 1) := by decide +kernel
theorem d_R_recoverOne_24 : decode (jyc Y_R_recoverOne) 24 = .ok (.iload_n 3, 1) := by decide +kernel
theorem d_R_recoverOne_25 : decode (jyc Y_R_recoverOne) 25 = .ok (.iadd, 1) := by decide +kernel
theorem d_R_recoverOne_26 : decode (jyc Y_R_recoverOne) 26 = .ok (.iload_n 2, 1) := by decide +kernel
theorem d_R_recoverOne_27 : decode (jyc Y_R_recoverOne) 27 = .ok (.isub, 1) := by decide +kernel
theorem d_R_recoverOne_28 : decode (jyc Y_R_recoverOne) 28 = .ok (.invokestatic 38, 3) := by decide +kernel
theorem d_R_recoverOne_31 : decode (jyc Y_R_recoverOne) 31 = .ok (.invokevirtual 21, 3) := by decide +kernel
theorem d_R_recoverOne_34 : decode (jyc Y_R_recoverOne) 34 = .ok (.iinc 4 1, 3) := by decide +kernel
theorem d_R_recoverOne_37 : decode (jyc Y_R_recoverOne) 37 = .ok (.goto (-34), 3) := by decide +kernel
theorem d_R_recoverOne_40 : decode (jyc Y_R_recoverOne) 40 = .ok (.return_, 1) := by decide +kernel
theorem d_R_recoverTwo_0 : decode (jyc Y_R_recoverTwo) 0 = .ok (.iconst 4, 1) := by decide +kernel
theorem d_R_recoverTwo_1 : decode (jyc Y_R_recoverTwo) 1 = .ok (.iload_n 2, 1) := by decide +kernel
theorem d_R_recoverTwo_2 : decode (jyc Y_R_recoverTwo) 2 = .ok (.isub, 1) := by decide +kernel
theorem d_R_recoverTwo_3 : decode (jyc Y_R_recoverTwo) 3 = .ok (.istore 4, 2) := by decide +kernel
theorem d_R_recoverTwo_5 : decode (jyc Y_R_recoverTwo) 5 = .ok (.iconst 4, 1) := by decide +kernel
theorem d_R_recoverTwo_6 : decode (jyc Y_R_recoverTwo) 6 = .ok (.iload_n 3, 1) := by decide +kernel
theorem d_R_recoverTwo_7 : decode (jyc Y_R_recoverTwo) 7 = .ok (.isub, 1) := by decide +kernel
theorem d_R_recoverTwo_8 : decode (jyc Y_R_recoverTwo) 8 = .ok (.istore 5, 2) := by decide +kernel
theorem d_R_recoverTwo_10 : decode (jyc Y_R_recoverTwo) 10 = .ok (.iconst 0, 1) := by decide +kernel
theorem d_R_recoverTwo_11 : decode (jyc Y_R_recoverTwo) 11 = .ok (.istore 6, 2) := by decide +kernel
theorem d_R_recoverTwo_13 : decode (jyc Y_R_recoverTwo) 13 = .ok (.iload 6, 2) := by decide +kernel
theorem d_R_recoverTwo_15 : decode (jyc Y_R_recoverTwo) 15 = .ok (.iconst 4, 1) := by decide +kernel
theorem d_R_recoverTwo_16 : decode (jyc Y_R_recoverTwo) 16 = .ok (.if_icmp .ge 107, 3) := by decide +kernel
theorem d_R_recoverTwo_19 : decode (jyc Y_R_recoverTwo) 19 = .ok (.aload_n 0, 1) := by decide +kernel
theorem d_R_recoverTwo_20 : decode (jyc Y_R_recoverTwo) 20 = .ok (.iload_n 1, 1) := by decide +kernel
theorem d_R_recoverTwo_21 : decode (jyc Y_R_recoverTwo) 21 = .ok (.iconst 0, 1) := by decide +kernel
theorem d_R_recoverTwo_22 : decode (jyc Y_R_recoverTwo) 22 = .ok (.iload 6, 2) := by decide +kernel
theorem d_R_recoverTwo_24 : decode (jyc Y_R_recoverTwo) 24 = .ok (.invokevirtual 58, 3) := by decide +kernel
theorem d_R_recoverTwo_27 : decode (jyc Y_R_recoverTwo) 27 = .ok (.iload 4, 2) := by decide +kernel
theorem d_R_recoverTwo_29 : decode (jyc Y_R_recoverTwo) 29 = .ok (.iload 5, 2) := by decide +kernel
theorem d_R_recoverTwo_31 : decode (jyc Y_R_recoverTwo) 31 = .ok (.imul, 1) := by decide +kernel
theorem d_R_recoverTwo_32 : decode (jyc Y_R_recoverTwo) 32 = .ok (.invokestatic 38, 3) := by decide +kernel
theorem d_R_recoverTwo_35 : decode (jyc Y_R_recoverTwo) 35 = .ok (.istore 7, 2) := by decide +kernel
theorem d_R_recoverTwo_37 : decode (jyc Y_R_recoverTwo) 37 = .ok (.aload_n 0, 1) := by decide +kernel
theorem d_R_recoverTwo_38 : decode (jyc Y_R_recoverTwo) 38 = .ok (.iload_n 1, 1) := by decide +kernel
theorem d_R_recoverTwo_39 : decode (jyc Y_R_recoverTwo) 39 = .ok (.iconst 1, 1) := by decide +kernel
theorem d_R_recoverTwo_40 : decode (jyc Y_R_recoverTwo) 40 = .ok (.iload 6, 2) := by decide +kernel
theorem d_R_recoverTwo_42 : decode (jyc Y_R_recoverTwo) 42 = .ok (.invokevirtual 58, 3) := by decide +kernel
theorem d_R_recoverTwo_45 : decode (jyc Y_R_recoverTwo) 45 = .ok (.iload 4, 2) := by decide +kernel
theorem d_R_recoverTwo_47 : decode (jyc Y_R_recoverTwo) 47 = .ok (.iconst 1, 1) := by decide +kernel
theorem d_R_recoverTwo_48 : decode (jyc Y_R_recoverTwo) 48 = .ok (.iadd, 1) := by decide +kernel
theorem d_R_recoverTwo_49 : decode (jyc Y_R_recoverTwo) 49 = .ok (.iload 5, 2) := by decide +kernel
theorem d_R_recoverTwo_51 : decode (jyc Y_R_recoverTwo) 51 = .ok (.iconst 1, 1) := by decide +kernel
theorem d_R_recoverTwo_52 : decode (jyc Y_R_recoverTwo) 52 = .ok (.iadd, 1) := by decide +kernel
theorem d_R_recoverTwo_53 : decode (jyc Y_R_recoverTwo) 53 = .ok (.imul, 1) := by decide +kernel
theorem d_R_recoverTwo_54 : decode (jyc Y_R_recoverTwo) 54 = .ok (.invokestatic 38, 3) := by decide +kernel
theorem d_R_recoverTwo_57 : decode (jyc Y_R_recoverTwo) 57 = .ok (.iload 7, 2) := by decide +kernel
theorem d_R_recoverTwo_59 : decode (jyc Y_R_recoverTwo) 59 = .ok (.invokestatic 61, 3) := by decide +kernel
theorem d_R_recoverTwo_62 : decode (jyc Y_R_recoverTwo) 62 = .ok (.istore 8, 2) := by decide +kernel
theorem d_R_recoverTwo_64 : decode (jyc Y_R_recoverTwo) 64 = .ok (.iload 7, 2) := by decide +kernel
theorem d_R_recoverTwo_66 : decode (jyc Y_R_recoverTwo) 66 = .ok (.iload 8, 2) := by decide +kernel
theorem d_R_recoverTwo_68 : decode (jyc Y_R_recoverTwo) 68 = .ok (.iload 5, 2) := by decide +kernel
theorem d_R_recoverTwo_70 : decode (jyc Y_R_recoverTwo) 70 = .ok (.invokestatic 38, 3) := by decide +kernel
theorem d_R_recoverTwo_73 : decode (jyc Y_R_recoverTwo) 73 = .ok (.invokestatic 61, 3) := by decide +kernel
theorem d_R_recoverTwo_76 : decode (jyc Y_R_recoverTwo) 76 = .ok (.getstatic 33, 3) := by decide +kernel
theorem d_R_recoverTwo_79 : decode (jyc Y_R_recoverTwo) 79 = .ok (.iload 4, 2) := by decide +kernel
theorem d_R_recoverTwo_81 : decode (jyc Y_R_recoverTwo) 81 = .ok (.iload 5, 2) := by decide +kernel
theorem d_R_recoverTwo_83 : decode (jyc Y_R_recoverTwo) 83 = .ok (.isub, 1) := by decide +kernel
theorem d_R_recoverTwo_84 : decode (jyc Y_R_recoverTwo) 84 = .ok (.iaload, 1) := by decide +kernel
theorem d_R_recoverTwo_85 : decode (jyc Y_R_recoverTwo) 85 = .ok (.invokestatic 38, 3) := by decide +kernel
theorem d_R_recoverTwo_88 : decode (jyc Y_R_recoverTwo) 88 = .ok (.istore 9, 2) := by decide +kernel
theorem d_R_recoverTwo_90 : decode (jyc Y_R_recoverTwo) 90 = .ok (.aload_n 0, 1) := by decide +kernel
theorem d_R_recoverTwo_91 : decode (jyc Y_R_recoverTwo) 91 = .ok (.iload_n 1, 1) := by decide +kernel
theorem d_R_recoverTwo_92 : decode (jyc Y_R_recoverTwo) 92 = .ok (.iload_n 2, 1) := by decide +kernel
theorem d_R_recoverTwo_93 : decode (jyc Y_R_recoverTwo) 93 = .ok (.iadd, 1) := by decide +kernel
theorem d_R_recoverTwo_94 : decode (jyc Y_R_recoverTwo) 94 = .ok (.iload 6, 2) := by decide +kernel
theorem d_R_recoverTwo_96 : decode (jyc Y_R_recoverTwo) 96 = .ok (.iload 8, 2) := by decide +kernel
theorem d_R_recoverTwo_98 : decode (jyc Y_R_recoverTwo) 98 = .ok (.iload 9, 2) := by decide +kernel
theorem d_R_recoverTwo_100 : decode (jyc Y_R_recoverTwo) 100 = .ok (.invokestatic 61, 3) := by decide +kernel
theorem d_R_recoverTwo_103 : decode (jyc Y_R_recoverTwo) 103 = .ok (.invokevirtual 21, 3) := by decide +kernel
theorem d_R_recoverTwo_106 : decode (jyc Y_R_recoverTwo) 106 = .ok (.aload_n 0, 1) := by decide +kernel
theorem d_R_recoverTwo_107 : decode (jyc Y_R_recoverTwo) 107 = .ok (.iload_n 1, 1) := by decide +kernel
theorem d_R_recoverTwo_108 : decode (jyc Y_R_recoverTwo) 108 = .ok (.iload_n 3, 1) := by decide +kernel
theorem d_R_recoverTwo_109 : decode (jyc Y_R_recoverTwo) 109 = .ok (.iadd, 1) := by decide +kernel
theorem d_R_recoverTwo_110 : decode (jyc Y_R_recoverTwo) 110 = .ok (.iload 6, 2) := by decide +kernel
theorem d_R_recoverTwo_112 : decode (jyc Y_R_recoverTwo) 112 = .ok (.iload 9, 2) := by decide +kernel
theorem d_R_recoverTwo_114 : decode (jyc Y_R_recoverTwo) 114 = .ok (.invokevirtual 21, 3) := by decide +kernel
theorem d_R_recoverTwo_117 : decode (jyc Y_R_recoverTwo) 117 = .ok (.iinc 6 1, 3) := by decide +kernel
theorem d_R_recoverTwo_120 : decode (jyc Y_R_recoverTwo) 120 = .ok (.goto (-107), 3) := by decide +kernel
theorem d_R_recoverTwo_123 : decode (jyc Y_R_recoverTwo) 123 = .ok (.return_, 1) := by decide +kernel
theorem d_R_rest_0 : decode (jyc Y_R_rest) 0 = .ok (.aload_n 0, 1) := by decide +kernel
theorem d_R_rest_1 : decode (jyc Y_R_rest) 1 = .ok (.iload_n 1, 1) := by decide +kernel
theorem d_R_rest_2 : decode (jyc Y_R_rest) 2 = .ok (.iconst 4, 1) := by decide +kernel
theorem d_R_rest_3 : decode (jyc Y_R_rest) 3 = .ok (.iadd, 1) := by decide +kernel
theorem d_R_rest_4 : decode (jyc Y_R_rest) 4 = .ok (.iload_n 2, 1) := by decide +kernel
theorem d_R_rest_5 : decode (jyc Y_R_rest) 5 = .ok (.iadd, 1) := by decide +kernel
theorem d_R_rest_6 : decode (jyc Y_R_rest) 6 = .ok (.iload_n 3, 1) := by decide +kernel
theorem d_R_rest_7 : decode (jyc Y_R_rest) 7 = .ok (.invokevirtual 25, 3) := by decide +kernel
theorem d_R_rest_10 : decode (jyc Y_R_rest) 10 = .ok (.aload_n 0, 1) := by decide +kernel
theorem d_R_rest_11 : decode (jyc Y_R_rest) 11 = .ok (.iload_n 1, 1) := by decide +kernel
theorem d_R_rest_12 : decode (jyc Y_R_rest) 12 = .ok (.iload_n 2, 1) := by decide +kernel
theorem d_R_rest_13 : decode (jyc Y_R_rest) 13 = .ok (.iload_n 3, 1) := by decide +kernel
theorem d_R_rest_14 : decode (jyc Y_R_rest) 14 = .ok (.invokevirtual 29, 3) := by decide +kernel
theorem d_R_rest_17 : decode (jyc Y_R_rest) 17 = .ok (.invokestatic 61, 3) := by decide +kernel
theorem d_R_rest_20 : decode (jyc Y_R_rest) 20 = .ok (.ireturn, 1) := by decide +kernel
theorem d_W_key_0 : decode (jyc Y_W_key) 0 = .ok (.aload_n 0, 1) := by decide +kernel
theorem d_W_key_1 : decode (jyc Y_W_key) 1 = .ok (.lload_n 1, 1) := by decide +kernel
theorem d_W_key_2 : decode (jyc Y_W_key) 2 = .ok (.lload_n 3, 1) := by decide +kernel
theorem d_W_key_3 : decode (jyc Y_W_key) 3 = .ok (.invokevirtual 7, 3) := by decide +kernel
theorem d_W_key_6 : decode (jyc Y_W_key) 6 = .ok (.goto 7, 3) := by decide +kernel
theorem d_W_key_9 : decode (jyc Y_W_key) 9 = .ok (.astore 5, 2) := by decide +kernel
theorem d_W_key_11 : decode (jyc Y_W_key) 11 = .ok (.iconst 1, 1) := by decide +kernel
theorem d_W_key_12 : decode (jyc Y_W_key) 12 = .ok (.ireturn, 1) := by decide +kernel
theorem d_W_key_13 : decode (jyc Y_W_key) 13 = .ok (.iconst 0, 1) := by decide +kernel
theorem d_W_key_14 : decode (jyc Y_W_key) 14 = .ok (.ireturn, 1) := by decide +kernel
theorem d_W_file_0 : decode (jyc Y_W_file) 0 = .ok (.aload_n 2, 1) := by decide +kernel
theorem d_W_file_1 : decode (jyc Y_W_file) 1 = .ok (.iconst 0, 1) := by decide +kernel
theorem d_W_file_2 : decode (jyc Y_W_file) 2 = .ok (.aload_n 0, 1) := by decide +kernel
theorem d_W_file_3 : decode (jyc Y_W_file) 3 = .ok (.iload_n 1, 1) := by decide +kernel
theorem d_W_file_4 : decode (jyc Y_W_file) 4 = .ok (.invokevirtual 15, 3) := by decide +kernel
theorem d_W_file_7 : decode (jyc Y_W_file) 7 = .ok (.i2l, 1) := by decide +kernel
theorem d_W_file_8 : decode (jyc Y_W_file) 8 = .ok (.lastore, 1) := by decide +kernel
theorem d_W_file_9 : decode (jyc Y_W_file) 9 = .ok (.goto 9, 3) := by decide +kernel
theorem d_W_file_12 : decode (jyc Y_W_file) 12 = .ok (.astore_n 3, 1) := by decide +kernel
theorem d_W_file_13 : decode (jyc Y_W_file) 13 = .ok (.iconst 1, 1) := by decide +kernel
theorem d_W_file_14 : decode (jyc Y_W_file) 14 = .ok (.ireturn, 1) := by decide +kernel
theorem d_W_file_15 : decode (jyc Y_W_file) 15 = .ok (.astore_n 3, 1) := by decide +kernel
theorem d_W_file_16 : decode (jyc Y_W_file) 16 = .ok (.iconst 2, 1) := by decide +kernel
theorem d_W_file_17 : decode (jyc Y_W_file) 17 = .ok (.ireturn, 1) := by decide +kernel
theorem d_W_file_18 : decode (jyc Y_W_file) 18 = .ok (.iconst 0, 1) := by decide +kernel
theorem d_W_file_19 : decode (jyc Y_W_file) 19 = .ok (.ireturn, 1) := by decide +kernel
theorem d_W_place_0 : decode (jyc Y_W_place) 0 = .ok (.aload_n 3, 1) := by decide +kernel
theorem d_W_place_1 : decode (jyc Y_W_place) 1 = .ok (.iconst 0, 1) := by decide +kernel
theorem d_W_place_2 : decode (jyc Y_W_place) 2 = .ok (.aload_n 0, 1) := by decide +kernel
theorem d_W_place_3 : decode (jyc Y_W_place) 3 = .ok (.iload_n 1, 1) := by decide +kernel
theorem d_W_place_4 : decode (jyc Y_W_place) 4 = .ok (.iload_n 2, 1) := by decide +kernel
theorem d_W_place_5 : decode (jyc Y_W_place) 5 = .ok (.invokevirtual 21, 3) := by decide +kernel
theorem d_W_place_8 : decode (jyc Y_W_place) 8 = .ok (.ifCond .eq 7, 3) := by decide +kernel
theorem d_W_place_11 : decode (jyc Y_W_place) 11 = .ok (.lconst 1, 1) := by decide +kernel
theorem d_W_place_12 : decode (jyc Y_W_place) 12 = .ok (.goto 4, 3) := by decide +kernel
theorem d_W_place_15 : decode (jyc Y_W_place) 15 = .ok (.lconst 0, 1) := by decide +kernel
theorem d_W_place_16 : decode (jyc Y_W_place) 16 = .ok (.lastore, 1) := by decide +kernel
theorem d_W_place_17 : decode (jyc Y_W_place) 17 = .ok (.goto 7, 3) := by decide +kernel
theorem d_W_place_20 : decode (jyc Y_W_place) 20 = .ok (.astore 4, 2) := by decide +kernel
theorem d_W_place_22 : decode (jyc Y_W_place) 22 = .ok (.iconst 1, 1) := by decide +kernel
theorem d_W_place_23 : decode (jyc Y_W_place) 23 = .ok (.ireturn, 1) := by decide +kernel
theorem d_W_place_24 : decode (jyc Y_W_place) 24 = .ok (.iconst 0, 1) := by decide +kernel
theorem d_W_place_25 : decode (jyc Y_W_place) 25 = .ok (.ireturn, 1) := by decide +kernel
theorem d_W_lose_0 : decode (jyc Y_W_lose) 0 = .ok (.aload 4, 2) := by decide +kernel
theorem d_W_lose_2 : decode (jyc Y_W_lose) 2 = .ok (.iconst 0, 1) := by decide +kernel
theorem d_W_lose_3 : decode (jyc Y_W_lose) 3 = .ok (.aload_n 0, 1) := by decide +kernel
theorem d_W_lose_4 : decode (jyc Y_W_lose) 4 = .ok (.iload_n 1, 1) := by decide +kernel
theorem d_W_lose_5 : decode (jyc Y_W_lose) 5 = .ok (.iload_n 2, 1) := by decide +kernel
theorem d_W_lose_6 : decode (jyc Y_W_lose) 6 = .ok (.iload_n 3, 1) := by decide +kernel
theorem d_W_lose_7 : decode (jyc Y_W_lose) 7 = .ok (.invokevirtual 27, 3) := by decide +kernel
theorem d_W_lose_10 : decode (jyc Y_W_lose) 10 = .ok (.ifCond .eq 7, 3) := by decide +kernel
theorem d_W_lose_13 : decode (jyc Y_W_lose) 13 = .ok (.lconst 1, 1) := by decide +kernel
theorem d_W_lose_14 : decode (jyc Y_W_lose) 14 = .ok (.goto 4, 3) := by decide +kernel
theorem d_W_lose_17 : decode (jyc Y_W_lose) 17 = .ok (.lconst 0, 1) := by decide +kernel
theorem d_W_lose_18 : decode (jyc Y_W_lose) 18 = .ok (.lastore, 1) := by decide +kernel
theorem d_W_lose_19 : decode (jyc Y_W_lose) 19 = .ok (.goto 7, 3) := by decide +kernel
theorem d_W_lose_22 : decode (jyc Y_W_lose) 22 = .ok (.astore 5, 2) := by decide +kernel
theorem d_W_lose_24 : decode (jyc Y_W_lose) 24 = .ok (.iconst 1, 1) := by decide +kernel
theorem d_W_lose_25 : decode (jyc Y_W_lose) 25 = .ok (.ireturn, 1) := by decide +kernel
theorem d_W_lose_26 : decode (jyc Y_W_lose) 26 = .ok (.iconst 0, 1) := by decide +kernel
theorem d_W_lose_27 : decode (jyc Y_W_lose) 27 = .ok (.ireturn, 1) := by decide +kernel
theorem d_W_change_0 : decode (jyc Y_W_change) 0 = .ok (.aload 6, 2) := by decide +kernel
theorem d_W_change_2 : decode (jyc Y_W_change) 2 = .ok (.iconst 0, 1) := by decide +kernel
theorem d_W_change_3 : decode (jyc Y_W_change) 3 = .ok (.aload_n 0, 1) := by decide +kernel
theorem d_W_change_4 : decode (jyc Y_W_change) 4 = .ok (.iload_n 1, 1) := by decide +kernel
theorem d_W_change_5 : decode (jyc Y_W_change) 5 = .ok (.iload_n 2, 1) := by decide +kernel
theorem d_W_change_6 : decode (jyc Y_W_change) 6 = .ok (.iload_n 3, 1) := by decide +kernel
theorem d_W_change_7 : decode (jyc Y_W_change) 7 = .ok (.iload 4, 2) := by decide +kernel
theorem d_W_change_9 : decode (jyc Y_W_change) 9 = .ok (.iload 5, 2) := by decide +kernel
theorem d_W_change_11 : decode (jyc Y_W_change) 11 = .ok (.invokevirtual 31, 3) := by decide +kernel
theorem d_W_change_14 : decode (jyc Y_W_change) 14 = .ok (.i2l, 1) := by decide +kernel
theorem d_W_change_15 : decode (jyc Y_W_change) 15 = .ok (.lastore, 1) := by decide +kernel
theorem d_W_change_16 : decode (jyc Y_W_change) 16 = .ok (.goto 11, 3) := by decide +kernel
theorem d_W_change_19 : decode (jyc Y_W_change) 19 = .ok (.astore 7, 2) := by decide +kernel
theorem d_W_change_21 : decode (jyc Y_W_change) 21 = .ok (.iconst 1, 1) := by decide +kernel
theorem d_W_change_22 : decode (jyc Y_W_change) 22 = .ok (.ireturn, 1) := by decide +kernel
theorem d_W_change_23 : decode (jyc Y_W_change) 23 = .ok (.astore 7, 2) := by decide +kernel
theorem d_W_change_25 : decode (jyc Y_W_change) 25 = .ok (.iconst 2, 1) := by decide +kernel
theorem d_W_change_26 : decode (jyc Y_W_change) 26 = .ok (.ireturn, 1) := by decide +kernel
theorem d_W_change_27 : decode (jyc Y_W_change) 27 = .ok (.iconst 0, 1) := by decide +kernel
theorem d_W_change_28 : decode (jyc Y_W_change) 28 = .ok (.ireturn, 1) := by decide +kernel
theorem d_W_challenge_0 : decode (jyc Y_W_challenge) 0 = .ok (.aload 5, 2) := by decide +kernel
theorem d_W_challenge_2 : decode (jyc Y_W_challenge) 2 = .ok (.iconst 0, 1) := by decide +kernel
theorem d_W_challenge_3 : decode (jyc Y_W_challenge) 3 = .ok (.aload_n 0, 1) := by decide +kernel
theorem d_W_challenge_4 : decode (jyc Y_W_challenge) 4 = .ok (.iload_n 1, 1) := by decide +kernel
theorem d_W_challenge_5 : decode (jyc Y_W_challenge) 5 = .ok (.iload_n 2, 1) := by decide +kernel
theorem d_W_challenge_6 : decode (jyc Y_W_challenge) 6 = .ok (.iload_n 3, 1) := by decide +kernel
theorem d_W_challenge_7 : decode (jyc Y_W_challenge) 7 = .ok (.iload 4, 2) := by decide +kernel
theorem d_W_challenge_9 : decode (jyc Y_W_challenge) 9 = .ok (.invokevirtual 35, 3) := by decide +kernel
theorem d_W_challenge_12 : decode (jyc Y_W_challenge) 12 = .ok (.i2l, 1) := by decide +kernel
theorem d_W_challenge_13 : decode (jyc Y_W_challenge) 13 = .ok (.lastore, 1) := by decide +kernel
theorem d_W_challenge_14 : decode (jyc Y_W_challenge) 14 = .ok (.goto 7, 3) := by decide +kernel
theorem d_W_challenge_17 : decode (jyc Y_W_challenge) 17 = .ok (.astore 6, 2) := by decide +kernel
theorem d_W_challenge_19 : decode (jyc Y_W_challenge) 19 = .ok (.iconst 1, 1) := by decide +kernel
theorem d_W_challenge_20 : decode (jyc Y_W_challenge) 20 = .ok (.ireturn, 1) := by decide +kernel
theorem d_W_challenge_21 : decode (jyc Y_W_challenge) 21 = .ok (.iconst 0, 1) := by decide +kernel
theorem d_W_challenge_22 : decode (jyc Y_W_challenge) 22 = .ok (.ireturn, 1) := by decide +kernel
theorem d_W_judge_0 : decode (jyc Y_W_judge) 0 = .ok (.aload_n 1, 1) := by decide +kernel
theorem d_W_judge_1 : decode (jyc Y_W_judge) 1 = .ok (.iconst 0, 1) := by decide +kernel
theorem d_W_judge_2 : decode (jyc Y_W_judge) 2 = .ok (.aload_n 0, 1) := by decide +kernel
theorem d_W_judge_3 : decode (jyc Y_W_judge) 3 = .ok (.invokevirtual 39, 3) := by decide +kernel
theorem d_W_judge_6 : decode (jyc Y_W_judge) 6 = .ok (.ifCond .eq 7, 3) := by decide +kernel
theorem d_W_judge_9 : decode (jyc Y_W_judge) 9 = .ok (.lconst 1, 1) := by decide +kernel
theorem d_W_judge_10 : decode (jyc Y_W_judge) 10 = .ok (.goto 4, 3) := by decide +kernel
theorem d_W_judge_13 : decode (jyc Y_W_judge) 13 = .ok (.lconst 0, 1) := by decide +kernel
theorem d_W_judge_14 : decode (jyc Y_W_judge) 14 = .ok (.lastore, 1) := by decide +kernel
theorem d_W_judge_15 : decode (jyc Y_W_judge) 15 = .ok (.goto 6, 3) := by decide +kernel
theorem d_W_judge_18 : decode (jyc Y_W_judge) 18 = .ok (.astore_n 2, 1) := by decide +kernel
theorem d_W_judge_19 : decode (jyc Y_W_judge) 19 = .ok (.iconst 1, 1) := by decide +kernel
theorem d_W_judge_20 : decode (jyc Y_W_judge) 20 = .ok (.ireturn, 1) := by decide +kernel
theorem d_W_judge_21 : decode (jyc Y_W_judge) 21 = .ok (.iconst 0, 1) := by decide +kernel
theorem d_W_judge_22 : decode (jyc Y_W_judge) 22 = .ok (.ireturn, 1) := by decide +kernel
theorem d_W_locate_0 : decode (jyc Y_W_locate) 0 = .ok (.aload_n 3, 1) := by decide +kernel
theorem d_W_locate_1 : decode (jyc Y_W_locate) 1 = .ok (.iconst 0, 1) := by decide +kernel
theorem d_W_locate_2 : decode (jyc Y_W_locate) 2 = .ok (.aload_n 0, 1) := by decide +kernel
theorem d_W_locate_3 : decode (jyc Y_W_locate) 3 = .ok (.iload_n 1, 1) := by decide +kernel
theorem d_W_locate_4 : decode (jyc Y_W_locate) 4 = .ok (.iload_n 2, 1) := by decide +kernel
theorem d_W_locate_5 : decode (jyc Y_W_locate) 5 = .ok (.invokevirtual 43, 3) := by decide +kernel
theorem d_W_locate_8 : decode (jyc Y_W_locate) 8 = .ok (.i2l, 1) := by decide +kernel
theorem d_W_locate_9 : decode (jyc Y_W_locate) 9 = .ok (.lastore, 1) := by decide +kernel
theorem d_W_locate_10 : decode (jyc Y_W_locate) 10 = .ok (.goto 7, 3) := by decide +kernel
theorem d_W_locate_13 : decode (jyc Y_W_locate) 13 = .ok (.astore 4, 2) := by decide +kernel
theorem d_W_locate_15 : decode (jyc Y_W_locate) 15 = .ok (.iconst 1, 1) := by decide +kernel
theorem d_W_locate_16 : decode (jyc Y_W_locate) 16 = .ok (.ireturn, 1) := by decide +kernel
theorem d_W_locate_17 : decode (jyc Y_W_locate) 17 = .ok (.iconst 0, 1) := by decide +kernel
theorem d_W_locate_18 : decode (jyc Y_W_locate) 18 = .ok (.ireturn, 1) := by decide +kernel
theorem d_W_repair_0 : decode (jyc Y_W_repair) 0 = .ok (.aload_n 3, 1) := by decide +kernel
theorem d_W_repair_1 : decode (jyc Y_W_repair) 1 = .ok (.iconst 0, 1) := by decide +kernel
theorem d_W_repair_2 : decode (jyc Y_W_repair) 2 = .ok (.aload_n 0, 1) := by decide +kernel
theorem d_W_repair_3 : decode (jyc Y_W_repair) 3 = .ok (.iload_n 1, 1) := by decide +kernel
theorem d_W_repair_4 : decode (jyc Y_W_repair) 4 = .ok (.iload_n 2, 1) := by decide +kernel
theorem d_W_repair_5 : decode (jyc Y_W_repair) 5 = .ok (.invokevirtual 47, 3) := by decide +kernel
theorem d_W_repair_8 : decode (jyc Y_W_repair) 8 = .ok (.i2l, 1) := by decide +kernel
theorem d_W_repair_9 : decode (jyc Y_W_repair) 9 = .ok (.lastore, 1) := by decide +kernel
theorem d_W_repair_10 : decode (jyc Y_W_repair) 10 = .ok (.goto 11, 3) := by decide +kernel
theorem d_W_repair_13 : decode (jyc Y_W_repair) 13 = .ok (.astore 4, 2) := by decide +kernel
theorem d_W_repair_15 : decode (jyc Y_W_repair) 15 = .ok (.iconst 1, 1) := by decide +kernel
theorem d_W_repair_16 : decode (jyc Y_W_repair) 16 = .ok (.ireturn, 1) := by decide +kernel
theorem d_W_repair_17 : decode (jyc Y_W_repair) 17 = .ok (.astore 4, 2) := by decide +kernel
theorem d_W_repair_19 : decode (jyc Y_W_repair) 19 = .ok (.iconst 2, 1) := by decide +kernel
theorem d_W_repair_20 : decode (jyc Y_W_repair) 20 = .ok (.ireturn, 1) := by decide +kernel
theorem d_W_repair_21 : decode (jyc Y_W_repair) 21 = .ok (.iconst 0, 1) := by decide +kernel
theorem d_W_repair_22 : decode (jyc Y_W_repair) 22 = .ok (.ireturn, 1) := by decide +kernel
theorem d_W_fetch_0 : decode (jyc Y_W_fetch) 0 = .ok (.aload_n 2, 1) := by decide +kernel
theorem d_W_fetch_1 : decode (jyc Y_W_fetch) 1 = .ok (.iconst 0, 1) := by decide +kernel
theorem d_W_fetch_2 : decode (jyc Y_W_fetch) 2 = .ok (.aload_n 0, 1) := by decide +kernel
theorem d_W_fetch_3 : decode (jyc Y_W_fetch) 3 = .ok (.iload_n 1, 1) := by decide +kernel
theorem d_W_fetch_4 : decode (jyc Y_W_fetch) 4 = .ok (.invokevirtual 50, 3) := by decide +kernel
theorem d_W_fetch_7 : decode (jyc Y_W_fetch) 7 = .ok (.i2l, 1) := by decide +kernel
theorem d_W_fetch_8 : decode (jyc Y_W_fetch) 8 = .ok (.lastore, 1) := by decide +kernel
theorem d_W_fetch_9 : decode (jyc Y_W_fetch) 9 = .ok (.goto 9, 3) := by decide +kernel
theorem d_W_fetch_12 : decode (jyc Y_W_fetch) 12 = .ok (.astore_n 3, 1) := by decide +kernel
theorem d_W_fetch_13 : decode (jyc Y_W_fetch) 13 = .ok (.iconst 1, 1) := by decide +kernel
theorem d_W_fetch_14 : decode (jyc Y_W_fetch) 14 = .ok (.ireturn, 1) := by decide +kernel
theorem d_W_fetch_15 : decode (jyc Y_W_fetch) 15 = .ok (.astore_n 3, 1) := by decide +kernel
theorem d_W_fetch_16 : decode (jyc Y_W_fetch) 16 = .ok (.iconst 2, 1) := by decide +kernel
theorem d_W_fetch_17 : decode (jyc Y_W_fetch) 17 = .ok (.ireturn, 1) := by decide +kernel
theorem d_W_fetch_18 : decode (jyc Y_W_fetch) 18 = .ok (.iconst 0, 1) := by decide +kernel
theorem d_W_fetch_19 : decode (jyc Y_W_fetch) 19 = .ok (.ireturn, 1) := by decide +kernel
theorem d_W_made_0 : decode (jyc Y_W_made) 0 = .ok (.aload 4, 2) := by decide +kernel
theorem d_W_made_2 : decode (jyc Y_W_made) 2 = .ok (.iconst 0, 1) := by decide +kernel
theorem d_W_made_3 : decode (jyc Y_W_made) 3 = .ok (.aload_n 0, 1) := by decide +kernel
theorem d_W_made_4 : decode (jyc Y_W_made) 4 = .ok (.iload_n 1, 1) := by decide +kernel
theorem d_W_made_5 : decode (jyc Y_W_made) 5 = .ok (.iload_n 2, 1) := by decide +kernel
theorem d_W_made_6 : decode (jyc Y_W_made) 6 = .ok (.iload_n 3, 1) := by decide +kernel
theorem d_W_made_7 : decode (jyc Y_W_made) 7 = .ok (.invokevirtual 53, 3) := by decide +kernel
theorem d_W_made_10 : decode (jyc Y_W_made) 10 = .ok (.i2l, 1) := by decide +kernel
theorem d_W_made_11 : decode (jyc Y_W_made) 11 = .ok (.lastore, 1) := by decide +kernel
theorem d_W_made_12 : decode (jyc Y_W_made) 12 = .ok (.goto 7, 3) := by decide +kernel
theorem d_W_made_15 : decode (jyc Y_W_made) 15 = .ok (.astore 5, 2) := by decide +kernel
theorem d_W_made_17 : decode (jyc Y_W_made) 17 = .ok (.iconst 1, 1) := by decide +kernel
theorem d_W_made_18 : decode (jyc Y_W_made) 18 = .ok (.ireturn, 1) := by decide +kernel
theorem d_W_made_19 : decode (jyc Y_W_made) 19 = .ok (.iconst 0, 1) := by decide +kernel
theorem d_W_made_20 : decode (jyc Y_W_made) 20 = .ok (.ireturn, 1) := by decide +kernel
theorem d_W_kept_0 : decode (jyc Y_W_kept) 0 = .ok (.aload 5, 2) := by decide +kernel
theorem d_W_kept_2 : decode (jyc Y_W_kept) 2 = .ok (.iconst 0, 1) := by decide +kernel
theorem d_W_kept_3 : decode (jyc Y_W_kept) 3 = .ok (.aload_n 0, 1) := by decide +kernel
theorem d_W_kept_4 : decode (jyc Y_W_kept) 4 = .ok (.iload_n 1, 1) := by decide +kernel
theorem d_W_kept_5 : decode (jyc Y_W_kept) 5 = .ok (.iload_n 2, 1) := by decide +kernel
theorem d_W_kept_6 : decode (jyc Y_W_kept) 6 = .ok (.iload_n 3, 1) := by decide +kernel
theorem d_W_kept_7 : decode (jyc Y_W_kept) 7 = .ok (.iload 4, 2) := by decide +kernel
theorem d_W_kept_9 : decode (jyc Y_W_kept) 9 = .ok (.invokevirtual 57, 3) := by decide +kernel
theorem d_W_kept_12 : decode (jyc Y_W_kept) 12 = .ok (.i2l, 1) := by decide +kernel
theorem d_W_kept_13 : decode (jyc Y_W_kept) 13 = .ok (.lastore, 1) := by decide +kernel
theorem d_W_kept_14 : decode (jyc Y_W_kept) 14 = .ok (.goto 7, 3) := by decide +kernel
theorem d_W_kept_17 : decode (jyc Y_W_kept) 17 = .ok (.astore 6, 2) := by decide +kernel
theorem d_W_kept_19 : decode (jyc Y_W_kept) 19 = .ok (.iconst 1, 1) := by decide +kernel
theorem d_W_kept_20 : decode (jyc Y_W_kept) 20 = .ok (.ireturn, 1) := by decide +kernel
theorem d_W_kept_21 : decode (jyc Y_W_kept) 21 = .ok (.iconst 0, 1) := by decide +kernel
theorem d_W_kept_22 : decode (jyc Y_W_kept) 22 = .ok (.ireturn, 1) := by decide +kernel
theorem d_W_law_0 : decode (jyc Y_W_law) 0 = .ok (.new 8, 3) := by decide +kernel
theorem d_W_law_3 : decode (jyc Y_W_law) 3 = .ok (.dup, 1) := by decide +kernel
theorem d_W_law_4 : decode (jyc Y_W_law) 4 = .ok (.invokespecial 60, 3) := by decide +kernel
theorem d_W_law_7 : decode (jyc Y_W_law) 7 = .ok (.astore_n 1, 1) := by decide +kernel
theorem d_W_law_8 : decode (jyc Y_W_law) 8 = .ok (.new 61, 3) := by decide +kernel
theorem d_W_law_11 : decode (jyc Y_W_law) 11 = .ok (.dup, 1) := by decide +kernel
theorem d_W_law_12 : decode (jyc Y_W_law) 12 = .ok (.invokespecial 63, 3) := by decide +kernel
theorem d_W_law_15 : decode (jyc Y_W_law) 15 = .ok (.astore_n 2, 1) := by decide +kernel
theorem d_W_law_16 : decode (jyc Y_W_law) 16 = .ok (.iconst 1, 1) := by decide +kernel
theorem d_W_law_17 : decode (jyc Y_W_law) 17 = .ok (.newarray .long, 2) := by decide +kernel
theorem d_W_law_19 : decode (jyc Y_W_law) 19 = .ok (.astore_n 3, 1) := by decide +kernel
theorem d_W_law_20 : decode (jyc Y_W_law) 20 = .ok (.iconst 0, 1) := by decide +kernel
theorem d_W_law_21 : decode (jyc Y_W_law) 21 = .ok (.istore 4, 2) := by decide +kernel
theorem d_W_law_23 : decode (jyc Y_W_law) 23 = .ok (.iload 4, 2) := by decide +kernel
theorem d_W_law_25 : decode (jyc Y_W_law) 25 = .ok (.aload_n 0, 1) := by decide +kernel
theorem d_W_law_26 : decode (jyc Y_W_law) 26 = .ok (.arraylength, 1) := by decide +kernel
theorem d_W_law_27 : decode (jyc Y_W_law) 27 = .ok (.bipush 6, 2) := by decide +kernel
theorem d_W_law_29 : decode (jyc Y_W_law) 29 = .ok (.isub, 1) := by decide +kernel
theorem d_W_law_30 : decode (jyc Y_W_law) 30 = .ok (.if_icmp .gt 1272, 3) := by decide +kernel
theorem d_W_law_33 : decode (jyc Y_W_law) 33 = .ok (.aload_n 0, 1) := by decide +kernel
theorem d_W_law_34 : decode (jyc Y_W_law) 34 = .ok (.iload 4, 2) := by decide +kernel
theorem d_W_law_36 : decode (jyc Y_W_law) 36 = .ok (.iaload, 1) := by decide +kernel
theorem d_W_law_37 : decode (jyc Y_W_law) 37 = .ok (.bipush 31, 2) := by decide +kernel
theorem d_W_law_39 : decode (jyc Y_W_law) 39 = .ok (.iand, 1) := by decide +kernel
theorem d_W_law_40 : decode (jyc Y_W_law) 40 = .ok (.tableswitch 1256 0 18 #[92, 204, 241, 297, 372, 459, 563, 655, 692, 729, 780, 848, 873, 941, 997, 1022, 1102, 1194, 1219], 92) := by decide +kernel
theorem d_W_law_132 : decode (jyc Y_W_law) 132 = .ok (.aload_n 1, 1) := by decide +kernel
theorem d_W_law_133 : decode (jyc Y_W_law) 133 = .ok (.aload_n 0, 1) := by decide +kernel
theorem d_W_law_134 : decode (jyc Y_W_law) 134 = .ok (.iload 4, 2) := by decide +kernel
theorem d_W_law_136 : decode (jyc Y_W_law) 136 = .ok (.iconst 1, 1) := by decide +kernel
theorem d_W_law_137 : decode (jyc Y_W_law) 137 = .ok (.iadd, 1) := by decide +kernel
theorem d_W_law_138 : decode (jyc Y_W_law) 138 = .ok (.iaload, 1) := by decide +kernel
theorem d_W_law_139 : decode (jyc Y_W_law) 139 = .ok (.i2l, 1) := by decide +kernel
theorem d_W_law_140 : decode (jyc Y_W_law) 140 = .ok (.bipush 32, 2) := by decide +kernel
theorem d_W_law_142 : decode (jyc Y_W_law) 142 = .ok (.lshl, 1) := by decide +kernel
theorem d_W_law_143 : decode (jyc Y_W_law) 143 = .ok (.aload_n 0, 1) := by decide +kernel
theorem d_W_law_144 : decode (jyc Y_W_law) 144 = .ok (.iload 4, 2) := by decide +kernel
theorem d_W_law_146 : decode (jyc Y_W_law) 146 = .ok (.iconst 2, 1) := by decide +kernel
theorem d_W_law_147 : decode (jyc Y_W_law) 147 = .ok (.iadd, 1) := by decide +kernel
theorem d_W_law_148 : decode (jyc Y_W_law) 148 = .ok (.iaload, 1) := by decide +kernel
theorem d_W_law_149 : decode (jyc Y_W_law) 149 = .ok (.i2l, 1) := by decide +kernel
theorem d_W_law_150 : decode (jyc Y_W_law) 150 = .ok (.ldc2_w 64, 3) := by decide +kernel
theorem d_W_law_153 : decode (jyc Y_W_law) 153 = .ok (.land, 1) := by decide +kernel
theorem d_W_law_154 : decode (jyc Y_W_law) 154 = .ok (.lor, 1) := by decide +kernel
theorem d_W_law_155 : decode (jyc Y_W_law) 155 = .ok (.aload_n 0, 1) := by decide +kernel
theorem d_W_law_156 : decode (jyc Y_W_law) 156 = .ok (.iload 4, 2) := by decide +kernel
theorem d_W_law_158 : decode (jyc Y_W_law) 158 = .ok (.iconst 3, 1) := by decide +kernel
theorem d_W_law_159 : decode (jyc Y_W_law) 159 = .ok (.iadd, 1) := by decide +kernel
theorem d_W_law_160 : decode (jyc Y_W_law) 160 = .ok (.iaload, 1) := by decide +kernel
theorem d_W_law_161 : decode (jyc Y_W_law) 161 = .ok (.i2l, 1) := by decide +kernel
theorem d_W_law_162 : decode (jyc Y_W_law) 162 = .ok (.bipush 32, 2) := by decide +kernel
theorem d_W_law_164 : decode (jyc Y_W_law) 164 = .ok (.lshl, 1) := by decide +kernel
theorem d_W_law_165 : decode (jyc Y_W_law) 165 = .ok (.aload_n 0, 1) := by decide +kernel
theorem d_W_law_166 : decode (jyc Y_W_law) 166 = .ok (.iload 4, 2) := by decide +kernel
theorem d_W_law_168 : decode (jyc Y_W_law) 168 = .ok (.iconst 4, 1) := by decide +kernel
theorem d_W_law_169 : decode (jyc Y_W_law) 169 = .ok (.iadd, 1) := by decide +kernel
theorem d_W_law_170 : decode (jyc Y_W_law) 170 = .ok (.iaload, 1) := by decide +kernel
theorem d_W_law_171 : decode (jyc Y_W_law) 171 = .ok (.i2l, 1) := by decide +kernel
theorem d_W_law_172 : decode (jyc Y_W_law) 172 = .ok (.ldc2_w 64, 3) := by decide +kernel
theorem d_W_law_175 : decode (jyc Y_W_law) 175 = .ok (.land, 1) := by decide +kernel
theorem d_W_law_176 : decode (jyc Y_W_law) 176 = .ok (.lor, 1) := by decide +kernel
theorem d_W_law_177 : decode (jyc Y_W_law) 177 = .ok (.invokestatic 66, 3) := by decide +kernel
theorem d_W_law_180 : decode (jyc Y_W_law) 180 = .ok (.istore 5, 2) := by decide +kernel
theorem d_W_law_182 : decode (jyc Y_W_law) 182 = .ok (.aload_n 2, 1) := by decide +kernel
theorem d_W_law_183 : decode (jyc Y_W_law) 183 = .ok (.aload_n 0, 1) := by decide +kernel
theorem d_W_law_184 : decode (jyc Y_W_law) 184 = .ok (.iload 4, 2) := by decide +kernel
theorem d_W_law_186 : decode (jyc Y_W_law) 186 = .ok (.iconst 1, 1) := by decide +kernel
theorem d_W_law_187 : decode (jyc Y_W_law) 187 = .ok (.iadd, 1) := by decide +kernel
theorem d_W_law_188 : decode (jyc Y_W_law) 188 = .ok (.iaload, 1) := by decide +kernel
theorem d_W_law_189 : decode (jyc Y_W_law) 189 = .ok (.i2l, 1) := by decide +kernel
theorem d_W_law_190 : decode (jyc Y_W_law) 190 = .ok (.bipush 32, 2) := by decide +kernel
theorem d_W_law_192 : decode (jyc Y_W_law) 192 = .ok (.lshl, 1) := by decide +kernel
theorem d_W_law_193 : decode (jyc Y_W_law) 193 = .ok (.aload_n 0, 1) := by decide +kernel
theorem d_W_law_194 : decode (jyc Y_W_law) 194 = .ok (.iload 4, 2) := by decide +kernel
theorem d_W_law_196 : decode (jyc Y_W_law) 196 = .ok (.iconst 2, 1) := by decide +kernel
theorem d_W_law_197 : decode (jyc Y_W_law) 197 = .ok (.iadd, 1) := by decide +kernel
theorem d_W_law_198 : decode (jyc Y_W_law) 198 = .ok (.iaload, 1) := by decide +kernel
theorem d_W_law_199 : decode (jyc Y_W_law) 199 = .ok (.i2l, 1) := by decide +kernel
theorem d_W_law_200 : decode (jyc Y_W_law) 200 = .ok (.ldc2_w 64, 3) := by decide +kernel
theorem d_W_law_203 : decode (jyc Y_W_law) 203 = .ok (.land, 1) := by decide +kernel
theorem d_W_law_204 : decode (jyc Y_W_law) 204 = .ok (.lor, 1) := by decide +kernel
theorem d_W_law_205 : decode (jyc Y_W_law) 205 = .ok (.aload_n 0, 1) := by decide +kernel
theorem d_W_law_206 : decode (jyc Y_W_law) 206 = .ok (.iload 4, 2) := by decide +kernel
theorem d_W_law_208 : decode (jyc Y_W_law) 208 = .ok (.iconst 3, 1) := by decide +kernel
theorem d_W_law_209 : decode (jyc Y_W_law) 209 = .ok (.iadd, 1) := by decide +kernel
theorem d_W_law_210 : decode (jyc Y_W_law) 210 = .ok (.iaload, 1) := by decide +kernel
theorem d_W_law_211 : decode (jyc Y_W_law) 211 = .ok (.i2l, 1) := by decide +kernel
theorem d_W_law_212 : decode (jyc Y_W_law) 212 = .ok (.bipush 32, 2) := by decide +kernel
theorem d_W_law_214 : decode (jyc Y_W_law) 214 = .ok (.lshl, 1) := by decide +kernel
theorem d_W_law_215 : decode (jyc Y_W_law) 215 = .ok (.aload_n 0, 1) := by decide +kernel
theorem d_W_law_216 : decode (jyc Y_W_law) 216 = .ok (.iload 4, 2) := by decide +kernel
theorem d_W_law_218 : decode (jyc Y_W_law) 218 = .ok (.iconst 4, 1) := by decide +kernel
theorem d_W_law_219 : decode (jyc Y_W_law) 219 = .ok (.iadd, 1) := by decide +kernel
theorem d_W_law_220 : decode (jyc Y_W_law) 220 = .ok (.iaload, 1) := by decide +kernel
theorem d_W_law_221 : decode (jyc Y_W_law) 221 = .ok (.i2l, 1) := by decide +kernel
theorem d_W_law_222 : decode (jyc Y_W_law) 222 = .ok (.ldc2_w 64, 3) := by decide +kernel
theorem d_W_law_225 : decode (jyc Y_W_law) 225 = .ok (.land, 1) := by decide +kernel
theorem d_W_law_226 : decode (jyc Y_W_law) 226 = .ok (.lor, 1) := by decide +kernel
theorem d_W_law_227 : decode (jyc Y_W_law) 227 = .ok (.invokevirtual 71, 3) := by decide +kernel
theorem d_W_law_230 : decode (jyc Y_W_law) 230 = .ok (.aload_n 2, 1) := by decide +kernel
theorem d_W_law_231 : decode (jyc Y_W_law) 231 = .ok (.invokevirtual 72, 3) := by decide +kernel
theorem d_W_law_234 : decode (jyc Y_W_law) 234 = .ok (.iload 5, 2) := by decide +kernel
theorem d_W_law_236 : decode (jyc Y_W_law) 236 = .ok (.if_icmp .eq 5, 3) := by decide +kernel
theorem d_W_law_239 : decode (jyc Y_W_law) 239 = .ok (.iconst 0, 1) := by decide +kernel
theorem d_W_law_240 : decode (jyc Y_W_law) 240 = .ok (.ireturn, 1) := by decide +kernel
theorem d_W_law_241 : decode (jyc Y_W_law) 241 = .ok (.goto 1055, 3) := by decide +kernel
theorem d_W_law_244 : decode (jyc Y_W_law) 244 = .ok (.aload_n 1, 1) := by decide +kernel
theorem d_W_law_245 : decode (jyc Y_W_law) 245 = .ok (.aload_n 0, 1) := by decide +kernel
theorem d_W_law_246 : decode (jyc Y_W_law) 246 = .ok (.iload 4, 2) := by decide +kernel
theorem d_W_law_248 : decode (jyc Y_W_law) 248 = .ok (.iconst 1, 1) := by decide +kernel
theorem d_W_law_249 : decode (jyc Y_W_law) 249 = .ok (.iadd, 1) := by decide +kernel
theorem d_W_law_250 : decode (jyc Y_W_law) 250 = .ok (.iaload, 1) := by decide +kernel
theorem d_W_law_251 : decode (jyc Y_W_law) 251 = .ok (.aload_n 0, 1) := by decide +kernel
theorem d_W_law_252 : decode (jyc Y_W_law) 252 = .ok (.iload 4, 2) := by decide +kernel
theorem d_W_law_254 : decode (jyc Y_W_law) 254 = .ok (.iconst 2, 1) := by decide +kernel
theorem d_W_law_255 : decode (jyc Y_W_law) 255 = .ok (.iadd, 1) := by decide +kernel
theorem d_W_law_256 : decode (jyc Y_W_law) 256 = .ok (.iaload, 1) := by decide +kernel
theorem d_W_law_257 : decode (jyc Y_W_law) 257 = .ok (.invokevirtual 76, 3) := by decide +kernel
theorem d_W_law_260 : decode (jyc Y_W_law) 260 = .ok (.aload_n 2, 1) := by decide +kernel
theorem d_W_law_261 : decode (jyc Y_W_law) 261 = .ok (.aload_n 0, 1) := by decide +kernel
theorem d_W_law_262 : decode (jyc Y_W_law) 262 = .ok (.iload 4, 2) := by decide +kernel
theorem d_W_law_264 : decode (jyc Y_W_law) 264 = .ok (.iconst 1, 1) := by decide +kernel
theorem d_W_law_265 : decode (jyc Y_W_law) 265 = .ok (.iadd, 1) := by decide +kernel
theorem d_W_law_266 : decode (jyc Y_W_law) 266 = .ok (.iaload, 1) := by decide +kernel
theorem d_W_law_267 : decode (jyc Y_W_law) 267 = .ok (.aload_n 0, 1) := by decide +kernel
theorem d_W_law_268 : decode (jyc Y_W_law) 268 = .ok (.iload 4, 2) := by decide +kernel
theorem d_W_law_270 : decode (jyc Y_W_law) 270 = .ok (.iconst 2, 1) := by decide +kernel
theorem d_W_law_271 : decode (jyc Y_W_law) 271 = .ok (.iadd, 1) := by decide +kernel
theorem d_W_law_272 : decode (jyc Y_W_law) 272 = .ok (.iaload, 1) := by decide +kernel
theorem d_W_law_273 : decode (jyc Y_W_law) 273 = .ok (.invokevirtual 79, 3) := by decide +kernel
theorem d_W_law_276 : decode (jyc Y_W_law) 276 = .ok (.if_icmp .eq 1020, 3) := by decide +kernel
theorem d_W_law_279 : decode (jyc Y_W_law) 279 = .ok (.iconst 0, 1) := by decide +kernel
theorem d_W_law_280 : decode (jyc Y_W_law) 280 = .ok (.ireturn, 1) := by decide +kernel
theorem d_W_law_281 : decode (jyc Y_W_law) 281 = .ok (.aload_n 1, 1) := by decide +kernel
theorem d_W_law_282 : decode (jyc Y_W_law) 282 = .ok (.aload_n 0, 1) := by decide +kernel
theorem d_W_law_283 : decode (jyc Y_W_law) 283 = .ok (.iload 4, 2) := by decide +kernel
theorem d_W_law_285 : decode (jyc Y_W_law) 285 = .ok (.iconst 1, 1) := by decide +kernel
theorem d_W_law_286 : decode (jyc Y_W_law) 286 = .ok (.iadd, 1) := by decide +kernel
theorem d_W_law_287 : decode (jyc Y_W_law) 287 = .ok (.iaload, 1) := by decide +kernel
theorem d_W_law_288 : decode (jyc Y_W_law) 288 = .ok (.aload_n 3, 1) := by decide +kernel
theorem d_W_law_289 : decode (jyc Y_W_law) 289 = .ok (.invokestatic 80, 3) := by decide +kernel
theorem d_W_law_292 : decode (jyc Y_W_law) 292 = .ok (.istore 5, 2) := by decide +kernel
theorem d_W_law_294 : decode (jyc Y_W_law) 294 = .ok (.aload_n 2, 1) := by decide +kernel
theorem d_W_law_295 : decode (jyc Y_W_law) 295 = .ok (.aload_n 0, 1) := by decide +kernel
theorem d_W_law_296 : decode (jyc Y_W_law) 296 = .ok (.iload 4, 2) := by decide +kernel
theorem d_W_law_298 : decode (jyc Y_W_law) 298 = .ok (.iconst 1, 1) := by decide +kernel
theorem d_W_law_299 : decode (jyc Y_W_law) 299 = .ok (.iadd, 1) := by decide +kernel
theorem d_W_law_300 : decode (jyc Y_W_law) 300 = .ok (.iaload, 1) := by decide +kernel
theorem d_W_law_301 : decode (jyc Y_W_law) 301 = .ok (.invokevirtual 83, 3) := by decide +kernel
theorem d_W_law_304 : decode (jyc Y_W_law) 304 = .ok (.istore 6, 2) := by decide +kernel
theorem d_W_law_306 : decode (jyc Y_W_law) 306 = .ok (.aload_n 2, 1) := by decide +kernel
theorem d_W_law_307 : decode (jyc Y_W_law) 307 = .ok (.invokevirtual 72, 3) := by decide +kernel
theorem d_W_law_310 : decode (jyc Y_W_law) 310 = .ok (.iload 5, 2) := by decide +kernel
theorem d_W_law_312 : decode (jyc Y_W_law) 312 = .ok (.if_icmp .eq 5, 3) := by decide +kernel
theorem d_W_law_315 : decode (jyc Y_W_law) 315 = .ok (.iconst 0, 1) := by decide +kernel
theorem d_W_law_316 : decode (jyc Y_W_law) 316 = .ok (.ireturn, 1) := by decide +kernel
theorem d_W_law_317 : decode (jyc Y_W_law) 317 = .ok (.iload 5, 2) := by decide +kernel
theorem d_W_law_319 : decode (jyc Y_W_law) 319 = .ok (.ifCond .ne 15, 3) := by decide +kernel
theorem d_W_law_322 : decode (jyc Y_W_law) 322 = .ok (.aload_n 3, 1) := by decide +kernel
theorem d_W_law_323 : decode (jyc Y_W_law) 323 = .ok (.iconst 0, 1) := by decide +kernel
theorem d_W_law_324 : decode (jyc Y_W_law) 324 = .ok (.laload, 1) := by decide +kernel
theorem d_W_law_325 : decode (jyc Y_W_law) 325 = .ok (.iload 6, 2) := by decide +kernel
theorem d_W_law_327 : decode (jyc Y_W_law) 327 = .ok (.i2l, 1) := by decide +kernel
theorem d_W_law_328 : decode (jyc Y_W_law) 328 = .ok (.lcmp, 1) := by decide +kernel
theorem d_W_law_329 : decode (jyc Y_W_law) 329 = .ok (.ifCond .eq 5, 3) := by decide +kernel
theorem d_W_law_332 : decode (jyc Y_W_law) 332 = .ok (.iconst 0, 1) := by decide +kernel
theorem d_W_law_333 : decode (jyc Y_W_law) 333 = .ok (.ireturn, 1) := by decide +kernel
theorem d_W_law_334 : decode (jyc Y_W_law) 334 = .ok (.goto 962, 3) := by decide +kernel
theorem d_W_law_337 : decode (jyc Y_W_law) 337 = .ok (.aload_n 1, 1) := by decide +kernel
theorem d_W_law_338 : decode (jyc Y_W_law) 338 = .ok (.aload_n 0, 1) := by decide +kernel
theorem d_W_law_339 : decode (jyc Y_W_law) 339 = .ok (.iload 4, 2) := by decide +kernel
theorem d_W_law_341 : decode (jyc Y_W_law) 341 = .ok (.iconst 1, 1) := by decide +kernel
theorem d_W_law_342 : decode (jyc Y_W_law) 342 = .ok (.iadd, 1) := by decide +kernel
theorem d_W_law_343 : decode (jyc Y_W_law) 343 = .ok (.iaload, 1) := by decide +kernel
theorem d_W_law_344 : decode (jyc Y_W_law) 344 = .ok (.aload_n 0, 1) := by decide +kernel
theorem d_W_law_345 : decode (jyc Y_W_law) 345 = .ok (.iload 4, 2) := by decide +kernel
theorem d_W_law_347 : decode (jyc Y_W_law) 347 = .ok (.iconst 2, 1) := by decide +kernel
theorem d_W_law_348 : decode (jyc Y_W_law) 348 = .ok (.iadd, 1) := by decide +kernel
theorem d_W_law_349 : decode (jyc Y_W_law) 349 = .ok (.iaload, 1) := by decide +kernel
theorem d_W_law_350 : decode (jyc Y_W_law) 350 = .ok (.aload_n 3, 1) := by decide +kernel
theorem d_W_law_351 : decode (jyc Y_W_law) 351 = .ok (.invokestatic 84, 3) := by decide +kernel
theorem d_W_law_354 : decode (jyc Y_W_law) 354 = .ok (.istore 5, 2) := by decide +kernel
theorem d_W_law_356 : decode (jyc Y_W_law) 356 = .ok (.aload_n 2, 1) := by decide +kernel
theorem d_W_law_357 : decode (jyc Y_W_law) 357 = .ok (.aload_n 0, 1) := by decide +kernel
theorem d_W_law_358 : decode (jyc Y_W_law) 358 = .ok (.iload 4, 2) := by decide +kernel
theorem d_W_law_360 : decode (jyc Y_W_law) 360 = .ok (.iconst 1, 1) := by decide +kernel
theorem d_W_law_361 : decode (jyc Y_W_law) 361 = .ok (.iadd, 1) := by decide +kernel
theorem d_W_law_362 : decode (jyc Y_W_law) 362 = .ok (.iaload, 1) := by decide +kernel
theorem d_W_law_363 : decode (jyc Y_W_law) 363 = .ok (.aload_n 0, 1) := by decide +kernel
theorem d_W_law_364 : decode (jyc Y_W_law) 364 = .ok (.iload 4, 2) := by decide +kernel
theorem d_W_law_366 : decode (jyc Y_W_law) 366 = .ok (.iconst 2, 1) := by decide +kernel
theorem d_W_law_367 : decode (jyc Y_W_law) 367 = .ok (.iadd, 1) := by decide +kernel
theorem d_W_law_368 : decode (jyc Y_W_law) 368 = .ok (.iaload, 1) := by decide +kernel
theorem d_W_law_369 : decode (jyc Y_W_law) 369 = .ok (.invokevirtual 87, 3) := by decide +kernel
theorem d_W_law_372 : decode (jyc Y_W_law) 372 = .ok (.istore 6, 2) := by decide +kernel
theorem d_W_law_374 : decode (jyc Y_W_law) 374 = .ok (.aload_n 2, 1) := by decide +kernel
theorem d_W_law_375 : decode (jyc Y_W_law) 375 = .ok (.invokevirtual 72, 3) := by decide +kernel
theorem d_W_law_378 : decode (jyc Y_W_law) 378 = .ok (.iload 5, 2) := by decide +kernel
theorem d_W_law_380 : decode (jyc Y_W_law) 380 = .ok (.if_icmp .eq 5, 3) := by decide +kernel
theorem d_W_law_383 : decode (jyc Y_W_law) 383 = .ok (.iconst 0, 1) := by decide +kernel
theorem d_W_law_384 : decode (jyc Y_W_law) 384 = .ok (.ireturn, 1) := by decide +kernel
theorem d_W_law_385 : decode (jyc Y_W_law) 385 = .ok (.iload 5, 2) := by decide +kernel
theorem d_W_law_387 : decode (jyc Y_W_law) 387 = .ok (.ifCond .ne 22, 3) := by decide +kernel
theorem d_W_law_390 : decode (jyc Y_W_law) 390 = .ok (.aload_n 3, 1) := by decide +kernel
theorem d_W_law_391 : decode (jyc Y_W_law) 391 = .ok (.iconst 0, 1) := by decide +kernel
theorem d_W_law_392 : decode (jyc Y_W_law) 392 = .ok (.laload, 1) := by decide +kernel
theorem d_W_law_393 : decode (jyc Y_W_law) 393 = .ok (.iload 6, 2) := by decide +kernel
theorem d_W_law_395 : decode (jyc Y_W_law) 395 = .ok (.ifCond .eq 7, 3) := by decide +kernel
theorem d_W_law_398 : decode (jyc Y_W_law) 398 = .ok (.lconst 1, 1) := by decide +kernel
theorem d_W_law_399 : decode (jyc Y_W_law) 399 = .ok (.goto 4, 3) := by decide +kernel
theorem d_W_law_402 : decode (jyc Y_W_law) 402 = .ok (.lconst 0, 1) := by decide +kernel
theorem d_W_law_403 : decode (jyc Y_W_law) 403 = .ok (.lcmp, 1) := by decide +kernel
theorem d_W_law_404 : decode (jyc Y_W_law) 404 = .ok (.ifCond .eq 5, 3) := by decide +kernel
theorem d_W_law_407 : decode (jyc Y_W_law) 407 = .ok (.iconst 0, 1) := by decide +kernel
theorem d_W_law_408 : decode (jyc Y_W_law) 408 = .ok (.ireturn, 1) := by decide +kernel
theorem d_W_law_409 : decode (jyc Y_W_law) 409 = .ok (.goto 887, 3) := by decide +kernel
theorem d_W_law_412 : decode (jyc Y_W_law) 412 = .ok (.aload_n 1, 1) := by decide +kernel
theorem d_W_law_413 : decode (jyc Y_W_law) 413 = .ok (.aload_n 0, 1) := by decide +kernel
theorem d_W_law_414 : decode (jyc Y_W_law) 414 = .ok (.iload 4, 2) := by decide +kernel
theorem d_W_law_416 : decode (jyc Y_W_law) 416 = .ok (.iconst 1, 1) := by decide +kernel
theorem d_W_law_417 : decode (jyc Y_W_law) 417 = .ok (.iadd, 1) := by decide +kernel
theorem d_W_law_418 : decode (jyc Y_W_law) 418 = .ok (.iaload, 1) := by decide +kernel
theorem d_W_law_419 : decode (jyc Y_W_law) 419 = .ok (.aload_n 0, 1) := by decide +kernel
theorem d_W_law_420 : decode (jyc Y_W_law) 420 = .ok (.iload 4, 2) := by decide +kernel
theorem d_W_law_422 : decode (jyc Y_W_law) 422 = .ok (.iconst 2, 1) := by decide +kernel
theorem d_W_law_423 : decode (jyc Y_W_law) 423 = .ok (.iadd, 1) := by decide +kernel
theorem d_W_law_424 : decode (jyc Y_W_law) 424 = .ok (.iaload, 1) := by decide +kernel
theorem d_W_law_425 : decode (jyc Y_W_law) 425 = .ok (.aload_n 0, 1) := by decide +kernel
theorem d_W_law_426 : decode (jyc Y_W_law) 426 = .ok (.iload 4, 2) := by decide +kernel
theorem d_W_law_428 : decode (jyc Y_W_law) 428 = .ok (.iconst 3, 1) := by decide +kernel
theorem d_W_law_429 : decode (jyc Y_W_law) 429 = .ok (.iadd, 1) := by decide +kernel
theorem d_W_law_430 : decode (jyc Y_W_law) 430 = .ok (.iaload, 1) := by decide +kernel
theorem d_W_law_431 : decode (jyc Y_W_law) 431 = .ok (.aload_n 3, 1) := by decide +kernel
theorem d_W_law_432 : decode (jyc Y_W_law) 432 = .ok (.invokestatic 88, 3) := by decide +kernel
theorem d_W_law_435 : decode (jyc Y_W_law) 435 = .ok (.istore 5, 2) := by decide +kernel
theorem d_W_law_437 : decode (jyc Y_W_law) 437 = .ok (.aload_n 2, 1) := by decide +kernel
theorem d_W_law_438 : decode (jyc Y_W_law) 438 = .ok (.aload_n 0, 1) := by decide +kernel
theorem d_W_law_439 : decode (jyc Y_W_law) 439 = .ok (.iload 4, 2) := by decide +kernel
theorem d_W_law_441 : decode (jyc Y_W_law) 441 = .ok (.iconst 1, 1) := by decide +kernel
theorem d_W_law_442 : decode (jyc Y_W_law) 442 = .ok (.iadd, 1) := by decide +kernel
theorem d_W_law_443 : decode (jyc Y_W_law) 443 = .ok (.iaload, 1) := by decide +kernel
theorem d_W_law_444 : decode (jyc Y_W_law) 444 = .ok (.aload_n 0, 1) := by decide +kernel
theorem d_W_law_445 : decode (jyc Y_W_law) 445 = .ok (.iload 4, 2) := by decide +kernel
theorem d_W_law_447 : decode (jyc Y_W_law) 447 = .ok (.iconst 2, 1) := by decide +kernel
theorem d_W_law_448 : decode (jyc Y_W_law) 448 = .ok (.iadd, 1) := by decide +kernel
theorem d_W_law_449 : decode (jyc Y_W_law) 449 = .ok (.iaload, 1) := by decide +kernel
theorem d_W_law_450 : decode (jyc Y_W_law) 450 = .ok (.aload_n 0, 1) := by decide +kernel
theorem d_W_law_451 : decode (jyc Y_W_law) 451 = .ok (.iload 4, 2) := by decide +kernel
theorem d_W_law_453 : decode (jyc Y_W_law) 453 = .ok (.iconst 3, 1) := by decide +kernel
theorem d_W_law_454 : decode (jyc Y_W_law) 454 = .ok (.iadd, 1) := by decide +kernel
theorem d_W_law_455 : decode (jyc Y_W_law) 455 = .ok (.iaload, 1) := by decide +kernel
theorem d_W_law_456 : decode (jyc Y_W_law) 456 = .ok (.invokevirtual 91, 3) := by decide +kernel
theorem d_W_law_459 : decode (jyc Y_W_law) 459 = .ok (.istore 6, 2) := by decide +kernel
theorem d_W_law_461 : decode (jyc Y_W_law) 461 = .ok (.aload_n 2, 1) := by decide +kernel
theorem d_W_law_462 : decode (jyc Y_W_law) 462 = .ok (.invokevirtual 72, 3) := by decide +kernel
theorem d_W_law_465 : decode (jyc Y_W_law) 465 = .ok (.iload 5, 2) := by decide +kernel
theorem d_W_law_467 : decode (jyc Y_W_law) 467 = .ok (.if_icmp .eq 5, 3) := by decide +kernel
theorem d_W_law_470 : decode (jyc Y_W_law) 470 = .ok (.iconst 0, 1) := by decide +kernel
theorem d_W_law_471 : decode (jyc Y_W_law) 471 = .ok (.ireturn, 1) := by decide +kernel
theorem d_W_law_472 : decode (jyc Y_W_law) 472 = .ok (.iload 5, 2) := by decide +kernel
theorem d_W_law_474 : decode (jyc Y_W_law) 474 = .ok (.ifCond .ne 22, 3) := by decide +kernel
theorem d_W_law_477 : decode (jyc Y_W_law) 477 = .ok (.aload_n 3, 1) := by decide +kernel
theorem d_W_law_478 : decode (jyc Y_W_law) 478 = .ok (.iconst 0, 1) := by decide +kernel
theorem d_W_law_479 : decode (jyc Y_W_law) 479 = .ok (.laload, 1) := by decide +kernel
theorem d_W_law_480 : decode (jyc Y_W_law) 480 = .ok (.iload 6, 2) := by decide +kernel
theorem d_W_law_482 : decode (jyc Y_W_law) 482 = .ok (.ifCond .eq 7, 3) := by decide +kernel
theorem d_W_law_485 : decode (jyc Y_W_law) 485 = .ok (.lconst 1, 1) := by decide +kernel
theorem d_W_law_486 : decode (jyc Y_W_law) 486 = .ok (.goto 4, 3) := by decide +kernel
theorem d_W_law_489 : decode (jyc Y_W_law) 489 = .ok (.lconst 0, 1) := by decide +kernel
theorem d_W_law_490 : decode (jyc Y_W_law) 490 = .ok (.lcmp, 1) := by decide +kernel
theorem d_W_law_491 : decode (jyc Y_W_law) 491 = .ok (.ifCond .eq 5, 3) := by decide +kernel
theorem d_W_law_494 : decode (jyc Y_W_law) 494 = .ok (.iconst 0, 1) := by decide +kernel
theorem d_W_law_495 : decode (jyc Y_W_law) 495 = .ok (.ireturn, 1) := by decide +kernel
theorem d_W_law_496 : decode (jyc Y_W_law) 496 = .ok (.goto 800, 3) := by decide +kernel
theorem d_W_law_499 : decode (jyc Y_W_law) 499 = .ok (.aload_n 1, 1) := by decide +kernel
theorem d_W_law_500 : decode (jyc Y_W_law) 500 = .ok (.aload_n 0, 1) := by decide +kernel
theorem d_W_law_501 : decode (jyc Y_W_law) 501 = .ok (.iload 4, 2) := by decide +kernel
theorem d_W_law_503 : decode (jyc Y_W_law) 503 = .ok (.iconst 1, 1) := by decide +kernel
theorem d_W_law_504 : decode (jyc Y_W_law) 504 = .ok (.iadd, 1) := by decide +kernel
theorem d_W_law_505 : decode (jyc Y_W_law) 505 = .ok (.iaload, 1) := by decide +kernel
theorem d_W_law_506 : decode (jyc Y_W_law) 506 = .ok (.aload_n 0, 1) := by decide +kernel
theorem d_W_law_507 : decode (jyc Y_W_law) 507 = .ok (.iload 4, 2) := by decide +kernel
theorem d_W_law_509 : decode (jyc Y_W_law) 509 = .ok (.iconst 2, 1) := by decide +kernel
theorem d_W_law_510 : decode (jyc Y_W_law) 510 = .ok (.iadd, 1) := by decide +kernel
theorem d_W_law_511 : decode (jyc Y_W_law) 511 = .ok (.iaload, 1) := by decide +kernel
theorem d_W_law_512 : decode (jyc Y_W_law) 512 = .ok (.aload_n 0, 1) := by decide +kernel
theorem d_W_law_513 : decode (jyc Y_W_law) 513 = .ok (.iload 4, 2) := by decide +kernel
theorem d_W_law_515 : decode (jyc Y_W_law) 515 = .ok (.iconst 3, 1) := by decide +kernel
theorem d_W_law_516 : decode (jyc Y_W_law) 516 = .ok (.iadd, 1) := by decide +kernel
theorem d_W_law_517 : decode (jyc Y_W_law) 517 = .ok (.iaload, 1) := by decide +kernel
theorem d_W_law_518 : decode (jyc Y_W_law) 518 = .ok (.aload_n 0, 1) := by decide +kernel
theorem d_W_law_519 : decode (jyc Y_W_law) 519 = .ok (.iload 4, 2) := by decide +kernel
theorem d_W_law_521 : decode (jyc Y_W_law) 521 = .ok (.iconst 4, 1) := by decide +kernel
theorem d_W_law_522 : decode (jyc Y_W_law) 522 = .ok (.iadd, 1) := by decide +kernel
theorem d_W_law_523 : decode (jyc Y_W_law) 523 = .ok (.iaload, 1) := by decide +kernel
theorem d_W_law_524 : decode (jyc Y_W_law) 524 = .ok (.aload_n 0, 1) := by decide +kernel
theorem d_W_law_525 : decode (jyc Y_W_law) 525 = .ok (.iload 4, 2) := by decide +kernel
theorem d_W_law_527 : decode (jyc Y_W_law) 527 = .ok (.iconst 5, 1) := by decide +kernel
theorem d_W_law_528 : decode (jyc Y_W_law) 528 = .ok (.iadd, 1) := by decide +kernel
theorem d_W_law_529 : decode (jyc Y_W_law) 529 = .ok (.iaload, 1) := by decide +kernel
theorem d_W_law_530 : decode (jyc Y_W_law) 530 = .ok (.aload_n 3, 1) := by decide +kernel
theorem d_W_law_531 : decode (jyc Y_W_law) 531 = .ok (.invokestatic 92, 3) := by decide +kernel
theorem d_W_law_534 : decode (jyc Y_W_law) 534 = .ok (.istore 5, 2) := by decide +kernel
theorem d_W_law_536 : decode (jyc Y_W_law) 536 = .ok (.aload_n 2, 1) := by decide +kernel
theorem d_W_law_537 : decode (jyc Y_W_law) 537 = .ok (.aload_n 0, 1) := by decide +kernel
theorem d_W_law_538 : decode (jyc Y_W_law) 538 = .ok (.iload 4, 2) := by decide +kernel
theorem d_W_law_540 : decode (jyc Y_W_law) 540 = .ok (.iconst 1, 1) := by decide +kernel
theorem d_W_law_541 : decode (jyc Y_W_law) 541 = .ok (.iadd, 1) := by decide +kernel
theorem d_W_law_542 : decode (jyc Y_W_law) 542 = .ok (.iaload, 1) := by decide +kernel
theorem d_W_law_543 : decode (jyc Y_W_law) 543 = .ok (.aload_n 0, 1) := by decide +kernel
theorem d_W_law_544 : decode (jyc Y_W_law) 544 = .ok (.iload 4, 2) := by decide +kernel
theorem d_W_law_546 : decode (jyc Y_W_law) 546 = .ok (.iconst 2, 1) := by decide +kernel
theorem d_W_law_547 : decode (jyc Y_W_law) 547 = .ok (.iadd, 1) := by decide +kernel
theorem d_W_law_548 : decode (jyc Y_W_law) 548 = .ok (.iaload, 1) := by decide +kernel
theorem d_W_law_549 : decode (jyc Y_W_law) 549 = .ok (.aload_n 0, 1) := by decide +kernel
theorem d_W_law_550 : decode (jyc Y_W_law) 550 = .ok (.iload 4, 2) := by decide +kernel
theorem d_W_law_552 : decode (jyc Y_W_law) 552 = .ok (.iconst 3, 1) := by decide +kernel
theorem d_W_law_553 : decode (jyc Y_W_law) 553 = .ok (.iadd, 1) := by decide +kernel
theorem d_W_law_554 : decode (jyc Y_W_law) 554 = .ok (.iaload, 1) := by decide +kernel
theorem d_W_law_555 : decode (jyc Y_W_law) 555 = .ok (.aload_n 0, 1) := by decide +kernel
theorem d_W_law_556 : decode (jyc Y_W_law) 556 = .ok (.iload 4, 2) := by decide +kernel
theorem d_W_law_558 : decode (jyc Y_W_law) 558 = .ok (.iconst 4, 1) := by decide +kernel
theorem d_W_law_559 : decode (jyc Y_W_law) 559 = .ok (.iadd, 1) := by decide +kernel
theorem d_W_law_560 : decode (jyc Y_W_law) 560 = .ok (.iaload, 1) := by decide +kernel
theorem d_W_law_561 : decode (jyc Y_W_law) 561 = .ok (.aload_n 0, 1) := by decide +kernel
theorem d_W_law_562 : decode (jyc Y_W_law) 562 = .ok (.iload 4, 2) := by decide +kernel
theorem d_W_law_564 : decode (jyc Y_W_law) 564 = .ok (.iconst 5, 1) := by decide +kernel
theorem d_W_law_565 : decode (jyc Y_W_law) 565 = .ok (.iadd, 1) := by decide +kernel
theorem d_W_law_566 : decode (jyc Y_W_law) 566 = .ok (.iaload, 1) := by decide +kernel
theorem d_W_law_567 : decode (jyc Y_W_law) 567 = .ok (.invokevirtual 95, 3) := by decide +kernel
theorem d_W_law_570 : decode (jyc Y_W_law) 570 = .ok (.istore 6, 2) := by decide +kernel
theorem d_W_law_572 : decode (jyc Y_W_law) 572 = .ok (.aload_n 2, 1) := by decide +kernel
theorem d_W_law_573 : decode (jyc Y_W_law) 573 = .ok (.invokevirtual 72, 3) := by decide +kernel
theorem d_W_law_576 : decode (jyc Y_W_law) 576 = .ok (.iload 5, 2) := by decide +kernel
theorem d_W_law_578 : decode (jyc Y_W_law) 578 = .ok (.if_icmp .eq 5, 3) := by decide +kernel
theorem d_W_law_581 : decode (jyc Y_W_law) 581 = .ok (.iconst 0, 1) := by decide +kernel
theorem d_W_law_582 : decode (jyc Y_W_law) 582 = .ok (.ireturn, 1) := by decide +kernel
theorem d_W_law_583 : decode (jyc Y_W_law) 583 = .ok (.iload 5, 2) := by decide +kernel
theorem d_W_law_585 : decode (jyc Y_W_law) 585 = .ok (.ifCond .ne 15, 3) := by decide +kernel
theorem d_W_law_588 : decode (jyc Y_W_law) 588 = .ok (.aload_n 3, 1) := by decide +kernel
theorem d_W_law_589 : decode (jyc Y_W_law) 589 = .ok (.iconst 0, 1) := by decide +kernel
theorem d_W_law_590 : decode (jyc Y_W_law) 590 = .ok (.laload, 1) := by decide +kernel
theorem d_W_law_591 : decode (jyc Y_W_law) 591 = .ok (.iload 6, 2) := by decide +kernel
theorem d_W_law_593 : decode (jyc Y_W_law) 593 = .ok (.i2l, 1) := by decide +kernel
theorem d_W_law_594 : decode (jyc Y_W_law) 594 = .ok (.lcmp, 1) := by decide +kernel
theorem d_W_law_595 : decode (jyc Y_W_law) 595 = .ok (.ifCond .eq 5, 3) := by decide +kernel
theorem d_W_law_598 : decode (jyc Y_W_law) 598 = .ok (.iconst 0, 1) := by decide +kernel
theorem d_W_law_599 : decode (jyc Y_W_law) 599 = .ok (.ireturn, 1) := by decide +kernel
theorem d_W_law_600 : decode (jyc Y_W_law) 600 = .ok (.goto 696, 3) := by decide +kernel
theorem d_W_law_603 : decode (jyc Y_W_law) 603 = .ok (.aload_n 1, 1) := by decide +kernel
theorem d_W_law_604 : decode (jyc Y_W_law) 604 = .ok (.aload_n 0, 1) := by decide +kernel
theorem d_W_law_605 : decode (jyc Y_W_law) 605 = .ok (.iload 4, 2) := by decide +kernel
theorem d_W_law_607 : decode (jyc Y_W_law) 607 = .ok (.iconst 1, 1) := by decide +kernel
theorem d_W_law_608 : decode (jyc Y_W_law) 608 = .ok (.iadd, 1) := by decide +kernel
theorem d_W_law_609 : decode (jyc Y_W_law) 609 = .ok (.iaload, 1) := by decide +kernel
theorem d_W_law_610 : decode (jyc Y_W_law) 610 = .ok (.aload_n 0, 1) := by decide +kernel
theorem d_W_law_611 : decode (jyc Y_W_law) 611 = .ok (.iload 4, 2) := by decide +kernel
theorem d_W_law_613 : decode (jyc Y_W_law) 613 = .ok (.iconst 2, 1) := by decide +kernel
theorem d_W_law_614 : decode (jyc Y_W_law) 614 = .ok (.iadd, 1) := by decide +kernel
theorem d_W_law_615 : decode (jyc Y_W_law) 615 = .ok (.iaload, 1) := by decide +kernel
theorem d_W_law_616 : decode (jyc Y_W_law) 616 = .ok (.aload_n 0, 1) := by decide +kernel
theorem d_W_law_617 : decode (jyc Y_W_law) 617 = .ok (.iload 4, 2) := by decide +kernel
theorem d_W_law_619 : decode (jyc Y_W_law) 619 = .ok (.iconst 3, 1) := by decide +kernel
theorem d_W_law_620 : decode (jyc Y_W_law) 620 = .ok (.iadd, 1) := by decide +kernel
theorem d_W_law_621 : decode (jyc Y_W_law) 621 = .ok (.iaload, 1) := by decide +kernel
theorem d_W_law_622 : decode (jyc Y_W_law) 622 = .ok (.aload_n 0, 1) := by decide +kernel
theorem d_W_law_623 : decode (jyc Y_W_law) 623 = .ok (.iload 4, 2) := by decide +kernel
theorem d_W_law_625 : decode (jyc Y_W_law) 625 = .ok (.iconst 4, 1) := by decide +kernel
theorem d_W_law_626 : decode (jyc Y_W_law) 626 = .ok (.iadd, 1) := by decide +kernel
theorem d_W_law_627 : decode (jyc Y_W_law) 627 = .ok (.iaload, 1) := by decide +kernel
theorem d_W_law_628 : decode (jyc Y_W_law) 628 = .ok (.aload_n 3, 1) := by decide +kernel
theorem d_W_law_629 : decode (jyc Y_W_law) 629 = .ok (.invokestatic 96, 3) := by decide +kernel
theorem d_W_law_632 : decode (jyc Y_W_law) 632 = .ok (.istore 5, 2) := by decide +kernel
theorem d_W_law_634 : decode (jyc Y_W_law) 634 = .ok (.aload_n 2, 1) := by decide +kernel
theorem d_W_law_635 : decode (jyc Y_W_law) 635 = .ok (.aload_n 0, 1) := by decide +kernel
theorem d_W_law_636 : decode (jyc Y_W_law) 636 = .ok (.iload 4, 2) := by decide +kernel
theorem d_W_law_638 : decode (jyc Y_W_law) 638 = .ok (.iconst 1, 1) := by decide +kernel
theorem d_W_law_639 : decode (jyc Y_W_law) 639 = .ok (.iadd, 1) := by decide +kernel
theorem d_W_law_640 : decode (jyc Y_W_law) 640 = .ok (.iaload, 1) := by decide +kernel
theorem d_W_law_641 : decode (jyc Y_W_law) 641 = .ok (.aload_n 0, 1) := by decide +kernel
theorem d_W_law_642 : decode (jyc Y_W_law) 642 = .ok (.iload 4, 2) := by decide +kernel
theorem d_W_law_644 : decode (jyc Y_W_law) 644 = .ok (.iconst 2, 1) := by decide +kernel
theorem d_W_law_645 : decode (jyc Y_W_law) 645 = .ok (.iadd, 1) := by decide +kernel
theorem d_W_law_646 : decode (jyc Y_W_law) 646 = .ok (.iaload, 1) := by decide +kernel
theorem d_W_law_647 : decode (jyc Y_W_law) 647 = .ok (.aload_n 0, 1) := by decide +kernel
theorem d_W_law_648 : decode (jyc Y_W_law) 648 = .ok (.iload 4, 2) := by decide +kernel
theorem d_W_law_650 : decode (jyc Y_W_law) 650 = .ok (.iconst 3, 1) := by decide +kernel
theorem d_W_law_651 : decode (jyc Y_W_law) 651 = .ok (.iadd, 1) := by decide +kernel
theorem d_W_law_652 : decode (jyc Y_W_law) 652 = .ok (.iaload, 1) := by decide +kernel
theorem d_W_law_653 : decode (jyc Y_W_law) 653 = .ok (.aload_n 0, 1) := by decide +kernel
theorem d_W_law_654 : decode (jyc Y_W_law) 654 = .ok (.iload 4, 2) := by decide +kernel
theorem d_W_law_656 : decode (jyc Y_W_law) 656 = .ok (.iconst 4, 1) := by decide +kernel
theorem d_W_law_657 : decode (jyc Y_W_law) 657 = .ok (.iadd, 1) := by decide +kernel
theorem d_W_law_658 : decode (jyc Y_W_law) 658 = .ok (.iaload, 1) := by decide +kernel
theorem d_W_law_659 : decode (jyc Y_W_law) 659 = .ok (.invokevirtual 99, 3) := by decide +kernel
theorem d_W_law_662 : decode (jyc Y_W_law) 662 = .ok (.istore 6, 2) := by decide +kernel
theorem d_W_law_664 : decode (jyc Y_W_law) 664 = .ok (.aload_n 2, 1) := by decide +kernel
theorem d_W_law_665 : decode (jyc Y_W_law) 665 = .ok (.invokevirtual 72, 3) := by decide +kernel
theorem d_W_law_668 : decode (jyc Y_W_law) 668 = .ok (.iload 5, 2) := by decide +kernel
theorem d_W_law_670 : decode (jyc Y_W_law) 670 = .ok (.if_icmp .eq 5, 3) := by decide +kernel
theorem d_W_law_673 : decode (jyc Y_W_law) 673 = .ok (.iconst 0, 1) := by decide +kernel
theorem d_W_law_674 : decode (jyc Y_W_law) 674 = .ok (.ireturn, 1) := by decide +kernel
theorem d_W_law_675 : decode (jyc Y_W_law) 675 = .ok (.iload 5, 2) := by decide +kernel
theorem d_W_law_677 : decode (jyc Y_W_law) 677 = .ok (.ifCond .ne 15, 3) := by decide +kernel
theorem d_W_law_680 : decode (jyc Y_W_law) 680 = .ok (.aload_n 3, 1) := by decide +kernel
theorem d_W_law_681 : decode (jyc Y_W_law) 681 = .ok (.iconst 0, 1) := by decide +kernel
theorem d_W_law_682 : decode (jyc Y_W_law) 682 = .ok (.laload, 1) := by decide +kernel
theorem d_W_law_683 : decode (jyc Y_W_law) 683 = .ok (.iload 6, 2) := by decide +kernel
theorem d_W_law_685 : decode (jyc Y_W_law) 685 = .ok (.i2l, 1) := by decide +kernel
theorem d_W_law_686 : decode (jyc Y_W_law) 686 = .ok (.lcmp, 1) := by decide +kernel
theorem d_W_law_687 : decode (jyc Y_W_law) 687 = .ok (.ifCond .eq 5, 3) := by decide +kernel
theorem d_W_law_690 : decode (jyc Y_W_law) 690 = .ok (.iconst 0, 1) := by decide +kernel
theorem d_W_law_691 : decode (jyc Y_W_law) 691 = .ok (.ireturn, 1) := by decide +kernel
theorem d_W_law_692 : decode (jyc Y_W_law) 692 = .ok (.goto 604, 3) := by decide +kernel
theorem d_W_law_695 : decode (jyc Y_W_law) 695 = .ok (.aload_n 1, 1) := by decide +kernel
theorem d_W_law_696 : decode (jyc Y_W_law) 696 = .ok (.aload_n 0, 1) := by decide +kernel
theorem d_W_law_697 : decode (jyc Y_W_law) 697 = .ok (.iload 4, 2) := by decide +kernel
theorem d_W_law_699 : decode (jyc Y_W_law) 699 = .ok (.iconst 1, 1) := by decide +kernel
theorem d_W_law_700 : decode (jyc Y_W_law) 700 = .ok (.iadd, 1) := by decide +kernel
theorem d_W_law_701 : decode (jyc Y_W_law) 701 = .ok (.iaload, 1) := by decide +kernel
theorem d_W_law_702 : decode (jyc Y_W_law) 702 = .ok (.aload_n 0, 1) := by decide +kernel
theorem d_W_law_703 : decode (jyc Y_W_law) 703 = .ok (.iload 4, 2) := by decide +kernel
theorem d_W_law_705 : decode (jyc Y_W_law) 705 = .ok (.iconst 2, 1) := by decide +kernel
theorem d_W_law_706 : decode (jyc Y_W_law) 706 = .ok (.iadd, 1) := by decide +kernel
theorem d_W_law_707 : decode (jyc Y_W_law) 707 = .ok (.iaload, 1) := by decide +kernel
theorem d_W_law_708 : decode (jyc Y_W_law) 708 = .ok (.invokevirtual 100, 3) := by decide +kernel
theorem d_W_law_711 : decode (jyc Y_W_law) 711 = .ok (.aload_n 2, 1) := by decide +kernel
theorem d_W_law_712 : decode (jyc Y_W_law) 712 = .ok (.aload_n 0, 1) := by decide +kernel
theorem d_W_law_713 : decode (jyc Y_W_law) 713 = .ok (.iload 4, 2) := by decide +kernel
theorem d_W_law_715 : decode (jyc Y_W_law) 715 = .ok (.iconst 1, 1) := by decide +kernel
theorem d_W_law_716 : decode (jyc Y_W_law) 716 = .ok (.iadd, 1) := by decide +kernel
theorem d_W_law_717 : decode (jyc Y_W_law) 717 = .ok (.iaload, 1) := by decide +kernel
theorem d_W_law_718 : decode (jyc Y_W_law) 718 = .ok (.aload_n 0, 1) := by decide +kernel
theorem d_W_law_719 : decode (jyc Y_W_law) 719 = .ok (.iload 4, 2) := by decide +kernel
theorem d_W_law_721 : decode (jyc Y_W_law) 721 = .ok (.iconst 2, 1) := by decide +kernel
theorem d_W_law_722 : decode (jyc Y_W_law) 722 = .ok (.iadd, 1) := by decide +kernel
theorem d_W_law_723 : decode (jyc Y_W_law) 723 = .ok (.iaload, 1) := by decide +kernel
theorem d_W_law_724 : decode (jyc Y_W_law) 724 = .ok (.invokevirtual 103, 3) := by decide +kernel
theorem d_W_law_727 : decode (jyc Y_W_law) 727 = .ok (.if_icmp .eq 569, 3) := by decide +kernel
theorem d_W_law_730 : decode (jyc Y_W_law) 730 = .ok (.iconst 0, 1) := by decide +kernel
theorem d_W_law_731 : decode (jyc Y_W_law) 731 = .ok (.ireturn, 1) := by decide +kernel
theorem d_W_law_732 : decode (jyc Y_W_law) 732 = .ok (.aload_n 1, 1) := by decide +kernel
theorem d_W_law_733 : decode (jyc Y_W_law) 733 = .ok (.aload_n 0, 1) := by decide +kernel
theorem d_W_law_734 : decode (jyc Y_W_law) 734 = .ok (.iload 4, 2) := by decide +kernel
theorem d_W_law_736 : decode (jyc Y_W_law) 736 = .ok (.iconst 1, 1) := by decide +kernel
theorem d_W_law_737 : decode (jyc Y_W_law) 737 = .ok (.iadd, 1) := by decide +kernel
theorem d_W_law_738 : decode (jyc Y_W_law) 738 = .ok (.iaload, 1) := by decide +kernel
theorem d_W_law_739 : decode (jyc Y_W_law) 739 = .ok (.aload_n 0, 1) := by decide +kernel
theorem d_W_law_740 : decode (jyc Y_W_law) 740 = .ok (.iload 4, 2) := by decide +kernel
theorem d_W_law_742 : decode (jyc Y_W_law) 742 = .ok (.iconst 2, 1) := by decide +kernel
theorem d_W_law_743 : decode (jyc Y_W_law) 743 = .ok (.iadd, 1) := by decide +kernel
theorem d_W_law_744 : decode (jyc Y_W_law) 744 = .ok (.iaload, 1) := by decide +kernel
theorem d_W_law_745 : decode (jyc Y_W_law) 745 = .ok (.invokevirtual 104, 3) := by decide +kernel
theorem d_W_law_748 : decode (jyc Y_W_law) 748 = .ok (.aload_n 2, 1) := by decide +kernel
theorem d_W_law_749 : decode (jyc Y_W_law) 749 = .ok (.aload_n 0, 1) := by decide +kernel
theorem d_W_law_750 : decode (jyc Y_W_law) 750 = .ok (.iload 4, 2) := by decide +kernel
theorem d_W_law_752 : decode (jyc Y_W_law) 752 = .ok (.iconst 1, 1) := by decide +kernel
theorem d_W_law_753 : decode (jyc Y_W_law) 753 = .ok (.iadd, 1) := by decide +kernel
theorem d_W_law_754 : decode (jyc Y_W_law) 754 = .ok (.iaload, 1) := by decide +kernel
theorem d_W_law_755 : decode (jyc Y_W_law) 755 = .ok (.aload_n 0, 1) := by decide +kernel
theorem d_W_law_756 : decode (jyc Y_W_law) 756 = .ok (.iload 4, 2) := by decide +kernel
theorem d_W_law_758 : decode (jyc Y_W_law) 758 = .ok (.iconst 2, 1) := by decide +kernel
theorem d_W_law_759 : decode (jyc Y_W_law) 759 = .ok (.iadd, 1) := by decide +kernel
theorem d_W_law_760 : decode (jyc Y_W_law) 760 = .ok (.iaload, 1) := by decide +kernel
theorem d_W_law_761 : decode (jyc Y_W_law) 761 = .ok (.invokevirtual 107, 3) := by decide +kernel
theorem d_W_law_764 : decode (jyc Y_W_law) 764 = .ok (.if_icmp .eq 532, 3) := by decide +kernel
theorem d_W_law_767 : decode (jyc Y_W_law) 767 = .ok (.iconst 0, 1) := by decide +kernel
theorem d_W_law_768 : decode (jyc Y_W_law) 768 = .ok (.ireturn, 1) := by decide +kernel
theorem d_W_law_769 : decode (jyc Y_W_law) 769 = .ok (.aload_n 1, 1) := by decide +kernel
theorem d_W_law_770 : decode (jyc Y_W_law) 770 = .ok (.aload_n 3, 1) := by decide +kernel
theorem d_W_law_771 : decode (jyc Y_W_law) 771 = .ok (.invokestatic 108, 3) := by decide +kernel
theorem d_W_law_774 : decode (jyc Y_W_law) 774 = .ok (.istore 5, 2) := by decide +kernel
theorem d_W_law_776 : decode (jyc Y_W_law) 776 = .ok (.aload_n 2, 1) := by decide +kernel
theorem d_W_law_777 : decode (jyc Y_W_law) 777 = .ok (.invokevirtual 111, 3) := by decide +kernel
theorem d_W_law_780 : decode (jyc Y_W_law) 780 = .ok (.istore 6, 2) := by decide +kernel
theorem d_W_law_782 : decode (jyc Y_W_law) 782 = .ok (.aload_n 2, 1) := by decide +kernel
theorem d_W_law_783 : decode (jyc Y_W_law) 783 = .ok (.invokevirtual 72, 3) := by decide +kernel
theorem d_W_law_786 : decode (jyc Y_W_law) 786 = .ok (.iload 5, 2) := by decide +kernel
theorem d_W_law_788 : decode (jyc Y_W_law) 788 = .ok (.if_icmp .eq 5, 3) := by decide +kernel
theorem d_W_law_791 : decode (jyc Y_W_law) 791 = .ok (.iconst 0, 1) := by decide +kernel
theorem d_W_law_792 : decode (jyc Y_W_law) 792 = .ok (.ireturn, 1) := by decide +kernel
theorem d_W_law_793 : decode (jyc Y_W_law) 793 = .ok (.iload 5, 2) := by decide +kernel
theorem d_W_law_795 : decode (jyc Y_W_law) 795 = .ok (.ifCond .ne 22, 3) := by decide +kernel
theorem d_W_law_798 : decode (jyc Y_W_law) 798 = .ok (.aload_n 3, 1) := by decide +kernel
theorem d_W_law_799 : decode (jyc Y_W_law) 799 = .ok (.iconst 0, 1) := by decide +kernel
theorem d_W_law_800 : decode (jyc Y_W_law) 800 = .ok (.laload, 1) := by decide +kernel
theorem d_W_law_801 : decode (jyc Y_W_law) 801 = .ok (.iload 6, 2) := by decide +kernel
theorem d_W_law_803 : decode (jyc Y_W_law) 803 = .ok (.ifCond .eq 7, 3) := by decide +kernel
theorem d_W_law_806 : decode (jyc Y_W_law) 806 = .ok (.lconst 1, 1) := by decide +kernel
theorem d_W_law_807 : decode (jyc Y_W_law) 807 = .ok (.goto 4, 3) := by decide +kernel
theorem d_W_law_810 : decode (jyc Y_W_law) 810 = .ok (.lconst 0, 1) := by decide +kernel
theorem d_W_law_811 : decode (jyc Y_W_law) 811 = .ok (.lcmp, 1) := by decide +kernel
theorem d_W_law_812 : decode (jyc Y_W_law) 812 = .ok (.ifCond .eq 5, 3) := by decide +kernel
theorem d_W_law_815 : decode (jyc Y_W_law) 815 = .ok (.iconst 0, 1) := by decide +kernel
theorem d_W_law_816 : decode (jyc Y_W_law) 816 = .ok (.ireturn, 1) := by decide +kernel
theorem d_W_law_817 : decode (jyc Y_W_law) 817 = .ok (.goto 479, 3) := by decide +kernel
theorem d_W_law_820 : decode (jyc Y_W_law) 820 = .ok (.aload_n 1, 1) := by decide +kernel
theorem d_W_law_821 : decode (jyc Y_W_law) 821 = .ok (.aload_n 0, 1) := by decide +kernel
theorem d_W_law_822 : decode (jyc Y_W_law) 822 = .ok (.iload 4, 2) := by decide +kernel
theorem d_W_law_824 : decode (jyc Y_W_law) 824 = .ok (.iconst 1, 1) := by decide +kernel
theorem d_W_law_825 : decode (jyc Y_W_law) 825 = .ok (.iadd, 1) := by decide +kernel
theorem d_W_law_826 : decode (jyc Y_W_law) 826 = .ok (.iaload, 1) := by decide +kernel
theorem d_W_law_827 : decode (jyc Y_W_law) 827 = .ok (.aload_n 0, 1) := by decide +kernel
theorem d_W_law_828 : decode (jyc Y_W_law) 828 = .ok (.iload 4, 2) := by decide +kernel
theorem d_W_law_830 : decode (jyc Y_W_law) 830 = .ok (.iconst 2, 1) := by decide +kernel
theorem d_W_law_831 : decode (jyc Y_W_law) 831 = .ok (.iadd, 1) := by decide +kernel
theorem d_W_law_832 : decode (jyc Y_W_law) 832 = .ok (.iaload, 1) := by decide +kernel
theorem d_W_law_833 : decode (jyc Y_W_law) 833 = .ok (.aload_n 3, 1) := by decide +kernel
theorem d_W_law_834 : decode (jyc Y_W_law) 834 = .ok (.invokestatic 112, 3) := by decide +kernel
theorem d_W_law_837 : decode (jyc Y_W_law) 837 = .ok (.istore 5, 2) := by decide +kernel
theorem d_W_law_839 : decode (jyc Y_W_law) 839 = .ok (.aload_n 2, 1) := by decide +kernel
theorem d_W_law_840 : decode (jyc Y_W_law) 840 = .ok (.aload_n 0, 1) := by decide +kernel
theorem d_W_law_841 : decode (jyc Y_W_law) 841 = .ok (.iload 4, 2) := by decide +kernel
theorem d_W_law_843 : decode (jyc Y_W_law) 843 = .ok (.iconst 1, 1) := by decide +kernel
theorem d_W_law_844 : decode (jyc Y_W_law) 844 = .ok (.iadd, 1) := by decide +kernel
theorem d_W_law_845 : decode (jyc Y_W_law) 845 = .ok (.iaload, 1) := by decide +kernel
theorem d_W_law_846 : decode (jyc Y_W_law) 846 = .ok (.aload_n 0, 1) := by decide +kernel
theorem d_W_law_847 : decode (jyc Y_W_law) 847 = .ok (.iload 4, 2) := by decide +kernel
theorem d_W_law_849 : decode (jyc Y_W_law) 849 = .ok (.iconst 2, 1) := by decide +kernel
theorem d_W_law_850 : decode (jyc Y_W_law) 850 = .ok (.iadd, 1) := by decide +kernel
theorem d_W_law_851 : decode (jyc Y_W_law) 851 = .ok (.iaload, 1) := by decide +kernel
theorem d_W_law_852 : decode (jyc Y_W_law) 852 = .ok (.invokevirtual 114, 3) := by decide +kernel
theorem d_W_law_855 : decode (jyc Y_W_law) 855 = .ok (.istore 6, 2) := by decide +kernel
theorem d_W_law_857 : decode (jyc Y_W_law) 857 = .ok (.aload_n 2, 1) := by decide +kernel
theorem d_W_law_858 : decode (jyc Y_W_law) 858 = .ok (.invokevirtual 72, 3) := by decide +kernel
theorem d_W_law_861 : decode (jyc Y_W_law) 861 = .ok (.iload 5, 2) := by decide +kernel
theorem d_W_law_863 : decode (jyc Y_W_law) 863 = .ok (.if_icmp .eq 5, 3) := by decide +kernel
theorem d_W_law_866 : decode (jyc Y_W_law) 866 = .ok (.iconst 0, 1) := by decide +kernel
theorem d_W_law_867 : decode (jyc Y_W_law) 867 = .ok (.ireturn, 1) := by decide +kernel
theorem d_W_law_868 : decode (jyc Y_W_law) 868 = .ok (.iload 5, 2) := by decide +kernel
theorem d_W_law_870 : decode (jyc Y_W_law) 870 = .ok (.ifCond .ne 15, 3) := by decide +kernel
theorem d_W_law_873 : decode (jyc Y_W_law) 873 = .ok (.aload_n 3, 1) := by decide +kernel
theorem d_W_law_874 : decode (jyc Y_W_law) 874 = .ok (.iconst 0, 1) := by decide +kernel
theorem d_W_law_875 : decode (jyc Y_W_law) 875 = .ok (.laload, 1) := by decide +kernel
theorem d_W_law_876 : decode (jyc Y_W_law) 876 = .ok (.iload 6, 2) := by decide +kernel
theorem d_W_law_878 : decode (jyc Y_W_law) 878 = .ok (.i2l, 1) := by decide +kernel
theorem d_W_law_879 : decode (jyc Y_W_law) 879 = .ok (.lcmp, 1) := by decide +kernel
theorem d_W_law_880 : decode (jyc Y_W_law) 880 = .ok (.ifCond .eq 5, 3) := by decide +kernel
theorem d_W_law_883 : decode (jyc Y_W_law) 883 = .ok (.iconst 0, 1) := by decide +kernel
theorem d_W_law_884 : decode (jyc Y_W_law) 884 = .ok (.ireturn, 1) := by decide +kernel
theorem d_W_law_885 : decode (jyc Y_W_law) 885 = .ok (.goto 411, 3) := by decide +kernel
theorem d_W_law_888 : decode (jyc Y_W_law) 888 = .ok (.aload_n 1, 1) := by decide +kernel
theorem d_W_law_889 : decode (jyc Y_W_law) 889 = .ok (.aload_n 0, 1) := by decide +kernel
theorem d_W_law_890 : decode (jyc Y_W_law) 890 = .ok (.iload 4, 2) := by decide +kernel
theorem d_W_law_892 : decode (jyc Y_W_law) 892 = .ok (.iconst 1, 1) := by decide +kernel
theorem d_W_law_893 : decode (jyc Y_W_law) 893 = .ok (.iadd, 1) := by decide +kernel
theorem d_W_law_894 : decode (jyc Y_W_law) 894 = .ok (.iaload, 1) := by decide +kernel
theorem d_W_law_895 : decode (jyc Y_W_law) 895 = .ok (.invokevirtual 115, 3) := by decide +kernel
theorem d_W_law_898 : decode (jyc Y_W_law) 898 = .ok (.aload_n 2, 1) := by decide +kernel
theorem d_W_law_899 : decode (jyc Y_W_law) 899 = .ok (.aload_n 0, 1) := by decide +kernel
theorem d_W_law_900 : decode (jyc Y_W_law) 900 = .ok (.iload 4, 2) := by decide +kernel
theorem d_W_law_902 : decode (jyc Y_W_law) 902 = .ok (.iconst 1, 1) := by decide +kernel
theorem d_W_law_903 : decode (jyc Y_W_law) 903 = .ok (.iadd, 1) := by decide +kernel
theorem d_W_law_904 : decode (jyc Y_W_law) 904 = .ok (.iaload, 1) := by decide +kernel
theorem d_W_law_905 : decode (jyc Y_W_law) 905 = .ok (.invokevirtual 118, 3) := by decide +kernel
theorem d_W_law_908 : decode (jyc Y_W_law) 908 = .ok (.if_icmp .eq 388, 3) := by decide +kernel
theorem d_W_law_911 : decode (jyc Y_W_law) 911 = .ok (.iconst 0, 1) := by decide +kernel
theorem d_W_law_912 : decode (jyc Y_W_law) 912 = .ok (.ireturn, 1) := by decide +kernel
theorem d_W_law_913 : decode (jyc Y_W_law) 913 = .ok (.aload_n 1, 1) := by decide +kernel
theorem d_W_law_914 : decode (jyc Y_W_law) 914 = .ok (.aload_n 0, 1) := by decide +kernel
theorem d_W_law_915 : decode (jyc Y_W_law) 915 = .ok (.iload 4, 2) := by decide +kernel
theorem d_W_law_917 : decode (jyc Y_W_law) 917 = .ok (.iconst 1, 1) := by decide +kernel
theorem d_W_law_918 : decode (jyc Y_W_law) 918 = .ok (.iadd, 1) := by decide +kernel
theorem d_W_law_919 : decode (jyc Y_W_law) 919 = .ok (.iaload, 1) := by decide +kernel
theorem d_W_law_920 : decode (jyc Y_W_law) 920 = .ok (.aload_n 0, 1) := by decide +kernel
theorem d_W_law_921 : decode (jyc Y_W_law) 921 = .ok (.iload 4, 2) := by decide +kernel
theorem d_W_law_923 : decode (jyc Y_W_law) 923 = .ok (.iconst 2, 1) := by decide +kernel
theorem d_W_law_924 : decode (jyc Y_W_law) 924 = .ok (.iadd, 1) := by decide +kernel
theorem d_W_law_925 : decode (jyc Y_W_law) 925 = .ok (.iaload, 1) := by decide +kernel
theorem d_W_law_926 : decode (jyc Y_W_law) 926 = .ok (.aload_n 3, 1) := by decide +kernel
theorem d_W_law_927 : decode (jyc Y_W_law) 927 = .ok (.invokestatic 119, 3) := by decide +kernel
theorem d_W_law_930 : decode (jyc Y_W_law) 930 = .ok (.istore 5, 2) := by decide +kernel
theorem d_W_law_932 : decode (jyc Y_W_law) 932 = .ok (.aload_n 2, 1) := by decide +kernel
theorem d_W_law_933 : decode (jyc Y_W_law) 933 = .ok (.aload_n 0, 1) := by decide +kernel
theorem d_W_law_934 : decode (jyc Y_W_law) 934 = .ok (.iload 4, 2) := by decide +kernel
theorem d_W_law_936 : decode (jyc Y_W_law) 936 = .ok (.iconst 1, 1) := by decide +kernel
theorem d_W_law_937 : decode (jyc Y_W_law) 937 = .ok (.iadd, 1) := by decide +kernel
theorem d_W_law_938 : decode (jyc Y_W_law) 938 = .ok (.iaload, 1) := by decide +kernel
theorem d_W_law_939 : decode (jyc Y_W_law) 939 = .ok (.aload_n 0, 1) := by decide +kernel
theorem d_W_law_940 : decode (jyc Y_W_law) 940 = .ok (.iload 4, 2) := by decide +kernel
theorem d_W_law_942 : decode (jyc Y_W_law) 942 = .ok (.iconst 2, 1) := by decide +kernel
theorem d_W_law_943 : decode (jyc Y_W_law) 943 = .ok (.iadd, 1) := by decide +kernel
theorem d_W_law_944 : decode (jyc Y_W_law) 944 = .ok (.iaload, 1) := by decide +kernel
theorem d_W_law_945 : decode (jyc Y_W_law) 945 = .ok (.invokevirtual 121, 3) := by decide +kernel
theorem d_W_law_948 : decode (jyc Y_W_law) 948 = .ok (.istore 6, 2) := by decide +kernel
theorem d_W_law_950 : decode (jyc Y_W_law) 950 = .ok (.aload_n 2, 1) := by decide +kernel
theorem d_W_law_951 : decode (jyc Y_W_law) 951 = .ok (.invokevirtual 72, 3) := by decide +kernel
theorem d_W_law_954 : decode (jyc Y_W_law) 954 = .ok (.iload 5, 2) := by decide +kernel
theorem d_W_law_956 : decode (jyc Y_W_law) 956 = .ok (.if_icmp .eq 5, 3) := by decide +kernel
theorem d_W_law_959 : decode (jyc Y_W_law) 959 = .ok (.iconst 0, 1) := by decide +kernel
theorem d_W_law_960 : decode (jyc Y_W_law) 960 = .ok (.ireturn, 1) := by decide +kernel
theorem d_W_law_961 : decode (jyc Y_W_law) 961 = .ok (.iload 5, 2) := by decide +kernel
theorem d_W_law_963 : decode (jyc Y_W_law) 963 = .ok (.ifCond .ne 15, 3) := by decide +kernel
theorem d_W_law_966 : decode (jyc Y_W_law) 966 = .ok (.aload_n 3, 1) := by decide +kernel
theorem d_W_law_967 : decode (jyc Y_W_law) 967 = .ok (.iconst 0, 1) := by decide +kernel
theorem d_W_law_968 : decode (jyc Y_W_law) 968 = .ok (.laload, 1) := by decide +kernel
theorem d_W_law_969 : decode (jyc Y_W_law) 969 = .ok (.iload 6, 2) := by decide +kernel
theorem d_W_law_971 : decode (jyc Y_W_law) 971 = .ok (.i2l, 1) := by decide +kernel
theorem d_W_law_972 : decode (jyc Y_W_law) 972 = .ok (.lcmp, 1) := by decide +kernel
theorem d_W_law_973 : decode (jyc Y_W_law) 973 = .ok (.ifCond .eq 5, 3) := by decide +kernel
theorem d_W_law_976 : decode (jyc Y_W_law) 976 = .ok (.iconst 0, 1) := by decide +kernel
theorem d_W_law_977 : decode (jyc Y_W_law) 977 = .ok (.ireturn, 1) := by decide +kernel
theorem d_W_law_978 : decode (jyc Y_W_law) 978 = .ok (.goto 318, 3) := by decide +kernel
theorem d_W_law_981 : decode (jyc Y_W_law) 981 = .ok (.aload_n 1, 1) := by decide +kernel
theorem d_W_law_982 : decode (jyc Y_W_law) 982 = .ok (.aload_n 0, 1) := by decide +kernel
theorem d_W_law_983 : decode (jyc Y_W_law) 983 = .ok (.iload 4, 2) := by decide +kernel
theorem d_W_law_985 : decode (jyc Y_W_law) 985 = .ok (.iconst 1, 1) := by decide +kernel
theorem d_W_law_986 : decode (jyc Y_W_law) 986 = .ok (.iadd, 1) := by decide +kernel
theorem d_W_law_987 : decode (jyc Y_W_law) 987 = .ok (.iaload, 1) := by decide +kernel
theorem d_W_law_988 : decode (jyc Y_W_law) 988 = .ok (.aload_n 3, 1) := by decide +kernel
theorem d_W_law_989 : decode (jyc Y_W_law) 989 = .ok (.invokestatic 122, 3) := by decide +kernel
theorem d_W_law_992 : decode (jyc Y_W_law) 992 = .ok (.istore 5, 2) := by decide +kernel
theorem d_W_law_994 : decode (jyc Y_W_law) 994 = .ok (.aload_n 2, 1) := by decide +kernel
theorem d_W_law_995 : decode (jyc Y_W_law) 995 = .ok (.aload_n 0, 1) := by decide +kernel
theorem d_W_law_996 : decode (jyc Y_W_law) 996 = .ok (.iload 4, 2) := by decide +kernel
theorem d_W_law_998 : decode (jyc Y_W_law) 998 = .ok (.iconst 1, 1) := by decide +kernel
theorem d_W_law_999 : decode (jyc Y_W_law) 999 = .ok (.iadd, 1) := by decide +kernel
theorem d_W_law_1000 : decode (jyc Y_W_law) 1000 = .ok (.iaload, 1) := by decide +kernel
theorem d_W_law_1001 : decode (jyc Y_W_law) 1001 = .ok (.invokevirtual 124, 3) := by decide +kernel
theorem d_W_law_1004 : decode (jyc Y_W_law) 1004 = .ok (.istore 6, 2) := by decide +kernel
theorem d_W_law_1006 : decode (jyc Y_W_law) 1006 = .ok (.aload_n 2, 1) := by decide +kernel
theorem d_W_law_1007 : decode (jyc Y_W_law) 1007 = .ok (.invokevirtual 72, 3) := by decide +kernel
theorem d_W_law_1010 : decode (jyc Y_W_law) 1010 = .ok (.iload 5, 2) := by decide +kernel
theorem d_W_law_1012 : decode (jyc Y_W_law) 1012 = .ok (.if_icmp .eq 5, 3) := by decide +kernel
theorem d_W_law_1015 : decode (jyc Y_W_law) 1015 = .ok (.iconst 0, 1) := by decide +kernel
theorem d_W_law_1016 : decode (jyc Y_W_law) 1016 = .ok (.ireturn, 1) := by decide +kernel
theorem d_W_law_1017 : decode (jyc Y_W_law) 1017 = .ok (.iload 5, 2) := by decide +kernel
theorem d_W_law_1019 : decode (jyc Y_W_law) 1019 = .ok (.ifCond .ne 15, 3) := by decide +kernel
theorem d_W_law_1022 : decode (jyc Y_W_law) 1022 = .ok (.aload_n 3, 1) := by decide +kernel
theorem d_W_law_1023 : decode (jyc Y_W_law) 1023 = .ok (.iconst 0, 1) := by decide +kernel
theorem d_W_law_1024 : decode (jyc Y_W_law) 1024 = .ok (.laload, 1) := by decide +kernel
theorem d_W_law_1025 : decode (jyc Y_W_law) 1025 = .ok (.iload 6, 2) := by decide +kernel
theorem d_W_law_1027 : decode (jyc Y_W_law) 1027 = .ok (.i2l, 1) := by decide +kernel
theorem d_W_law_1028 : decode (jyc Y_W_law) 1028 = .ok (.lcmp, 1) := by decide +kernel
theorem d_W_law_1029 : decode (jyc Y_W_law) 1029 = .ok (.ifCond .eq 5, 3) := by decide +kernel
theorem d_W_law_1032 : decode (jyc Y_W_law) 1032 = .ok (.iconst 0, 1) := by decide +kernel
theorem d_W_law_1033 : decode (jyc Y_W_law) 1033 = .ok (.ireturn, 1) := by decide +kernel
theorem d_W_law_1034 : decode (jyc Y_W_law) 1034 = .ok (.goto 262, 3) := by decide +kernel
theorem d_W_law_1037 : decode (jyc Y_W_law) 1037 = .ok (.aload_n 1, 1) := by decide +kernel
theorem d_W_law_1038 : decode (jyc Y_W_law) 1038 = .ok (.aload_n 0, 1) := by decide +kernel
theorem d_W_law_1039 : decode (jyc Y_W_law) 1039 = .ok (.iload 4, 2) := by decide +kernel
theorem d_W_law_1041 : decode (jyc Y_W_law) 1041 = .ok (.iconst 1, 1) := by decide +kernel
theorem d_W_law_1042 : decode (jyc Y_W_law) 1042 = .ok (.iadd, 1) := by decide +kernel
theorem d_W_law_1043 : decode (jyc Y_W_law) 1043 = .ok (.iaload, 1) := by decide +kernel
theorem d_W_law_1044 : decode (jyc Y_W_law) 1044 = .ok (.invokevirtual 125, 3) := by decide +kernel
theorem d_W_law_1047 : decode (jyc Y_W_law) 1047 = .ok (.aload_n 2, 1) := by decide +kernel
theorem d_W_law_1048 : decode (jyc Y_W_law) 1048 = .ok (.aload_n 0, 1) := by decide +kernel
theorem d_W_law_1049 : decode (jyc Y_W_law) 1049 = .ok (.iload 4, 2) := by decide +kernel
theorem d_W_law_1051 : decode (jyc Y_W_law) 1051 = .ok (.iconst 1, 1) := by decide +kernel
theorem d_W_law_1052 : decode (jyc Y_W_law) 1052 = .ok (.iadd, 1) := by decide +kernel
theorem d_W_law_1053 : decode (jyc Y_W_law) 1053 = .ok (.iaload, 1) := by decide +kernel
theorem d_W_law_1054 : decode (jyc Y_W_law) 1054 = .ok (.invokevirtual 128, 3) := by decide +kernel
theorem d_W_law_1057 : decode (jyc Y_W_law) 1057 = .ok (.if_icmp .eq 239, 3) := by decide +kernel
theorem d_W_law_1060 : decode (jyc Y_W_law) 1060 = .ok (.iconst 0, 1) := by decide +kernel
theorem d_W_law_1061 : decode (jyc Y_W_law) 1061 = .ok (.ireturn, 1) := by decide +kernel
theorem d_W_law_1062 : decode (jyc Y_W_law) 1062 = .ok (.aload_n 1, 1) := by decide +kernel
theorem d_W_law_1063 : decode (jyc Y_W_law) 1063 = .ok (.aload_n 0, 1) := by decide +kernel
theorem d_W_law_1064 : decode (jyc Y_W_law) 1064 = .ok (.iload 4, 2) := by decide +kernel
theorem d_W_law_1066 : decode (jyc Y_W_law) 1066 = .ok (.iconst 1, 1) := by decide +kernel
theorem d_W_law_1067 : decode (jyc Y_W_law) 1067 = .ok (.iadd, 1) := by decide +kernel
theorem d_W_law_1068 : decode (jyc Y_W_law) 1068 = .ok (.iaload, 1) := by decide +kernel
theorem d_W_law_1069 : decode (jyc Y_W_law) 1069 = .ok (.aload_n 0, 1) := by decide +kernel
theorem d_W_law_1070 : decode (jyc Y_W_law) 1070 = .ok (.iload 4, 2) := by decide +kernel
theorem d_W_law_1072 : decode (jyc Y_W_law) 1072 = .ok (.iconst 2, 1) := by decide +kernel
theorem d_W_law_1073 : decode (jyc Y_W_law) 1073 = .ok (.iadd, 1) := by decide +kernel
theorem d_W_law_1074 : decode (jyc Y_W_law) 1074 = .ok (.iaload, 1) := by decide +kernel
theorem d_W_law_1075 : decode (jyc Y_W_law) 1075 = .ok (.aload_n 0, 1) := by decide +kernel
theorem d_W_law_1076 : decode (jyc Y_W_law) 1076 = .ok (.iload 4, 2) := by decide +kernel
theorem d_W_law_1078 : decode (jyc Y_W_law) 1078 = .ok (.iconst 3, 1) := by decide +kernel
theorem d_W_law_1079 : decode (jyc Y_W_law) 1079 = .ok (.iadd, 1) := by decide +kernel
theorem d_W_law_1080 : decode (jyc Y_W_law) 1080 = .ok (.iaload, 1) := by decide +kernel
theorem d_W_law_1081 : decode (jyc Y_W_law) 1081 = .ok (.aload_n 3, 1) := by decide +kernel
theorem d_W_law_1082 : decode (jyc Y_W_law) 1082 = .ok (.invokestatic 129, 3) := by decide +kernel
theorem d_W_law_1085 : decode (jyc Y_W_law) 1085 = .ok (.istore 5, 2) := by decide +kernel
theorem d_W_law_1087 : decode (jyc Y_W_law) 1087 = .ok (.aload_n 2, 1) := by decide +kernel
theorem d_W_law_1088 : decode (jyc Y_W_law) 1088 = .ok (.aload_n 0, 1) := by decide +kernel
theorem d_W_law_1089 : decode (jyc Y_W_law) 1089 = .ok (.iload 4, 2) := by decide +kernel
theorem d_W_law_1091 : decode (jyc Y_W_law) 1091 = .ok (.iconst 1, 1) := by decide +kernel
theorem d_W_law_1092 : decode (jyc Y_W_law) 1092 = .ok (.iadd, 1) := by decide +kernel
theorem d_W_law_1093 : decode (jyc Y_W_law) 1093 = .ok (.iaload, 1) := by decide +kernel
theorem d_W_law_1094 : decode (jyc Y_W_law) 1094 = .ok (.aload_n 0, 1) := by decide +kernel
theorem d_W_law_1095 : decode (jyc Y_W_law) 1095 = .ok (.iload 4, 2) := by decide +kernel
theorem d_W_law_1097 : decode (jyc Y_W_law) 1097 = .ok (.iconst 2, 1) := by decide +kernel
theorem d_W_law_1098 : decode (jyc Y_W_law) 1098 = .ok (.iadd, 1) := by decide +kernel
theorem d_W_law_1099 : decode (jyc Y_W_law) 1099 = .ok (.iaload, 1) := by decide +kernel
theorem d_W_law_1100 : decode (jyc Y_W_law) 1100 = .ok (.aload_n 0, 1) := by decide +kernel
theorem d_W_law_1101 : decode (jyc Y_W_law) 1101 = .ok (.iload 4, 2) := by decide +kernel
theorem d_W_law_1103 : decode (jyc Y_W_law) 1103 = .ok (.iconst 3, 1) := by decide +kernel
theorem d_W_law_1104 : decode (jyc Y_W_law) 1104 = .ok (.iadd, 1) := by decide +kernel
theorem d_W_law_1105 : decode (jyc Y_W_law) 1105 = .ok (.iaload, 1) := by decide +kernel
theorem d_W_law_1106 : decode (jyc Y_W_law) 1106 = .ok (.invokevirtual 131, 3) := by decide +kernel
theorem d_W_law_1109 : decode (jyc Y_W_law) 1109 = .ok (.istore 6, 2) := by decide +kernel
theorem d_W_law_1111 : decode (jyc Y_W_law) 1111 = .ok (.aload_n 2, 1) := by decide +kernel
theorem d_W_law_1112 : decode (jyc Y_W_law) 1112 = .ok (.invokevirtual 72, 3) := by decide +kernel
theorem d_W_law_1115 : decode (jyc Y_W_law) 1115 = .ok (.iload 5, 2) := by decide +kernel
theorem d_W_law_1117 : decode (jyc Y_W_law) 1117 = .ok (.if_icmp .eq 5, 3) := by decide +kernel
theorem d_W_law_1120 : decode (jyc Y_W_law) 1120 = .ok (.iconst 0, 1) := by decide +kernel
theorem d_W_law_1121 : decode (jyc Y_W_law) 1121 = .ok (.ireturn, 1) := by decide +kernel
theorem d_W_law_1122 : decode (jyc Y_W_law) 1122 = .ok (.iload 5, 2) := by decide +kernel
theorem d_W_law_1124 : decode (jyc Y_W_law) 1124 = .ok (.ifCond .ne 15, 3) := by decide +kernel
theorem d_W_law_1127 : decode (jyc Y_W_law) 1127 = .ok (.aload_n 3, 1) := by decide +kernel
theorem d_W_law_1128 : decode (jyc Y_W_law) 1128 = .ok (.iconst 0, 1) := by decide +kernel
theorem d_W_law_1129 : decode (jyc Y_W_law) 1129 = .ok (.laload, 1) := by decide +kernel
theorem d_W_law_1130 : decode (jyc Y_W_law) 1130 = .ok (.iload 6, 2) := by decide +kernel
theorem d_W_law_1132 : decode (jyc Y_W_law) 1132 = .ok (.i2l, 1) := by decide +kernel
theorem d_W_law_1133 : decode (jyc Y_W_law) 1133 = .ok (.lcmp, 1) := by decide +kernel
theorem d_W_law_1134 : decode (jyc Y_W_law) 1134 = .ok (.ifCond .eq 5, 3) := by decide +kernel
theorem d_W_law_1137 : decode (jyc Y_W_law) 1137 = .ok (.iconst 0, 1) := by decide +kernel
theorem d_W_law_1138 : decode (jyc Y_W_law) 1138 = .ok (.ireturn, 1) := by decide +kernel
theorem d_W_law_1139 : decode (jyc Y_W_law) 1139 = .ok (.goto 157, 3) := by decide +kernel
theorem d_W_law_1142 : decode (jyc Y_W_law) 1142 = .ok (.aload_n 1, 1) := by decide +kernel
theorem d_W_law_1143 : decode (jyc Y_W_law) 1143 = .ok (.aload_n 0, 1) := by decide +kernel
theorem d_W_law_1144 : decode (jyc Y_W_law) 1144 = .ok (.iload 4, 2) := by decide +kernel
theorem d_W_law_1146 : decode (jyc Y_W_law) 1146 = .ok (.iconst 1, 1) := by decide +kernel
theorem d_W_law_1147 : decode (jyc Y_W_law) 1147 = .ok (.iadd, 1) := by decide +kernel
theorem d_W_law_1148 : decode (jyc Y_W_law) 1148 = .ok (.iaload, 1) := by decide +kernel
theorem d_W_law_1149 : decode (jyc Y_W_law) 1149 = .ok (.aload_n 0, 1) := by decide +kernel
theorem d_W_law_1150 : decode (jyc Y_W_law) 1150 = .ok (.iload 4, 2) := by decide +kernel
theorem d_W_law_1152 : decode (jyc Y_W_law) 1152 = .ok (.iconst 2, 1) := by decide +kernel
theorem d_W_law_1153 : decode (jyc Y_W_law) 1153 = .ok (.iadd, 1) := by decide +kernel
theorem d_W_law_1154 : decode (jyc Y_W_law) 1154 = .ok (.iaload, 1) := by decide +kernel
theorem d_W_law_1155 : decode (jyc Y_W_law) 1155 = .ok (.aload_n 0, 1) := by decide +kernel
theorem d_W_law_1156 : decode (jyc Y_W_law) 1156 = .ok (.iload 4, 2) := by decide +kernel
theorem d_W_law_1158 : decode (jyc Y_W_law) 1158 = .ok (.iconst 3, 1) := by decide +kernel
theorem d_W_law_1159 : decode (jyc Y_W_law) 1159 = .ok (.iadd, 1) := by decide +kernel
theorem d_W_law_1160 : decode (jyc Y_W_law) 1160 = .ok (.iaload, 1) := by decide +kernel
theorem d_W_law_1161 : decode (jyc Y_W_law) 1161 = .ok (.aload_n 0, 1) := by decide +kernel
theorem d_W_law_1162 : decode (jyc Y_W_law) 1162 = .ok (.iload 4, 2) := by decide +kernel
theorem d_W_law_1164 : decode (jyc Y_W_law) 1164 = .ok (.iconst 4, 1) := by decide +kernel
theorem d_W_law_1165 : decode (jyc Y_W_law) 1165 = .ok (.iadd, 1) := by decide +kernel
theorem d_W_law_1166 : decode (jyc Y_W_law) 1166 = .ok (.iaload, 1) := by decide +kernel
theorem d_W_law_1167 : decode (jyc Y_W_law) 1167 = .ok (.aload_n 3, 1) := by decide +kernel
theorem d_W_law_1168 : decode (jyc Y_W_law) 1168 = .ok (.invokestatic 132, 3) := by decide +kernel
theorem d_W_law_1171 : decode (jyc Y_W_law) 1171 = .ok (.istore 5, 2) := by decide +kernel
theorem d_W_law_1173 : decode (jyc Y_W_law) 1173 = .ok (.aload_n 2, 1) := by decide +kernel
theorem d_W_law_1174 : decode (jyc Y_W_law) 1174 = .ok (.aload_n 0, 1) := by decide +kernel
theorem d_W_law_1175 : decode (jyc Y_W_law) 1175 = .ok (.iload 4, 2) := by decide +kernel
theorem d_W_law_1177 : decode (jyc Y_W_law) 1177 = .ok (.iconst 1, 1) := by decide +kernel
theorem d_W_law_1178 : decode (jyc Y_W_law) 1178 = .ok (.iadd, 1) := by decide +kernel
theorem d_W_law_1179 : decode (jyc Y_W_law) 1179 = .ok (.iaload, 1) := by decide +kernel
theorem d_W_law_1180 : decode (jyc Y_W_law) 1180 = .ok (.aload_n 0, 1) := by decide +kernel
theorem d_W_law_1181 : decode (jyc Y_W_law) 1181 = .ok (.iload 4, 2) := by decide +kernel
theorem d_W_law_1183 : decode (jyc Y_W_law) 1183 = .ok (.iconst 2, 1) := by decide +kernel
theorem d_W_law_1184 : decode (jyc Y_W_law) 1184 = .ok (.iadd, 1) := by decide +kernel
theorem d_W_law_1185 : decode (jyc Y_W_law) 1185 = .ok (.iaload, 1) := by decide +kernel
theorem d_W_law_1186 : decode (jyc Y_W_law) 1186 = .ok (.aload_n 0, 1) := by decide +kernel
theorem d_W_law_1187 : decode (jyc Y_W_law) 1187 = .ok (.iload 4, 2) := by decide +kernel
theorem d_W_law_1189 : decode (jyc Y_W_law) 1189 = .ok (.iconst 3, 1) := by decide +kernel
theorem d_W_law_1190 : decode (jyc Y_W_law) 1190 = .ok (.iadd, 1) := by decide +kernel
theorem d_W_law_1191 : decode (jyc Y_W_law) 1191 = .ok (.iaload, 1) := by decide +kernel
theorem d_W_law_1192 : decode (jyc Y_W_law) 1192 = .ok (.aload_n 0, 1) := by decide +kernel
theorem d_W_law_1193 : decode (jyc Y_W_law) 1193 = .ok (.iload 4, 2) := by decide +kernel
theorem d_W_law_1195 : decode (jyc Y_W_law) 1195 = .ok (.iconst 4, 1) := by decide +kernel
theorem d_W_law_1196 : decode (jyc Y_W_law) 1196 = .ok (.iadd, 1) := by decide +kernel
theorem d_W_law_1197 : decode (jyc Y_W_law) 1197 = .ok (.iaload, 1) := by decide +kernel
theorem d_W_law_1198 : decode (jyc Y_W_law) 1198 = .ok (.invokevirtual 134, 3) := by decide +kernel
theorem d_W_law_1201 : decode (jyc Y_W_law) 1201 = .ok (.istore 6, 2) := by decide +kernel
theorem d_W_law_1203 : decode (jyc Y_W_law) 1203 = .ok (.aload_n 2, 1) := by decide +kernel
theorem d_W_law_1204 : decode (jyc Y_W_law) 1204 = .ok (.invokevirtual 72, 3) := by decide +kernel
theorem d_W_law_1207 : decode (jyc Y_W_law) 1207 = .ok (.iload 5, 2) := by decide +kernel
theorem d_W_law_1209 : decode (jyc Y_W_law) 1209 = .ok (.if_icmp .eq 5, 3) := by decide +kernel
theorem d_W_law_1212 : decode (jyc Y_W_law) 1212 = .ok (.iconst 0, 1) := by decide +kernel
theorem d_W_law_1213 : decode (jyc Y_W_law) 1213 = .ok (.ireturn, 1) := by decide +kernel
theorem d_W_law_1214 : decode (jyc Y_W_law) 1214 = .ok (.iload 5, 2) := by decide +kernel
theorem d_W_law_1216 : decode (jyc Y_W_law) 1216 = .ok (.ifCond .ne 15, 3) := by decide +kernel
theorem d_W_law_1219 : decode (jyc Y_W_law) 1219 = .ok (.aload_n 3, 1) := by decide +kernel
theorem d_W_law_1220 : decode (jyc Y_W_law) 1220 = .ok (.iconst 0, 1) := by decide +kernel
theorem d_W_law_1221 : decode (jyc Y_W_law) 1221 = .ok (.laload, 1) := by decide +kernel
theorem d_W_law_1222 : decode (jyc Y_W_law) 1222 = .ok (.iload 6, 2) := by decide +kernel
theorem d_W_law_1224 : decode (jyc Y_W_law) 1224 = .ok (.i2l, 1) := by decide +kernel
theorem d_W_law_1225 : decode (jyc Y_W_law) 1225 = .ok (.lcmp, 1) := by decide +kernel
theorem d_W_law_1226 : decode (jyc Y_W_law) 1226 = .ok (.ifCond .eq 5, 3) := by decide +kernel
theorem d_W_law_1229 : decode (jyc Y_W_law) 1229 = .ok (.iconst 0, 1) := by decide +kernel
theorem d_W_law_1230 : decode (jyc Y_W_law) 1230 = .ok (.ireturn, 1) := by decide +kernel
theorem d_W_law_1231 : decode (jyc Y_W_law) 1231 = .ok (.goto 65, 3) := by decide +kernel
theorem d_W_law_1234 : decode (jyc Y_W_law) 1234 = .ok (.aload_n 1, 1) := by decide +kernel
theorem d_W_law_1235 : decode (jyc Y_W_law) 1235 = .ok (.aload_n 0, 1) := by decide +kernel
theorem d_W_law_1236 : decode (jyc Y_W_law) 1236 = .ok (.iload 4, 2) := by decide +kernel
theorem d_W_law_1238 : decode (jyc Y_W_law) 1238 = .ok (.iconst 1, 1) := by decide +kernel
theorem d_W_law_1239 : decode (jyc Y_W_law) 1239 = .ok (.iadd, 1) := by decide +kernel
theorem d_W_law_1240 : decode (jyc Y_W_law) 1240 = .ok (.iaload, 1) := by decide +kernel
theorem d_W_law_1241 : decode (jyc Y_W_law) 1241 = .ok (.invokevirtual 135, 3) := by decide +kernel
theorem d_W_law_1244 : decode (jyc Y_W_law) 1244 = .ok (.aload_n 2, 1) := by decide +kernel
theorem d_W_law_1245 : decode (jyc Y_W_law) 1245 = .ok (.aload_n 0, 1) := by decide +kernel
theorem d_W_law_1246 : decode (jyc Y_W_law) 1246 = .ok (.iload 4, 2) := by decide +kernel
theorem d_W_law_1248 : decode (jyc Y_W_law) 1248 = .ok (.iconst 1, 1) := by decide +kernel
theorem d_W_law_1249 : decode (jyc Y_W_law) 1249 = .ok (.iadd, 1) := by decide +kernel
theorem d_W_law_1250 : decode (jyc Y_W_law) 1250 = .ok (.iaload, 1) := by decide +kernel
theorem d_W_law_1251 : decode (jyc Y_W_law) 1251 = .ok (.invokevirtual 138, 3) := by decide +kernel
theorem d_W_law_1254 : decode (jyc Y_W_law) 1254 = .ok (.if_icmp .eq 42, 3) := by decide +kernel
theorem d_W_law_1257 : decode (jyc Y_W_law) 1257 = .ok (.iconst 0, 1) := by decide +kernel
theorem d_W_law_1258 : decode (jyc Y_W_law) 1258 = .ok (.ireturn, 1) := by decide +kernel
theorem d_W_law_1259 : decode (jyc Y_W_law) 1259 = .ok (.aload_n 1, 1) := by decide +kernel
theorem d_W_law_1260 : decode (jyc Y_W_law) 1260 = .ok (.aload_n 0, 1) := by decide +kernel
theorem d_W_law_1261 : decode (jyc Y_W_law) 1261 = .ok (.iload 4, 2) := by decide +kernel
theorem d_W_law_1263 : decode (jyc Y_W_law) 1263 = .ok (.iconst 1, 1) := by decide +kernel
theorem d_W_law_1264 : decode (jyc Y_W_law) 1264 = .ok (.iadd, 1) := by decide +kernel
theorem d_W_law_1265 : decode (jyc Y_W_law) 1265 = .ok (.iaload, 1) := by decide +kernel
theorem d_W_law_1266 : decode (jyc Y_W_law) 1266 = .ok (.aload_n 0, 1) := by decide +kernel
theorem d_W_law_1267 : decode (jyc Y_W_law) 1267 = .ok (.iload 4, 2) := by decide +kernel
theorem d_W_law_1269 : decode (jyc Y_W_law) 1269 = .ok (.iconst 2, 1) := by decide +kernel
theorem d_W_law_1270 : decode (jyc Y_W_law) 1270 = .ok (.iadd, 1) := by decide +kernel
theorem d_W_law_1271 : decode (jyc Y_W_law) 1271 = .ok (.iaload, 1) := by decide +kernel
theorem d_W_law_1272 : decode (jyc Y_W_law) 1272 = .ok (.invokevirtual 139, 3) := by decide +kernel
theorem d_W_law_1275 : decode (jyc Y_W_law) 1275 = .ok (.aload_n 2, 1) := by decide +kernel
theorem d_W_law_1276 : decode (jyc Y_W_law) 1276 = .ok (.aload_n 0, 1) := by decide +kernel
theorem d_W_law_1277 : decode (jyc Y_W_law) 1277 = .ok (.iload 4, 2) := by decide +kernel
theorem d_W_law_1279 : decode (jyc Y_W_law) 1279 = .ok (.iconst 1, 1) := by decide +kernel
theorem d_W_law_1280 : decode (jyc Y_W_law) 1280 = .ok (.iadd, 1) := by decide +kernel
theorem d_W_law_1281 : decode (jyc Y_W_law) 1281 = .ok (.iaload, 1) := by decide +kernel
theorem d_W_law_1282 : decode (jyc Y_W_law) 1282 = .ok (.aload_n 0, 1) := by decide +kernel
theorem d_W_law_1283 : decode (jyc Y_W_law) 1283 = .ok (.iload 4, 2) := by decide +kernel
theorem d_W_law_1285 : decode (jyc Y_W_law) 1285 = .ok (.iconst 2, 1) := by decide +kernel
theorem d_W_law_1286 : decode (jyc Y_W_law) 1286 = .ok (.iadd, 1) := by decide +kernel
theorem d_W_law_1287 : decode (jyc Y_W_law) 1287 = .ok (.iaload, 1) := by decide +kernel
theorem d_W_law_1288 : decode (jyc Y_W_law) 1288 = .ok (.invokevirtual 142, 3) := by decide +kernel
theorem d_W_law_1291 : decode (jyc Y_W_law) 1291 = .ok (.if_icmp .eq 5, 3) := by decide +kernel
theorem d_W_law_1294 : decode (jyc Y_W_law) 1294 = .ok (.iconst 0, 1) := by decide +kernel
theorem d_W_law_1295 : decode (jyc Y_W_law) 1295 = .ok (.ireturn, 1) := by decide +kernel
theorem d_W_law_1296 : decode (jyc Y_W_law) 1296 = .ok (.iinc 4 6, 3) := by decide +kernel
theorem d_W_law_1299 : decode (jyc Y_W_law) 1299 = .ok (.goto (-1276), 3) := by decide +kernel
theorem d_W_law_1302 : decode (jyc Y_W_law) 1302 = .ok (.iconst 1, 1) := by decide +kernel
theorem d_W_law_1303 : decode (jyc Y_W_law) 1303 = .ok (.ireturn, 1) := by decide +kernel
