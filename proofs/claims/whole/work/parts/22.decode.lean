/-! what each instruction is, part 1 -/
theorem d_M_tag_37 : decode (jyc Y_M_tag) 37 = .ok (.aload_n 3, 1) := by decide +kernel
theorem d_M_tag_38 : decode (jyc Y_M_tag) 38 = .ok (.iload 4, 2) := by decide +kernel
theorem d_M_tag_40 : decode (jyc Y_M_tag) 40 = .ok (.iload 7, 2) := by decide +kernel
theorem d_M_tag_42 : decode (jyc Y_M_tag) 42 = .ok (.iadd, 1) := by decide +kernel
theorem d_M_tag_43 : decode (jyc Y_M_tag) 43 = .ok (.iaload, 1) := by decide +kernel
theorem d_M_tag_44 : decode (jyc Y_M_tag) 44 = .ok (.i2l, 1) := by decide +kernel
theorem d_M_tag_45 : decode (jyc Y_M_tag) 45 = .ok (.lmul, 1) := by decide +kernel
theorem d_M_tag_46 : decode (jyc Y_M_tag) 46 = .ok (.ladd, 1) := by decide +kernel
theorem d_M_tag_47 : decode (jyc Y_M_tag) 47 = .ok (.ldc2_w 67, 3) := by decide +kernel
theorem d_M_tag_50 : decode (jyc Y_M_tag) 50 = .ok (.lrem, 1) := by decide +kernel
theorem d_M_tag_51 : decode (jyc Y_M_tag) 51 = .ok (.lstore 5, 2) := by decide +kernel
theorem d_M_tag_53 : decode (jyc Y_M_tag) 53 = .ok (.iinc 7 1, 3) := by decide +kernel
theorem d_M_tag_56 : decode (jyc Y_M_tag) 56 = .ok (.goto (-38), 3) := by decide +kernel
theorem d_M_tag_59 : decode (jyc Y_M_tag) 59 = .ok (.lload 5, 2) := by decide +kernel
theorem d_M_tag_61 : decode (jyc Y_M_tag) 61 = .ok (.lreturn, 1) := by decide +kernel
theorem d_M_encode_0 : decode (jyc Y_M_encode) 0 = .ok (.iconst 0, 1) := by decide +kernel
theorem d_M_encode_1 : decode (jyc Y_M_encode) 1 = .ok (.istore_n 3, 1) := by decide +kernel
theorem d_M_encode_2 : decode (jyc Y_M_encode) 2 = .ok (.iload_n 3, 1) := by decide +kernel
theorem d_M_encode_3 : decode (jyc Y_M_encode) 3 = .ok (.aload_n 0, 1) := by decide +kernel
theorem d_M_encode_4 : decode (jyc Y_M_encode) 4 = .ok (.iload_n 1, 1) := by decide +kernel
theorem d_M_encode_5 : decode (jyc Y_M_encode) 5 = .ok (.invokevirtual 99, 3) := by decide +kernel
theorem d_M_encode_8 : decode (jyc Y_M_encode) 8 = .ok (.if_icmp .ge 174, 3) := by decide +kernel
theorem d_M_encode_11 : decode (jyc Y_M_encode) 11 = .ok (.iconst 5, 1) := by decide +kernel
theorem d_M_encode_12 : decode (jyc Y_M_encode) 12 = .ok (.bipush 24, 2) := by decide +kernel
theorem d_M_encode_14 : decode (jyc Y_M_encode) 14 = .ok (.iload_n 1, 1) := by decide +kernel
theorem d_M_encode_15 : decode (jyc Y_M_encode) 15 = .ok (.imul, 1) := by decide +kernel
theorem d_M_encode_16 : decode (jyc Y_M_encode) 16 = .ok (.iload_n 3, 1) := by decide +kernel
theorem d_M_encode_17 : decode (jyc Y_M_encode) 17 = .ok (.iadd, 1) := by decide +kernel
theorem d_M_encode_18 : decode (jyc Y_M_encode) 18 = .ok (.imul, 1) := by decide +kernel
theorem d_M_encode_19 : decode (jyc Y_M_encode) 19 = .ok (.istore 4, 2) := by decide +kernel
theorem d_M_encode_21 : decode (jyc Y_M_encode) 21 = .ok (.iload_n 3, 1) := by decide +kernel
theorem d_M_encode_22 : decode (jyc Y_M_encode) 22 = .ok (.bipush 6, 2) := by decide +kernel
theorem d_M_encode_24 : decode (jyc Y_M_encode) 24 = .ok (.idiv, 1) := by decide +kernel
theorem d_M_encode_25 : decode (jyc Y_M_encode) 25 = .ok (.istore 5, 2) := by decide +kernel
theorem d_M_encode_27 : decode (jyc Y_M_encode) 27 = .ok (.iload_n 3, 1) := by decide +kernel
theorem d_M_encode_28 : decode (jyc Y_M_encode) 28 = .ok (.bipush 6, 2) := by decide +kernel
theorem d_M_encode_30 : decode (jyc Y_M_encode) 30 = .ok (.irem, 1) := by decide +kernel
theorem d_M_encode_31 : decode (jyc Y_M_encode) 31 = .ok (.istore 6, 2) := by decide +kernel
theorem d_M_encode_33 : decode (jyc Y_M_encode) 33 = .ok (.iconst 0, 1) := by decide +kernel
theorem d_M_encode_34 : decode (jyc Y_M_encode) 34 = .ok (.istore 7, 2) := by decide +kernel
theorem d_M_encode_36 : decode (jyc Y_M_encode) 36 = .ok (.iload 7, 2) := by decide +kernel
theorem d_M_encode_38 : decode (jyc Y_M_encode) 38 = .ok (.iconst 4, 1) := by decide +kernel
theorem d_M_encode_39 : decode (jyc Y_M_encode) 39 = .ok (.if_icmp .ge 115, 3) := by decide +kernel
theorem d_M_encode_42 : decode (jyc Y_M_encode) 42 = .ok (.lconst 0, 1) := by decide +kernel
theorem d_M_encode_43 : decode (jyc Y_M_encode) 43 = .ok (.lstore 8, 2) := by decide +kernel
theorem d_M_encode_45 : decode (jyc Y_M_encode) 45 = .ok (.iconst 0, 1) := by decide +kernel
theorem d_M_encode_46 : decode (jyc Y_M_encode) 46 = .ok (.istore 10, 2) := by decide +kernel
theorem d_M_encode_48 : decode (jyc Y_M_encode) 48 = .ok (.iload 10, 2) := by decide +kernel
theorem d_M_encode_50 : decode (jyc Y_M_encode) 50 = .ok (.iconst 4, 1) := by decide +kernel
theorem d_M_encode_51 : decode (jyc Y_M_encode) 51 = .ok (.if_icmp .ge 50, 3) := by decide +kernel
theorem d_M_encode_54 : decode (jyc Y_M_encode) 54 = .ok (.iload 6, 2) := by decide +kernel
theorem d_M_encode_56 : decode (jyc Y_M_encode) 56 = .ok (.iconst 3, 1) := by decide +kernel
theorem d_M_encode_57 : decode (jyc Y_M_encode) 57 = .ok (.if_icmp .le 44, 3) := by decide +kernel
theorem d_M_encode_60 : decode (jyc Y_M_encode) 60 = .ok (.lload 8, 2) := by decide +kernel
theorem d_M_encode_62 : decode (jyc Y_M_encode) 62 = .ok (.aload_n 2, 1) := by decide +kernel
theorem d_M_encode_63 : decode (jyc Y_M_encode) 63 = .ok (.bipush 16, 2) := by decide +kernel
theorem d_M_encode_65 : decode (jyc Y_M_encode) 65 = .ok (.iload 5, 2) := by decide +kernel
theorem d_M_encode_67 : decode (jyc Y_M_encode) 67 = .ok (.imul, 1) := by decide +kernel
theorem d_M_encode_68 : decode (jyc Y_M_encode) 68 = .ok (.iconst 4, 1) := by decide +kernel
theorem d_M_encode_69 : decode (jyc Y_M_encode) 69 = .ok (.iload 10, 2) := by decide +kernel
theorem d_M_encode_71 : decode (jyc Y_M_encode) 71 = .ok (.imul, 1) := by decide +kernel
theorem d_M_encode_72 : decode (jyc Y_M_encode) 72 = .ok (.iadd, 1) := by decide +kernel
theorem d_M_encode_73 : decode (jyc Y_M_encode) 73 = .ok (.iload 7, 2) := by decide +kernel
theorem d_M_encode_75 : decode (jyc Y_M_encode) 75 = .ok (.iadd, 1) := by decide +kernel
theorem d_M_encode_76 : decode (jyc Y_M_encode) 76 = .ok (.iaload, 1) := by decide +kernel
theorem d_M_encode_77 : decode (jyc Y_M_encode) 77 = .ok (.i2l, 1) := by decide +kernel
theorem d_M_encode_78 : decode (jyc Y_M_encode) 78 = .ok (.iload 6, 2) := by decide +kernel
theorem d_M_encode_80 : decode (jyc Y_M_encode) 80 = .ok (.iload 10, 2) := by decide +kernel
theorem d_M_encode_82 : decode (jyc Y_M_encode) 82 = .ok (.isub, 1) := by decide +kernel
theorem d_M_encode_83 : decode (jyc Y_M_encode) 83 = .ok (.i2l, 1) := by decide +kernel
theorem d_M_encode_84 : decode (jyc Y_M_encode) 84 = .ok (.invokestatic 103, 3) := by decide +kernel
theorem d_M_encode_87 : decode (jyc Y_M_encode) 87 = .ok (.lmul, 1) := by decide +kernel
theorem d_M_encode_88 : decode (jyc Y_M_encode) 88 = .ok (.ladd, 1) := by decide +kernel
theorem d_M_encode_89 : decode (jyc Y_M_encode) 89 = .ok (.ldc2_w 67, 3) := by decide +kernel
theorem d_M_encode_92 : decode (jyc Y_M_encode) 92 = .ok (.lrem, 1) := by decide +kernel
theorem d_M_encode_93 : decode (jyc Y_M_encode) 93 = .ok (.lstore 8, 2) := by decide +kernel
theorem d_M_encode_95 : decode (jyc Y_M_encode) 95 = .ok (.iinc 10 1, 3) := by decide +kernel
theorem d_M_encode_98 : decode (jyc Y_M_encode) 98 = .ok (.goto (-50), 3) := by decide +kernel
theorem d_M_encode_101 : decode (jyc Y_M_encode) 101 = .ok (.aload_n 0, 1) := by decide +kernel
theorem d_M_encode_102 : decode (jyc Y_M_encode) 102 = .ok (.getfield 16, 3) := by decide +kernel
theorem d_M_encode_105 : decode (jyc Y_M_encode) 105 = .ok (.iload 4, 2) := by decide +kernel
theorem d_M_encode_107 : decode (jyc Y_M_encode) 107 = .ok (.iload 7, 2) := by decide +kernel
theorem d_M_encode_109 : decode (jyc Y_M_encode) 109 = .ok (.iadd, 1) := by decide +kernel
theorem d_M_encode_110 : decode (jyc Y_M_encode) 110 = .ok (.iload 6, 2) := by decide +kernel
theorem d_M_encode_112 : decode (jyc Y_M_encode) 112 = .ok (.iconst 4, 1) := by decide +kernel
theorem d_M_encode_113 : decode (jyc Y_M_encode) 113 = .ok (.if_icmp .ge 31, 3) := by decide +kernel
theorem d_M_encode_116 : decode (jyc Y_M_encode) 116 = .ok (.aload_n 2, 1) := by decide +kernel
theorem d_M_encode_117 : decode (jyc Y_M_encode) 117 = .ok (.bipush 16, 2) := by decide +kernel
theorem d_M_encode_119 : decode (jyc Y_M_encode) 119 = .ok (.iload 5, 2) := by decide +kernel
theorem d_M_encode_121 : decode (jyc Y_M_encode) 121 = .ok (.imul, 1) := by decide +kernel
theorem d_M_encode_122 : decode (jyc Y_M_encode) 122 = .ok (.iconst 4, 1) := by decide +kernel
theorem d_M_encode_123 : decode (jyc Y_M_encode) 123 = .ok (.iload 6, 2) := by decide +kernel
theorem d_M_encode_125 : decode (jyc Y_M_encode) 125 = .ok (.iconst 4, 1) := by decide +kernel
theorem d_M_encode_126 : decode (jyc Y_M_encode) 126 = .ok (.if_icmp .ge 8, 3) := by decide +kernel
theorem d_M_encode_129 : decode (jyc Y_M_encode) 129 = .ok (.iload 6, 2) := by decide +kernel
theorem d_M_encode_131 : decode (jyc Y_M_encode) 131 = .ok (.goto 4, 3) := by decide +kernel
theorem d_M_encode_134 : decode (jyc Y_M_encode) 134 = .ok (.iconst 0, 1) := by decide +kernel
theorem d_M_encode_135 : decode (jyc Y_M_encode) 135 = .ok (.imul, 1) := by decide +kernel
theorem d_M_encode_136 : decode (jyc Y_M_encode) 136 = .ok (.iadd, 1) := by decide +kernel
theorem d_M_encode_137 : decode (jyc Y_M_encode) 137 = .ok (.iload 7, 2) := by decide +kernel
theorem d_M_encode_139 : decode (jyc Y_M_encode) 139 = .ok (.iadd, 1) := by decide +kernel
theorem d_M_encode_140 : decode (jyc Y_M_encode) 140 = .ok (.iaload, 1) := by decide +kernel
theorem d_M_encode_141 : decode (jyc Y_M_encode) 141 = .ok (.goto 6, 3) := by decide +kernel
theorem d_M_encode_144 : decode (jyc Y_M_encode) 144 = .ok (.lload 8, 2) := by decide +kernel
theorem d_M_encode_146 : decode (jyc Y_M_encode) 146 = .ok (.l2i, 1) := by decide +kernel
theorem d_M_encode_147 : decode (jyc Y_M_encode) 147 = .ok (.iastore, 1) := by decide +kernel
theorem d_M_encode_148 : decode (jyc Y_M_encode) 148 = .ok (.iinc 7 1, 3) := by decide +kernel
theorem d_M_encode_151 : decode (jyc Y_M_encode) 151 = .ok (.goto (-115), 3) := by decide +kernel
theorem d_M_encode_154 : decode (jyc Y_M_encode) 154 = .ok (.aload_n 0, 1) := by decide +kernel
theorem d_M_encode_155 : decode (jyc Y_M_encode) 155 = .ok (.getfield 16, 3) := by decide +kernel
theorem d_M_encode_158 : decode (jyc Y_M_encode) 158 = .ok (.iload 4, 2) := by decide +kernel
theorem d_M_encode_160 : decode (jyc Y_M_encode) 160 = .ok (.iconst 4, 1) := by decide +kernel
theorem d_M_encode_161 : decode (jyc Y_M_encode) 161 = .ok (.iadd, 1) := by decide +kernel
theorem d_M_encode_162 : decode (jyc Y_M_encode) 162 = .ok (.aload_n 0, 1) := by decide +kernel
theorem d_M_encode_163 : decode (jyc Y_M_encode) 163 = .ok (.iload_n 1, 1) := by decide +kernel
theorem d_M_encode_164 : decode (jyc Y_M_encode) 164 = .ok (.iload_n 3, 1) := by decide +kernel
theorem d_M_encode_165 : decode (jyc Y_M_encode) 165 = .ok (.aload_n 0, 1) := by decide +kernel
theorem d_M_encode_166 : decode (jyc Y_M_encode) 166 = .ok (.getfield 16, 3) := by decide +kernel
theorem d_M_encode_169 : decode (jyc Y_M_encode) 169 = .ok (.iload 4, 2) := by decide +kernel
theorem d_M_encode_171 : decode (jyc Y_M_encode) 171 = .ok (.invokevirtual 107, 3) := by decide +kernel
theorem d_M_encode_174 : decode (jyc Y_M_encode) 174 = .ok (.l2i, 1) := by decide +kernel
theorem d_M_encode_175 : decode (jyc Y_M_encode) 175 = .ok (.iastore, 1) := by decide +kernel
theorem d_M_encode_176 : decode (jyc Y_M_encode) 176 = .ok (.iinc 3 1, 3) := by decide +kernel
theorem d_M_encode_179 : decode (jyc Y_M_encode) 179 = .ok (.goto (-177), 3) := by decide +kernel
theorem d_M_encode_182 : decode (jyc Y_M_encode) 182 = .ok (.return_, 1) := by decide +kernel
theorem d_M_file_0 : decode (jyc Y_M_file) 0 = .ok (.aload_n 0, 1) := by decide +kernel
theorem d_M_file_1 : decode (jyc Y_M_file) 1 = .ok (.iload_n 1, 1) := by decide +kernel
theorem d_M_file_2 : decode (jyc Y_M_file) 2 = .ok (.iconst 1, 1) := by decide +kernel
theorem d_M_file_3 : decode (jyc Y_M_file) 3 = .ok (.if_icmp .lt 9, 3) := by decide +kernel
theorem d_M_file_6 : decode (jyc Y_M_file) 6 = .ok (.iload_n 1, 1) := by decide +kernel
theorem d_M_file_7 : decode (jyc Y_M_file) 7 = .ok (.bipush 64, 2) := by decide +kernel
theorem d_M_file_9 : decode (jyc Y_M_file) 9 = .ok (.if_icmp .le 7, 3) := by decide +kernel
theorem d_M_file_12 : decode (jyc Y_M_file) 12 = .ok (.iconst 1, 1) := by decide +kernel
theorem d_M_file_13 : decode (jyc Y_M_file) 13 = .ok (.goto 16, 3) := by decide +kernel
theorem d_M_file_16 : decode (jyc Y_M_file) 16 = .ok (.aload_n 0, 1) := by decide +kernel
theorem d_M_file_17 : decode (jyc Y_M_file) 17 = .ok (.getfield 88, 3) := by decide +kernel
theorem d_M_file_20 : decode (jyc Y_M_file) 20 = .ok (.iconst 3, 1) := by decide +kernel
theorem d_M_file_21 : decode (jyc Y_M_file) 21 = .ok (.if_icmp .ne 7, 3) := by decide +kernel
theorem d_M_file_24 : decode (jyc Y_M_file) 24 = .ok (.iconst 2, 1) := by decide +kernel
theorem d_M_file_25 : decode (jyc Y_M_file) 25 = .ok (.goto 4, 3) := by decide +kernel
theorem d_M_file_28 : decode (jyc Y_M_file) 28 = .ok (.iconst 0, 1) := by decide +kernel
theorem d_M_file_29 : decode (jyc Y_M_file) 29 = .ok (.putfield 63, 3) := by decide +kernel
theorem d_M_file_32 : decode (jyc Y_M_file) 32 = .ok (.aload_n 0, 1) := by decide +kernel
theorem d_M_file_33 : decode (jyc Y_M_file) 33 = .ok (.getfield 63, 3) := by decide +kernel
theorem d_M_file_36 : decode (jyc Y_M_file) 36 = .ok (.ifCond .le 5, 3) := by decide +kernel
theorem d_M_file_39 : decode (jyc Y_M_file) 39 = .ok (.iconst 0, 1) := by decide +kernel
theorem d_M_file_40 : decode (jyc Y_M_file) 40 = .ok (.ireturn, 1) := by decide +kernel
theorem d_M_file_41 : decode (jyc Y_M_file) 41 = .ok (.aload_n 0, 1) := by decide +kernel
theorem d_M_file_42 : decode (jyc Y_M_file) 42 = .ok (.getfield 13, 3) := by decide +kernel
theorem d_M_file_45 : decode (jyc Y_M_file) 45 = .ok (.aload_n 0, 1) := by decide +kernel
theorem d_M_file_46 : decode (jyc Y_M_file) 46 = .ok (.getfield 88, 3) := by decide +kernel
theorem d_M_file_49 : decode (jyc Y_M_file) 49 = .ok (.iload_n 1, 1) := by decide +kernel
theorem d_M_file_50 : decode (jyc Y_M_file) 50 = .ok (.iastore, 1) := by decide +kernel
theorem d_M_file_51 : decode (jyc Y_M_file) 51 = .ok (.iconst 0, 1) := by decide +kernel
theorem d_M_file_52 : decode (jyc Y_M_file) 52 = .ok (.istore_n 2, 1) := by decide +kernel
theorem d_M_file_53 : decode (jyc Y_M_file) 53 = .ok (.iload_n 2, 1) := by decide +kernel
theorem d_M_file_54 : decode (jyc Y_M_file) 54 = .ok (.bipush 64, 2) := by decide +kernel
theorem d_M_file_56 : decode (jyc Y_M_file) 56 = .ok (.if_icmp .ge 30, 3) := by decide +kernel
theorem d_M_file_59 : decode (jyc Y_M_file) 59 = .ok (.aload_n 0, 1) := by decide +kernel
theorem d_M_file_60 : decode (jyc Y_M_file) 60 = .ok (.getfield 53, 3) := by decide +kernel
theorem d_M_file_63 : decode (jyc Y_M_file) 63 = .ok (.iload_n 2, 1) := by decide +kernel
theorem d_M_file_64 : decode (jyc Y_M_file) 64 = .ok (.iload_n 2, 1) := by decide +kernel
theorem d_M_file_65 : decode (jyc Y_M_file) 65 = .ok (.iload_n 1, 1) := by decide +kernel
theorem d_M_file_66 : decode (jyc Y_M_file) 66 = .ok (.if_icmp .ge 12, 3) := by decide +kernel
theorem d_M_file_69 : decode (jyc Y_M_file) 69 = .ok (.aload_n 0, 1) := by decide +kernel
theorem d_M_file_70 : decode (jyc Y_M_file) 70 = .ok (.getfield 7, 3) := by decide +kernel
theorem d_M_file_73 : decode (jyc Y_M_file) 73 = .ok (.iload_n 2, 1) := by decide +kernel
theorem d_M_file_74 : decode (jyc Y_M_file) 74 = .ok (.iaload, 1) := by decide +kernel
theorem d_M_file_75 : decode (jyc Y_M_file) 75 = .ok (.goto 4, 3) := by decide +kernel
theorem d_M_file_78 : decode (jyc Y_M_file) 78 = .ok (.iconst 0, 1) := by decide +kernel
theorem d_M_file_79 : decode (jyc Y_M_file) 79 = .ok (.iastore, 1) := by decide +kernel
theorem d_M_file_80 : decode (jyc Y_M_file) 80 = .ok (.iinc 2 1, 3) := by decide +kernel
theorem d_M_file_83 : decode (jyc Y_M_file) 83 = .ok (.goto (-30), 3) := by decide +kernel
theorem d_M_file_86 : decode (jyc Y_M_file) 86 = .ok (.aload_n 0, 1) := by decide +kernel
theorem d_M_file_87 : decode (jyc Y_M_file) 87 = .ok (.dup, 1) := by decide +kernel
theorem d_M_file_88 : decode (jyc Y_M_file) 88 = .ok (.getfield 88, 3) := by decide +kernel
theorem d_M_file_91 : decode (jyc Y_M_file) 91 = .ok (.iconst 1, 1) := by decide +kernel
theorem d_M_file_92 : decode (jyc Y_M_file) 92 = .ok (.iadd, 1) := by decide +kernel
theorem d_M_file_93 : decode (jyc Y_M_file) 93 = .ok (.putfield 88, 3) := by decide +kernel
theorem d_M_file_96 : decode (jyc Y_M_file) 96 = .ok (.aload_n 0, 1) := by decide +kernel
theorem d_M_file_97 : decode (jyc Y_M_file) 97 = .ok (.aload_n 0, 1) := by decide +kernel
theorem d_M_file_98 : decode (jyc Y_M_file) 98 = .ok (.getfield 88, 3) := by decide +kernel
theorem d_M_file_101 : decode (jyc Y_M_file) 101 = .ok (.iconst 1, 1) := by decide +kernel
theorem d_M_file_102 : decode (jyc Y_M_file) 102 = .ok (.isub, 1) := by decide +kernel
theorem d_M_file_103 : decode (jyc Y_M_file) 103 = .ok (.aload_n 0, 1) := by decide +kernel
theorem d_M_file_104 : decode (jyc Y_M_file) 104 = .ok (.getfield 53, 3) := by decide +kernel
theorem d_M_file_107 : decode (jyc Y_M_file) 107 = .ok (.invokevirtual 111, 3) := by decide +kernel
theorem d_M_file_110 : decode (jyc Y_M_file) 110 = .ok (.aload_n 0, 1) := by decide +kernel
theorem d_M_file_111 : decode (jyc Y_M_file) 111 = .ok (.getfield 88, 3) := by decide +kernel
theorem d_M_file_114 : decode (jyc Y_M_file) 114 = .ok (.iconst 1, 1) := by decide +kernel
theorem d_M_file_115 : decode (jyc Y_M_file) 115 = .ok (.isub, 1) := by decide +kernel
theorem d_M_file_116 : decode (jyc Y_M_file) 116 = .ok (.ireturn, 1) := by decide +kernel
theorem d_M_isFile_0 : decode (jyc Y_M_isFile) 0 = .ok (.iload_n 1, 1) := by decide +kernel
theorem d_M_isFile_1 : decode (jyc Y_M_isFile) 1 = .ok (.ifCond .lt 15, 3) := by decide +kernel
theorem d_M_isFile_4 : decode (jyc Y_M_isFile) 4 = .ok (.iload_n 1, 1) := by decide +kernel
theorem d_M_isFile_5 : decode (jyc Y_M_isFile) 5 = .ok (.aload_n 0, 1) := by decide +kernel
theorem d_M_isFile_6 : decode (jyc Y_M_isFile) 6 = .ok (.getfield 88, 3) := by decide +kernel
theorem d_M_isFile_9 : decode (jyc Y_M_isFile) 9 = .ok (.if_icmp .ge 7, 3) := by decide +kernel
theorem d_M_isFile_12 : decode (jyc Y_M_isFile) 12 = .ok (.iconst 1, 1) := by decide +kernel
theorem d_M_isFile_13 : decode (jyc Y_M_isFile) 13 = .ok (.goto 4, 3) := by decide +kernel
theorem d_M_isFile_16 : decode (jyc Y_M_isFile) 16 = .ok (.iconst 0, 1) := by decide +kernel
theorem d_M_isFile_17 : decode (jyc Y_M_isFile) 17 = .ok (.ireturn, 1) := by decide +kernel
theorem d_M_isKeeper_0 : decode (jyc Y_M_isKeeper) 0 = .ok (.iload_n 0, 1) := by decide +kernel
theorem d_M_isKeeper_1 : decode (jyc Y_M_isKeeper) 1 = .ok (.ifCond .lt 12, 3) := by decide +kernel
theorem d_M_isKeeper_4 : decode (jyc Y_M_isKeeper) 4 = .ok (.iload_n 0, 1) := by decide +kernel
theorem d_M_isKeeper_5 : decode (jyc Y_M_isKeeper) 5 = .ok (.iconst 4, 1) := by decide +kernel
theorem d_M_isKeeper_6 : decode (jyc Y_M_isKeeper) 6 = .ok (.if_icmp .ge 7, 3) := by decide +kernel
theorem d_M_isKeeper_9 : decode (jyc Y_M_isKeeper) 9 = .ok (.iconst 1, 1) := by decide +kernel
theorem d_M_isKeeper_10 : decode (jyc Y_M_isKeeper) 10 = .ok (.goto 4, 3) := by decide +kernel
theorem d_M_isKeeper_13 : decode (jyc Y_M_isKeeper) 13 = .ok (.iconst 0, 1) := by decide +kernel
theorem d_M_isKeeper_14 : decode (jyc Y_M_isKeeper) 14 = .ok (.ireturn, 1) := by decide +kernel
theorem d_M_holds_0 : decode (jyc Y_M_holds) 0 = .ok (.iload_n 1, 1) := by decide +kernel
theorem d_M_holds_1 : decode (jyc Y_M_holds) 1 = .ok (.invokestatic 115, 3) := by decide +kernel
theorem d_M_holds_4 : decode (jyc Y_M_holds) 4 = .ok (.ifCond .eq 47, 3) := by decide +kernel
theorem d_M_holds_7 : decode (jyc Y_M_holds) 7 = .ok (.aload_n 0, 1) := by decide +kernel
theorem d_M_holds_8 : decode (jyc Y_M_holds) 8 = .ok (.iload_n 2, 1) := by decide +kernel
theorem d_M_holds_9 : decode (jyc Y_M_holds) 9 = .ok (.invokevirtual 118, 3) := by decide +kernel
theorem d_M_holds_12 : decode (jyc Y_M_holds) 12 = .ok (.ifCond .eq 39, 3) := by decide +kernel
theorem d_M_holds_15 : decode (jyc Y_M_holds) 15 = .ok (.aload_n 0, 1) := by decide +kernel
theorem d_M_holds_16 : decode (jyc Y_M_holds) 16 = .ok (.getfield 19, 3) := by decide +kernel
theorem d_M_holds_19 : decode (jyc Y_M_holds) 19 = .ok (.iload_n 1, 1) := by decide +kernel
theorem d_M_holds_20 : decode (jyc Y_M_holds) 20 = .ok (.invokestatic 115, 3) := by decide +kernel
theorem d_M_holds_23 : decode (jyc Y_M_holds) 23 = .ok (.ifCond .eq 19, 3) := by decide +kernel
theorem d_M_holds_26 : decode (jyc Y_M_holds) 26 = .ok (.aload_n 0, 1) := by decide +kernel
theorem d_M_holds_27 : decode (jyc Y_M_holds) 27 = .ok (.iload_n 2, 1) := by decide +kernel
theorem d_M_holds_28 : decode (jyc Y_M_holds) 28 = .ok (.invokevirtual 118, 3) := by decide +kernel
theorem d_M_holds_31 : decode (jyc Y_M_holds) 31 = .ok (.ifCond .eq 11, 3) := by decide +kernel
theorem d_M_holds_34 : decode (jyc Y_M_holds) 34 = .ok (.iconst 3, 1) := by decide +kernel
theorem d_M_holds_35 : decode (jyc Y_M_holds) 35 = .ok (.iload_n 1, 1) := by decide +kernel
theorem d_M_holds_36 : decode (jyc Y_M_holds) 36 = .ok (.imul, 1) := by decide +kernel
theorem d_M_holds_37 : decode (jyc Y_M_holds) 37 = .ok (.iload_n 2, 1) := by decide +kernel
theorem d_M_holds_38 : decode (jyc Y_M_holds) 38 = .ok (.iadd, 1) := by decide +kernel
theorem d_M_holds_39 : decode (jyc Y_M_holds) 39 = .ok (.goto 4, 3) := by decide +kernel
theorem d_M_holds_42 : decode (jyc Y_M_holds) 42 = .ok (.iconst 0, 1) := by decide +kernel
theorem d_M_holds_43 : decode (jyc Y_M_holds) 43 = .ok (.baload, 1) := by decide +kernel
theorem d_M_holds_44 : decode (jyc Y_M_holds) 44 = .ok (.ifCond .eq 7, 3) := by decide +kernel
theorem d_M_holds_47 : decode (jyc Y_M_holds) 47 = .ok (.iconst 1, 1) := by decide +kernel
theorem d_M_holds_48 : decode (jyc Y_M_holds) 48 = .ok (.goto 4, 3) := by decide +kernel
theorem d_M_holds_51 : decode (jyc Y_M_holds) 51 = .ok (.iconst 0, 1) := by decide +kernel
theorem d_M_holds_52 : decode (jyc Y_M_holds) 52 = .ok (.ireturn, 1) := by decide +kernel
theorem d_M_spot_0 : decode (jyc Y_M_spot) 0 = .ok (.sipush 360, 3) := by decide +kernel
theorem d_M_spot_3 : decode (jyc Y_M_spot) 3 = .ok (.iload_n 0, 1) := by decide +kernel
theorem d_M_spot_4 : decode (jyc Y_M_spot) 4 = .ok (.imul, 1) := by decide +kernel
theorem d_M_spot_5 : decode (jyc Y_M_spot) 5 = .ok (.iconst 5, 1) := by decide +kernel
theorem d_M_spot_6 : decode (jyc Y_M_spot) 6 = .ok (.bipush 24, 2) := by decide +kernel
theorem d_M_spot_8 : decode (jyc Y_M_spot) 8 = .ok (.iload_n 1, 1) := by decide +kernel
theorem d_M_spot_9 : decode (jyc Y_M_spot) 9 = .ok (.imul, 1) := by decide +kernel
theorem d_M_spot_10 : decode (jyc Y_M_spot) 10 = .ok (.iload_n 2, 1) := by decide +kernel
theorem d_M_spot_11 : decode (jyc Y_M_spot) 11 = .ok (.iadd, 1) := by decide +kernel
theorem d_M_spot_12 : decode (jyc Y_M_spot) 12 = .ok (.imul, 1) := by decide +kernel
theorem d_M_spot_13 : decode (jyc Y_M_spot) 13 = .ok (.iadd, 1) := by decide +kernel
theorem d_M_spot_14 : decode (jyc Y_M_spot) 14 = .ok (.ireturn, 1) := by decide +kernel
theorem d_M_mark_0 : decode (jyc Y_M_mark) 0 = .ok (.bipush 72, 2) := by decide +kernel
theorem d_M_mark_2 : decode (jyc Y_M_mark) 2 = .ok (.iload_n 0, 1) := by decide +kernel
theorem d_M_mark_3 : decode (jyc Y_M_mark) 3 = .ok (.imul, 1) := by decide +kernel
theorem d_M_mark_4 : decode (jyc Y_M_mark) 4 = .ok (.bipush 24, 2) := by decide +kernel
theorem d_M_mark_6 : decode (jyc Y_M_mark) 6 = .ok (.iload_n 1, 1) := by decide +kernel
theorem d_M_mark_7 : decode (jyc Y_M_mark) 7 = .ok (.imul, 1) := by decide +kernel
theorem d_M_mark_8 : decode (jyc Y_M_mark) 8 = .ok (.iadd, 1) := by decide +kernel
theorem d_M_mark_9 : decode (jyc Y_M_mark) 9 = .ok (.iload_n 2, 1) := by decide +kernel
theorem d_M_mark_10 : decode (jyc Y_M_mark) 10 = .ok (.iadd, 1) := by decide +kernel
theorem d_M_mark_11 : decode (jyc Y_M_mark) 11 = .ok (.ireturn, 1) := by decide +kernel
theorem d_M_place_0 : decode (jyc Y_M_place) 0 = .ok (.aload_n 0, 1) := by decide +kernel
theorem d_M_place_1 : decode (jyc Y_M_place) 1 = .ok (.aload_n 0, 1) := by decide +kernel
theorem d_M_place_2 : decode (jyc Y_M_place) 2 = .ok (.iload_n 1, 1) := by decide +kernel
theorem d_M_place_3 : decode (jyc Y_M_place) 3 = .ok (.invokevirtual 118, 3) := by decide +kernel
theorem d_M_place_6 : decode (jyc Y_M_place) 6 = .ok (.ifCond .eq 14, 3) := by decide +kernel
theorem d_M_place_9 : decode (jyc Y_M_place) 9 = .ok (.iload_n 2, 1) := by decide +kernel
theorem d_M_place_10 : decode (jyc Y_M_place) 10 = .ok (.invokestatic 115, 3) := by decide +kernel
theorem d_M_place_13 : decode (jyc Y_M_place) 13 = .ok (.ifCond .eq 7, 3) := by decide +kernel
theorem d_M_place_16 : decode (jyc Y_M_place) 16 = .ok (.iconst 0, 1) := by decide +kernel
theorem d_M_place_17 : decode (jyc Y_M_place) 17 = .ok (.goto 4, 3) := by decide +kernel
theorem d_M_place_20 : decode (jyc Y_M_place) 20 = .ok (.iconst 1, 1) := by decide +kernel
theorem d_M_place_21 : decode (jyc Y_M_place) 21 = .ok (.putfield 63, 3) := by decide +kernel
theorem d_M_place_24 : decode (jyc Y_M_place) 24 = .ok (.aload_n 0, 1) := by decide +kernel
theorem d_M_place_25 : decode (jyc Y_M_place) 25 = .ok (.getfield 63, 3) := by decide +kernel
theorem d_M_place_28 : decode (jyc Y_M_place) 28 = .ok (.ifCond .le 5, 3) := by decide +kernel
theorem d_M_place_31 : decode (jyc Y_M_place) 31 = .ok (.iconst 0, 1) := by decide +kernel
theorem d_M_place_32 : decode (jyc Y_M_place) 32 = .ok (.ireturn, 1) := by decide +kernel
theorem d_M_place_33 : decode (jyc Y_M_place) 33 = .ok (.aload_n 0, 1) := by decide +kernel
theorem d_M_place_34 : decode (jyc Y_M_place) 34 = .ok (.getfield 19, 3) := by decide +kernel
theorem d_M_place_37 : decode (jyc Y_M_place) 37 = .ok (.iconst 3, 1) := by decide +kernel
theorem d_M_place_38 : decode (jyc Y_M_place) 38 = .ok (.iload_n 2, 1) := by decide +kernel
theorem d_M_place_39 : decode (jyc Y_M_place) 39 = .ok (.imul, 1) := by decide +kernel
theorem d_M_place_40 : decode (jyc Y_M_place) 40 = .ok (.iload_n 1, 1) := by decide +kernel
theorem d_M_place_41 : decode (jyc Y_M_place) 41 = .ok (.iadd, 1) := by decide +kernel
theorem d_M_place_42 : decode (jyc Y_M_place) 42 = .ok (.baload, 1) := by decide +kernel
theorem d_M_place_43 : decode (jyc Y_M_place) 43 = .ok (.ifCond .eq 5, 3) := by decide +kernel
theorem d_M_place_46 : decode (jyc Y_M_place) 46 = .ok (.iconst 0, 1) := by decide +kernel
theorem d_M_place_47 : decode (jyc Y_M_place) 47 = .ok (.ireturn, 1) := by decide +kernel
theorem d_M_place_48 : decode (jyc Y_M_place) 48 = .ok (.aload_n 0, 1) := by decide +kernel
theorem d_M_place_49 : decode (jyc Y_M_place) 49 = .ok (.getfield 19, 3) := by decide +kernel
theorem d_M_place_52 : decode (jyc Y_M_place) 52 = .ok (.iconst 3, 1) := by decide +kernel
theorem d_M_place_53 : decode (jyc Y_M_place) 53 = .ok (.iload_n 2, 1) := by decide +kernel
theorem d_M_place_54 : decode (jyc Y_M_place) 54 = .ok (.imul, 1) := by decide +kernel
theorem d_M_place_55 : decode (jyc Y_M_place) 55 = .ok (.iload_n 1, 1) := by decide +kernel
theorem d_M_place_56 : decode (jyc Y_M_place) 56 = .ok (.iadd, 1) := by decide +kernel
theorem d_M_place_57 : decode (jyc Y_M_place) 57 = .ok (.iconst 1, 1) := by decide +kernel
theorem d_M_place_58 : decode (jyc Y_M_place) 58 = .ok (.bastore, 1) := by decide +kernel
theorem d_M_place_59 : decode (jyc Y_M_place) 59 = .ok (.iconst 0, 1) := by decide +kernel
theorem d_M_place_60 : decode (jyc Y_M_place) 60 = .ok (.istore_n 3, 1) := by decide +kernel
theorem d_M_place_61 : decode (jyc Y_M_place) 61 = .ok (.iload_n 3, 1) := by decide +kernel
theorem d_M_place_62 : decode (jyc Y_M_place) 62 = .ok (.aload_n 0, 1) := by decide +kernel
theorem d_M_place_63 : decode (jyc Y_M_place) 63 = .ok (.iload_n 1, 1) := by decide +kernel
theorem d_M_place_64 : decode (jyc Y_M_place) 64 = .ok (.invokevirtual 99, 3) := by decide +kernel
theorem d_M_place_67 : decode (jyc Y_M_place) 67 = .ok (.if_icmp .ge 16, 3) := by decide +kernel
theorem d_M_place_70 : decode (jyc Y_M_place) 70 = .ok (.aload_n 0, 1) := by decide +kernel
theorem d_M_place_71 : decode (jyc Y_M_place) 71 = .ok (.iload_n 2, 1) := by decide +kernel
theorem d_M_place_72 : decode (jyc Y_M_place) 72 = .ok (.iload_n 1, 1) := by decide +kernel
theorem d_M_place_73 : decode (jyc Y_M_place) 73 = .ok (.iload_n 3, 1) := by decide +kernel
theorem d_M_place_74 : decode (jyc Y_M_place) 74 = .ok (.invokevirtual 121, 3) := by decide +kernel
theorem d_M_place_77 : decode (jyc Y_M_place) 77 = .ok (.iinc 3 1, 3) := by decide +kernel
theorem d_M_place_80 : decode (jyc Y_M_place) 80 = .ok (.goto (-19), 3) := by decide +kernel
theorem d_M_place_83 : decode (jyc Y_M_place) 83 = .ok (.iconst 1, 1) := by decide +kernel
theorem d_M_place_84 : decode (jyc Y_M_place) 84 = .ok (.ireturn, 1) := by decide +kernel
theorem d_M_put_0 : decode (jyc Y_M_put) 0 = .ok (.iconst 0, 1) := by decide +kernel
theorem d_M_put_1 : decode (jyc Y_M_put) 1 = .ok (.istore 4, 2) := by decide +kernel
theorem d_M_put_3 : decode (jyc Y_M_put) 3 = .ok (.iload 4, 2) := by decide +kernel
theorem d_M_put_5 : decode (jyc Y_M_put) 5 = .ok (.iconst 5, 1) := by decide +kernel
theorem d_M_put_6 : decode (jyc Y_M_put) 6 = .ok (.if_icmp .ge 39, 3) := by decide +kernel
theorem d_M_put_9 : decode (jyc Y_M_put) 9 = .ok (.aload_n 0, 1) := by decide +kernel
theorem d_M_put_10 : decode (jyc Y_M_put) 10 = .ok (.getfield 23, 3) := by decide +kernel
theorem d_M_put_13 : decode (jyc Y_M_put) 13 = .ok (.iload_n 1, 1) := by decide +kernel
theorem d_M_put_14 : decode (jyc Y_M_put) 14 = .ok (.iload_n 2, 1) := by decide +kernel
theorem d_M_put_15 : decode (jyc Y_M_put) 15 = .ok (.iload_n 3, 1) := by decide +kernel
theorem d_M_put_16 : decode (jyc Y_M_put) 16 = .ok (.invokestatic 125, 3) := by decide +kernel
theorem d_M_put_19 : decode (jyc Y_M_put) 19 = .ok (.iload 4, 2) := by decide +kernel
theorem d_M_put_21 : decode (jyc Y_M_put) 21 = .ok (.iadd, 1) := by decide +kernel
theorem d_M_put_22 : decode (jyc Y_M_put) 22 = .ok (.aload_n 0, 1) := by decide +kernel
theorem d_M_put_23 : decode (jyc Y_M_put) 23 = .ok (.getfield 16, 3) := by decide +kernel
theorem d_M_put_26 : decode (jyc Y_M_put) 26 = .ok (.iconst 5, 1) := by decide +kernel
theorem d_M_put_27 : decode (jyc Y_M_put) 27 = .ok (.bipush 24, 2) := by decide +kernel
theorem d_M_put_29 : decode (jyc Y_M_put) 29 = .ok (.iload_n 2, 1) := by decide +kernel
theorem d_M_put_30 : decode (jyc Y_M_put) 30 = .ok (.imul, 1) := by decide +kernel
theorem d_M_put_31 : decode (jyc Y_M_put) 31 = .ok (.iload_n 3, 1) := by decide +kernel
theorem d_M_put_32 : decode (jyc Y_M_put) 32 = .ok (.iadd, 1) := by decide +kernel
theorem d_M_put_33 : decode (jyc Y_M_put) 33 = .ok (.imul, 1) := by decide +kernel
theorem d_M_put_34 : decode (jyc Y_M_put) 34 = .ok (.iload 4, 2) := by decide +kernel
theorem d_M_put_36 : decode (jyc Y_M_put) 36 = .ok (.iadd, 1) := by decide +kernel
theorem d_M_put_37 : decode (jyc Y_M_put) 37 = .ok (.iaload, 1) := by decide +kernel
theorem d_M_put_38 : decode (jyc Y_M_put) 38 = .ok (.iastore, 1) := by decide +kernel
theorem d_M_put_39 : decode (jyc Y_M_put) 39 = .ok (.iinc 4 1, 3) := by decide +kernel
theorem d_M_put_42 : decode (jyc Y_M_put) 42 = .ok (.goto (-39), 3) := by decide +kernel
theorem d_M_put_45 : decode (jyc Y_M_put) 45 = .ok (.aload_n 0, 1) := by decide +kernel
theorem d_M_put_46 : decode (jyc Y_M_put) 46 = .ok (.getfield 26, 3) := by decide +kernel
theorem d_M_put_49 : decode (jyc Y_M_put) 49 = .ok (.iload_n 1, 1) := by decide +kernel
theorem d_M_put_50 : decode (jyc Y_M_put) 50 = .ok (.iload_n 2, 1) := by decide +kernel
theorem d_M_put_51 : decode (jyc Y_M_put) 51 = .ok (.iload_n 3, 1) := by decide +kernel
theorem d_M_put_52 : decode (jyc Y_M_put) 52 = .ok (.invokestatic 129, 3) := by decide +kernel
theorem d_M_put_55 : decode (jyc Y_M_put) 55 = .ok (.iconst 0, 1) := by decide +kernel
theorem d_M_put_56 : decode (jyc Y_M_put) 56 = .ok (.bastore, 1) := by decide +kernel
theorem d_M_put_57 : decode (jyc Y_M_put) 57 = .ok (.return_, 1) := by decide +kernel
theorem d_M_isRow_0 : decode (jyc Y_M_isRow) 0 = .ok (.aload_n 0, 1) := by decide +kernel
theorem d_M_isRow_1 : decode (jyc Y_M_isRow) 1 = .ok (.iload_n 1, 1) := by decide +kernel
theorem d_M_isRow_2 : decode (jyc Y_M_isRow) 2 = .ok (.iload_n 2, 1) := by decide +kernel
theorem d_M_isRow_3 : decode (jyc Y_M_isRow) 3 = .ok (.invokevirtual 132, 3) := by decide +kernel
theorem d_M_isRow_6 : decode (jyc Y_M_isRow) 6 = .ok (.ifCond .eq 32, 3) := by decide +kernel
theorem d_M_isRow_9 : decode (jyc Y_M_isRow) 9 = .ok (.iload_n 3, 1) := by decide +kernel
theorem d_M_isRow_10 : decode (jyc Y_M_isRow) 10 = .ok (.ifCond .lt 28, 3) := by decide +kernel
theorem d_M_isRow_13 : decode (jyc Y_M_isRow) 13 = .ok (.iload_n 3, 1) := by decide +kernel
theorem d_M_isRow_14 : decode (jyc Y_M_isRow) 14 = .ok (.aload_n 0, 1) := by decide +kernel
theorem d_M_isRow_15 : decode (jyc Y_M_isRow) 15 = .ok (.aload_n 0, 1) := by decide +kernel
theorem d_M_isRow_16 : decode (jyc Y_M_isRow) 16 = .ok (.iload_n 2, 1) := by decide +kernel
theorem d_M_isRow_17 : decode (jyc Y_M_isRow) 17 = .ok (.invokevirtual 118, 3) := by decide +kernel
theorem d_M_isRow_20 : decode (jyc Y_M_isRow) 20 = .ok (.ifCond .eq 7, 3) := by decide +kernel
theorem d_M_isRow_23 : decode (jyc Y_M_isRow) 23 = .ok (.iload_n 2, 1) := by decide +kernel
theorem d_M_isRow_24 : decode (jyc Y_M_isRow) 24 = .ok (.goto 4, 3) := by decide +kernel
theorem d_M_isRow_27 : decode (jyc Y_M_isRow) 27 = .ok (.iconst 0, 1) := by decide +kernel
theorem d_M_isRow_28 : decode (jyc Y_M_isRow) 28 = .ok (.invokevirtual 99, 3) := by decide +kernel
theorem d_M_isRow_31 : decode (jyc Y_M_isRow) 31 = .ok (.if_icmp .ge 7, 3) := by decide +kernel
theorem d_M_isRow_34 : decode (jyc Y_M_isRow) 34 = .ok (.iconst 1, 1) := by decide +kernel
theorem d_M_isRow_35 : decode (jyc Y_M_isRow) 35 = .ok (.goto 4, 3) := by decide +kernel
theorem d_M_isRow_38 : decode (jyc Y_M_isRow) 38 = .ok (.iconst 0, 1) := by decide +kernel
theorem d_M_isRow_39 : decode (jyc Y_M_isRow) 39 = .ok (.ireturn, 1) := by decide +kernel
theorem d_M_lose_0 : decode (jyc Y_M_lose) 0 = .ok (.aload_n 0, 1) := by decide +kernel
theorem d_M_lose_1 : decode (jyc Y_M_lose) 1 = .ok (.aload_n 0, 1) := by decide +kernel
theorem d_M_lose_2 : decode (jyc Y_M_lose) 2 = .ok (.iload_n 1, 1) := by decide +kernel
theorem d_M_lose_3 : decode (jyc Y_M_lose) 3 = .ok (.iload_n 2, 1) := by decide +kernel
theorem d_M_lose_4 : decode (jyc Y_M_lose) 4 = .ok (.iload_n 3, 1) := by decide +kernel
theorem d_M_lose_5 : decode (jyc Y_M_lose) 5 = .ok (.invokevirtual 136, 3) := by decide +kernel
theorem d_M_lose_8 : decode (jyc Y_M_lose) 8 = .ok (.ifCond .eq 7, 3) := by decide +kernel
theorem d_M_lose_11 : decode (jyc Y_M_lose) 11 = .ok (.iconst 0, 1) := by decide +kernel
theorem d_M_lose_12 : decode (jyc Y_M_lose) 12 = .ok (.goto 4, 3) := by decide +kernel
theorem d_M_lose_15 : decode (jyc Y_M_lose) 15 = .ok (.iconst 1, 1) := by decide +kernel
theorem d_M_lose_16 : decode (jyc Y_M_lose) 16 = .ok (.putfield 63, 3) := by decide +kernel
theorem d_M_lose_19 : decode (jyc Y_M_lose) 19 = .ok (.aload_n 0, 1) := by decide +kernel
theorem d_M_lose_20 : decode (jyc Y_M_lose) 20 = .ok (.getfield 63, 3) := by decide +kernel
theorem d_M_lose_23 : decode (jyc Y_M_lose) 23 = .ok (.ifCond .gt 17, 3) := by decide +kernel
theorem d_M_lose_26 : decode (jyc Y_M_lose) 26 = .ok (.aload_n 0, 1) := by decide +kernel
theorem d_M_lose_27 : decode (jyc Y_M_lose) 27 = .ok (.getfield 26, 3) := by decide +kernel
theorem d_M_lose_30 : decode (jyc Y_M_lose) 30 = .ok (.iload_n 1, 1) := by decide +kernel
theorem d_M_lose_31 : decode (jyc Y_M_lose) 31 = .ok (.iload_n 2, 1) := by decide +kernel
theorem d_M_lose_32 : decode (jyc Y_M_lose) 32 = .ok (.iload_n 3, 1) := by decide +kernel
theorem d_M_lose_33 : decode (jyc Y_M_lose) 33 = .ok (.invokestatic 129, 3) := by decide +kernel
theorem d_M_lose_36 : decode (jyc Y_M_lose) 36 = .ok (.baload, 1) := by decide +kernel
theorem d_M_lose_37 : decode (jyc Y_M_lose) 37 = .ok (.ifCond .eq 5, 3) := by decide +kernel
theorem d_M_lose_40 : decode (jyc Y_M_lose) 40 = .ok (.iconst 0, 1) := by decide +kernel
theorem d_M_lose_41 : decode (jyc Y_M_lose) 41 = .ok (.ireturn, 1) := by decide +kernel
theorem d_M_lose_42 : decode (jyc Y_M_lose) 42 = .ok (.aload_n 0, 1) := by decide +kernel
theorem d_M_lose_43 : decode (jyc Y_M_lose) 43 = .ok (.getfield 26, 3) := by decide +kernel
theorem d_M_lose_46 : decode (jyc Y_M_lose) 46 = .ok (.iload_n 1, 1) := by decide +kernel
theorem d_M_lose_47 : decode (jyc Y_M_lose) 47 = .ok (.iload_n 2, 1) := by decide +kernel
theorem d_M_lose_48 : decode (jyc Y_M_lose) 48 = .ok (.iload_n 3, 1) := by decide +kernel
theorem d_M_lose_49 : decode (jyc Y_M_lose) 49 = .ok (.invokestatic 129, 3) := by decide +kernel
theorem d_M_lose_52 : decode (jyc Y_M_lose) 52 = .ok (.iconst 1, 1) := by decide +kernel
theorem d_M_lose_53 : decode (jyc Y_M_lose) 53 = .ok (.bastore, 1) := by decide +kernel
theorem d_M_lose_54 : decode (jyc Y_M_lose) 54 = .ok (.iconst 0, 1) := by decide +kernel
theorem d_M_lose_55 : decode (jyc Y_M_lose) 55 = .ok (.istore 4, 2) := by decide +kernel
theorem d_M_lose_57 : decode (jyc Y_M_lose) 57 = .ok (.iload 4, 2) := by decide +kernel
theorem d_M_lose_59 : decode (jyc Y_M_lose) 59 = .ok (.iconst 5, 1) := by decide +kernel
theorem d_M_lose_60 : decode (jyc Y_M_lose) 60 = .ok (.if_icmp .ge 24, 3) := by decide +kernel
theorem d_M_lose_63 : decode (jyc Y_M_lose) 63 = .ok (.aload_n 0, 1) := by decide +kernel
theorem d_M_lose_64 : decode (jyc Y_M_lose) 64 = .ok (.getfield 23, 3) := by decide +kernel
theorem d_M_lose_67 : decode (jyc Y_M_lose) 67 = .ok (.iload_n 1, 1) := by decide +kernel
theorem d_M_lose_68 : decode (jyc Y_M_lose) 68 = .ok (.iload_n 2, 1) := by decide +kernel
theorem d_M_lose_69 : decode (jyc Y_M_lose) 69 = .ok (.iload_n 3, 1) := by decide +kernel
theorem d_M_lose_70 : decode (jyc Y_M_lose) 70 = .ok (.invokestatic 125, 3) := by decide +kernel
theorem d_M_lose_73 : decode (jyc Y_M_lose) 73 = .ok (.iload 4, 2) := by decide +kernel
theorem d_M_lose_75 : decode (jyc Y_M_lose) 75 = .ok (.iadd, 1) := by decide +kernel
theorem d_M_lose_76 : decode (jyc Y_M_lose) 76 = .ok (.iconst 0, 1) := by decide +kernel
theorem d_M_lose_77 : decode (jyc Y_M_lose) 77 = .ok (.iastore, 1) := by decide +kernel
theorem d_M_lose_78 : decode (jyc Y_M_lose) 78 = .ok (.iinc 4 1, 3) := by decide +kernel
theorem d_M_lose_81 : decode (jyc Y_M_lose) 81 = .ok (.goto (-24), 3) := by decide +kernel
theorem d_M_lose_84 : decode (jyc Y_M_lose) 84 = .ok (.iconst 1, 1) := by decide +kernel
theorem d_M_lose_85 : decode (jyc Y_M_lose) 85 = .ok (.ireturn, 1) := by decide +kernel
theorem d_M_change_0 : decode (jyc Y_M_change) 0 = .ok (.aload_n 0, 1) := by decide +kernel
theorem d_M_change_1 : decode (jyc Y_M_change) 1 = .ok (.aload_n 0, 1) := by decide +kernel
theorem d_M_change_2 : decode (jyc Y_M_change) 2 = .ok (.iload_n 1, 1) := by decide +kernel
theorem d_M_change_3 : decode (jyc Y_M_change) 3 = .ok (.iload_n 2, 1) := by decide +kernel
theorem d_M_change_4 : decode (jyc Y_M_change) 4 = .ok (.iload_n 3, 1) := by decide +kernel
theorem d_M_change_5 : decode (jyc Y_M_change) 5 = .ok (.invokevirtual 136, 3) := by decide +kernel
theorem d_M_change_8 : decode (jyc Y_M_change) 8 = .ok (.ifCond .eq 26, 3) := by decide +kernel
theorem d_M_change_11 : decode (jyc Y_M_change) 11 = .ok (.iload 4, 2) := by decide +kernel
theorem d_M_change_13 : decode (jyc Y_M_change) 13 = .ok (.ifCond .lt 21, 3) := by decide +kernel
theorem d_M_change_16 : decode (jyc Y_M_change) 16 = .ok (.iload 4, 2) := by decide +kernel
theorem d_M_change_18 : decode (jyc Y_M_change) 18 = .ok (.iconst 5, 1) := by decide +kernel
theorem d_M_change_19 : decode (jyc Y_M_change) 19 = .ok (.if_icmp .ge 15, 3) := by decide +kernel
theorem d_M_change_22 : decode (jyc Y_M_change) 22 = .ok (.iload 5, 2) := by decide +kernel
theorem d_M_change_24 : decode (jyc Y_M_change) 24 = .ok (.invokestatic 91, 3) := by decide +kernel
theorem d_M_change_27 : decode (jyc Y_M_change) 27 = .ok (.ifCond .eq 7, 3) := by decide +kernel
theorem d_M_change_30 : decode (jyc Y_M_change) 30 = .ok (.iconst 0, 1) := by decide +kernel
theorem d_M_change_31 : decode (jyc Y_M_change) 31 = .ok (.goto 4, 3) := by decide +kernel
theorem d_M_change_34 : decode (jyc Y_M_change) 34 = .ok (.iconst 1, 1) := by decide +kernel
theorem d_M_change_35 : decode (jyc Y_M_change) 35 = .ok (.putfield 63, 3) := by decide +kernel
theorem d_M_change_38 : decode (jyc Y_M_change) 38 = .ok (.aload_n 0, 1) := by decide +kernel
theorem d_M_change_39 : decode (jyc Y_M_change) 39 = .ok (.getfield 63, 3) := by decide +kernel
theorem d_M_change_42 : decode (jyc Y_M_change) 42 = .ok (.ifCond .le 5, 3) := by decide +kernel
theorem d_M_change_45 : decode (jyc Y_M_change) 45 = .ok (.iconst 0, 1) := by decide +kernel
theorem d_M_change_46 : decode (jyc Y_M_change) 46 = .ok (.ireturn, 1) := by decide +kernel
theorem d_M_change_47 : decode (jyc Y_M_change) 47 = .ok (.aload_n 0, 1) := by decide +kernel
theorem d_M_change_48 : decode (jyc Y_M_change) 48 = .ok (.aload_n 0, 1) := by decide +kernel
theorem d_M_change_49 : decode (jyc Y_M_change) 49 = .ok (.getfield 26, 3) := by decide +kernel
theorem d_M_change_52 : decode (jyc Y_M_change) 52 = .ok (.iload_n 1, 1) := by decide +kernel
theorem d_M_change_53 : decode (jyc Y_M_change) 53 = .ok (.iload_n 2, 1) := by decide +kernel
theorem d_M_change_54 : decode (jyc Y_M_change) 54 = .ok (.iload_n 3, 1) := by decide +kernel
theorem d_M_change_55 : decode (jyc Y_M_change) 55 = .ok (.invokestatic 129, 3) := by decide +kernel
theorem d_M_change_58 : decode (jyc Y_M_change) 58 = .ok (.baload, 1) := by decide +kernel
theorem d_M_change_59 : decode (jyc Y_M_change) 59 = .ok (.ifCond .eq 7, 3) := by decide +kernel
theorem d_M_change_62 : decode (jyc Y_M_change) 62 = .ok (.iconst 2, 1) := by decide +kernel
theorem d_M_change_63 : decode (jyc Y_M_change) 63 = .ok (.goto 4, 3) := by decide +kernel
theorem d_M_change_66 : decode (jyc Y_M_change) 66 = .ok (.iconst 0, 1) := by decide +kernel
theorem d_M_change_67 : decode (jyc Y_M_change) 67 = .ok (.putfield 63, 3) := by decide +kernel
theorem d_M_change_70 : decode (jyc Y_M_change) 70 = .ok (.aload_n 0, 1) := by decide +kernel
theorem d_M_change_71 : decode (jyc Y_M_change) 71 = .ok (.getfield 63, 3) := by decide +kernel
theorem d_M_change_74 : decode (jyc Y_M_change) 74 = .ok (.ifCond .le 5, 3) := by decide +kernel
theorem d_M_change_77 : decode (jyc Y_M_change) 77 = .ok (.iconst 0, 1) := by decide +kernel
theorem d_M_change_78 : decode (jyc Y_M_change) 78 = .ok (.ireturn, 1) := by decide +kernel
theorem d_M_change_79 : decode (jyc Y_M_change) 79 = .ok (.iload_n 1, 1) := by decide +kernel
theorem d_M_change_80 : decode (jyc Y_M_change) 80 = .ok (.iload_n 2, 1) := by decide +kernel
theorem d_M_change_81 : decode (jyc Y_M_change) 81 = .ok (.iload_n 3, 1) := by decide +kernel
theorem d_M_change_82 : decode (jyc Y_M_change) 82 = .ok (.invokestatic 125, 3) := by decide +kernel
theorem d_M_change_85 : decode (jyc Y_M_change) 85 = .ok (.iload 4, 2) := by decide +kernel
theorem d_M_change_87 : decode (jyc Y_M_change) 87 = .ok (.iadd, 1) := by decide +kernel
theorem d_M_change_88 : decode (jyc Y_M_change) 88 = .ok (.istore 6, 2) := by decide +kernel
theorem d_M_change_90 : decode (jyc Y_M_change) 90 = .ok (.aload_n 0, 1) := by decide +kernel
theorem d_M_change_91 : decode (jyc Y_M_change) 91 = .ok (.getfield 23, 3) := by decide +kernel
theorem d_M_change_94 : decode (jyc Y_M_change) 94 = .ok (.iload 6, 2) := by decide +kernel
theorem d_M_change_96 : decode (jyc Y_M_change) 96 = .ok (.aload_n 0, 1) := by decide +kernel
theorem d_M_change_97 : decode (jyc Y_M_change) 97 = .ok (.getfield 23, 3) := by decide +kernel
theorem d_M_change_100 : decode (jyc Y_M_change) 100 = .ok (.iload 6, 2) := by decide +kernel
theorem d_M_change_102 : decode (jyc Y_M_change) 102 = .ok (.iaload, 1) := by decide +kernel
theorem d_M_change_103 : decode (jyc Y_M_change) 103 = .ok (.i2l, 1) := by decide +kernel
theorem d_M_change_104 : decode (jyc Y_M_change) 104 = .ok (.iload 5, 2) := by decide +kernel
theorem d_M_change_106 : decode (jyc Y_M_change) 106 = .ok (.i2l, 1) := by decide +kernel
theorem d_M_change_107 : decode (jyc Y_M_change) 107 = .ok (.ladd, 1) := by decide +kernel
theorem d_M_change_108 : decode (jyc Y_M_change) 108 = .ok (.ldc2_w 67, 3) := by decide +kernel
theorem d_M_change_111 : decode (jyc Y_M_change) 111 = .ok (.lrem, 1) := by decide +kernel
theorem d_M_change_112 : decode (jyc Y_M_change) 112 = .ok (.l2i, 1) := by decide +kernel
theorem d_M_change_113 : decode (jyc Y_M_change) 113 = .ok (.iastore, 1) := by decide +kernel
theorem d_M_change_114 : decode (jyc Y_M_change) 114 = .ok (.aload_n 0, 1) := by decide +kernel
theorem d_M_change_115 : decode (jyc Y_M_change) 115 = .ok (.getfield 23, 3) := by decide +kernel
theorem d_M_change_118 : decode (jyc Y_M_change) 118 = .ok (.iload 6, 2) := by decide +kernel
theorem d_M_change_120 : decode (jyc Y_M_change) 120 = .ok (.iaload, 1) := by decide +kernel
theorem d_M_change_121 : decode (jyc Y_M_change) 121 = .ok (.ireturn, 1) := by decide +kernel
theorem d_M_challenge_0 : decode (jyc Y_M_challenge) 0 = .ok (.aload_n 0, 1) := by decide +kernel
theorem d_M_challenge_1 : decode (jyc Y_M_challenge) 1 = .ok (.aload_n 0, 1) := by decide +kernel
theorem d_M_challenge_2 : decode (jyc Y_M_challenge) 2 = .ok (.iload_n 2, 1) := by decide +kernel
theorem d_M_challenge_3 : decode (jyc Y_M_challenge) 3 = .ok (.iload_n 1, 1) := by decide +kernel
theorem d_M_challenge_4 : decode (jyc Y_M_challenge) 4 = .ok (.invokevirtual 132, 3) := by decide +kernel
theorem d_M_challenge_7 : decode (jyc Y_M_challenge) 7 = .ok (.ifCond .eq 35, 3) := by decide +kernel
theorem d_M_challenge_10 : decode (jyc Y_M_challenge) 10 = .ok (.iload 4, 2) := by decide +kernel
theorem d_M_challenge_12 : decode (jyc Y_M_challenge) 12 = .ok (.iconst 1, 1) := by decide +kernel
theorem d_M_challenge_13 : decode (jyc Y_M_challenge) 13 = .ok (.if_icmp .lt 29, 3) := by decide +kernel
theorem d_M_challenge_16 : decode (jyc Y_M_challenge) 16 = .ok (.iload 4, 2) := by decide +kernel
theorem d_M_challenge_18 : decode (jyc Y_M_challenge) 18 = .ok (.aload_n 0, 1) := by decide +kernel
theorem d_M_challenge_19 : decode (jyc Y_M_challenge) 19 = .ok (.aload_n 0, 1) := by decide +kernel
theorem d_M_challenge_20 : decode (jyc Y_M_challenge) 20 = .ok (.iload_n 1, 1) := by decide +kernel
theorem d_M_challenge_21 : decode (jyc Y_M_challenge) 21 = .ok (.invokevirtual 118, 3) := by decide +kernel
theorem d_M_challenge_24 : decode (jyc Y_M_challenge) 24 = .ok (.ifCond .eq 7, 3) := by decide +kernel
theorem d_M_challenge_27 : decode (jyc Y_M_challenge) 27 = .ok (.iload_n 1, 1) := by decide +kernel
theorem d_M_challenge_28 : decode (jyc Y_M_challenge) 28 = .ok (.goto 4, 3) := by decide +kernel
theorem d_M_challenge_31 : decode (jyc Y_M_challenge) 31 = .ok (.iconst 0, 1) := by decide +kernel
theorem d_M_challenge_32 : decode (jyc Y_M_challenge) 32 = .ok (.invokevirtual 99, 3) := by decide +kernel
theorem d_M_challenge_35 : decode (jyc Y_M_challenge) 35 = .ok (.if_icmp .gt 7, 3) := by decide +kernel
theorem d_M_challenge_38 : decode (jyc Y_M_challenge) 38 = .ok (.iconst 0, 1) := by decide +kernel
theorem d_M_challenge_39 : decode (jyc Y_M_challenge) 39 = .ok (.goto 4, 3) := by decide +kernel
theorem d_M_challenge_42 : decode (jyc Y_M_challenge) 42 = .ok (.iconst 1, 1) := by decide +kernel
theorem d_M_challenge_43 : decode (jyc Y_M_challenge) 43 = .ok (.putfield 63, 3) := by decide +kernel
theorem d_M_challenge_46 : decode (jyc Y_M_challenge) 46 = .ok (.aload_n 0, 1) := by decide +kernel
theorem d_M_challenge_47 : decode (jyc Y_M_challenge) 47 = .ok (.getfield 63, 3) := by decide +kernel
theorem d_M_challenge_50 : decode (jyc Y_M_challenge) 50 = .ok (.ifCond .le 5, 3) := by decide +kernel
theorem d_M_challenge_53 : decode (jyc Y_M_challenge) 53 = .ok (.iconst 0, 1) := by decide +kernel
theorem d_M_challenge_54 : decode (jyc Y_M_challenge) 54 = .ok (.ireturn, 1) := by decide +kernel
theorem d_M_challenge_55 : decode (jyc Y_M_challenge) 55 = .ok (.aload_n 0, 1) := by decide +kernel
theorem d_M_challenge_56 : decode (jyc Y_M_challenge) 56 = .ok (.iload 4, 2) := by decide +kernel
theorem d_M_challenge_58 : decode (jyc Y_M_challenge) 58 = .ok (.putfield 140, 3) := by decide +kernel
theorem d_M_challenge_61 : decode (jyc Y_M_challenge) 61 = .ok (.aload_n 0, 1) := by decide +kernel
theorem d_M_challenge_62 : decode (jyc Y_M_challenge) 62 = .ok (.iload_n 1, 1) := by decide +kernel
theorem d_M_challenge_63 : decode (jyc Y_M_challenge) 63 = .ok (.putfield 143, 3) := by decide +kernel
theorem d_M_challenge_66 : decode (jyc Y_M_challenge) 66 = .ok (.aload_n 0, 1) := by decide +kernel
theorem d_M_challenge_67 : decode (jyc Y_M_challenge) 67 = .ok (.iload_n 2, 1) := by decide +kernel
theorem d_M_challenge_68 : decode (jyc Y_M_challenge) 68 = .ok (.putfield 146, 3) := by decide +kernel
theorem d_M_challenge_71 : decode (jyc Y_M_challenge) 71 = .ok (.iload_n 3, 1) := by decide +kernel
theorem d_M_challenge_72 : decode (jyc Y_M_challenge) 72 = .ok (.istore 5, 2) := by decide +kernel
theorem d_M_challenge_74 : decode (jyc Y_M_challenge) 74 = .ok (.aload_n 0, 1) := by decide +kernel
theorem d_M_challenge_75 : decode (jyc Y_M_challenge) 75 = .ok (.iload_n 1, 1) := by decide +kernel
theorem d_M_challenge_76 : decode (jyc Y_M_challenge) 76 = .ok (.invokevirtual 99, 3) := by decide +kernel
theorem d_M_challenge_79 : decode (jyc Y_M_challenge) 79 = .ok (.istore 6, 2) := by decide +kernel
theorem d_M_challenge_81 : decode (jyc Y_M_challenge) 81 = .ok (.iconst 0, 1) := by decide +kernel
theorem d_M_challenge_82 : decode (jyc Y_M_challenge) 82 = .ok (.istore 7, 2) := by decide +kernel
theorem d_M_challenge_84 : decode (jyc Y_M_challenge) 84 = .ok (.iload 7, 2) := by decide +kernel
theorem d_M_challenge_86 : decode (jyc Y_M_challenge) 86 = .ok (.iconst 5, 1) := by decide +kernel
theorem d_M_challenge_87 : decode (jyc Y_M_challenge) 87 = .ok (.if_icmp .ge 17, 3) := by decide +kernel
theorem d_M_challenge_90 : decode (jyc Y_M_challenge) 90 = .ok (.aload_n 0, 1) := by decide +kernel
theorem d_M_challenge_91 : decode (jyc Y_M_challenge) 91 = .ok (.getfield 44, 3) := by decide +kernel
theorem d_M_challenge_94 : decode (jyc Y_M_challenge) 94 = .ok (.iload 7, 2) := by decide +kernel
theorem d_M_challenge_96 : decode (jyc Y_M_challenge) 96 = .ok (.iconst 0, 1) := by decide +kernel
theorem d_M_challenge_97 : decode (jyc Y_M_challenge) 97 = .ok (.iastore, 1) := by decide +kernel
theorem d_M_challenge_98 : decode (jyc Y_M_challenge) 98 = .ok (.iinc 7 1, 3) := by decide +kernel
theorem d_M_challenge_101 : decode (jyc Y_M_challenge) 101 = .ok (.goto (-17), 3) := by decide +kernel
theorem d_M_challenge_104 : decode (jyc Y_M_challenge) 104 = .ok (.iconst 0, 1) := by decide +kernel
theorem d_M_challenge_105 : decode (jyc Y_M_challenge) 105 = .ok (.istore 7, 2) := by decide +kernel
theorem d_M_challenge_107 : decode (jyc Y_M_challenge) 107 = .ok (.iload 7, 2) := by decide +kernel
theorem d_M_challenge_109 : decode (jyc Y_M_challenge) 109 = .ok (.iload 4, 2) := by decide +kernel
theorem d_M_challenge_111 : decode (jyc Y_M_challenge) 111 = .ok (.if_icmp .ge 163, 3) := by decide +kernel
theorem d_M_challenge_114 : decode (jyc Y_M_challenge) 114 = .ok (.iload 5, 2) := by decide +kernel
theorem d_M_challenge_116 : decode (jyc Y_M_challenge) 116 = .ok (.ldc 149, 2) := by decide +kernel
theorem d_M_challenge_118 : decode (jyc Y_M_challenge) 118 = .ok (.imul, 1) := by decide +kernel
theorem d_M_challenge_119 : decode (jyc Y_M_challenge) 119 = .ok (.sipush 12345, 3) := by decide +kernel
theorem d_M_challenge_122 : decode (jyc Y_M_challenge) 122 = .ok (.iadd, 1) := by decide +kernel
theorem d_M_challenge_123 : decode (jyc Y_M_challenge) 123 = .ok (.istore 5, 2) := by decide +kernel
theorem d_M_challenge_125 : decode (jyc Y_M_challenge) 125 = .ok (.iload 5, 2) := by decide +kernel
theorem d_M_challenge_127 : decode (jyc Y_M_challenge) 127 = .ok (.bipush 16, 2) := by decide +kernel
theorem d_M_challenge_129 : decode (jyc Y_M_challenge) 129 = .ok (.iushr, 1) := by decide +kernel
theorem d_M_challenge_130 : decode (jyc Y_M_challenge) 130 = .ok (.iload 6, 2) := by decide +kernel
theorem d_M_challenge_132 : decode (jyc Y_M_challenge) 132 = .ok (.irem, 1) := by decide +kernel
theorem d_M_challenge_133 : decode (jyc Y_M_challenge) 133 = .ok (.istore 8, 2) := by decide +kernel
theorem d_M_challenge_135 : decode (jyc Y_M_challenge) 135 = .ok (.aload_n 0, 1) := by decide +kernel
theorem d_M_challenge_136 : decode (jyc Y_M_challenge) 136 = .ok (.iload 8, 2) := by decide +kernel
theorem d_M_challenge_138 : decode (jyc Y_M_challenge) 138 = .ok (.iload 7, 2) := by decide +kernel
theorem d_M_challenge_140 : decode (jyc Y_M_challenge) 140 = .ok (.invokevirtual 150, 3) := by decide +kernel
theorem d_M_challenge_143 : decode (jyc Y_M_challenge) 143 = .ok (.ifCond .eq 25, 3) := by decide +kernel
theorem d_M_challenge_146 : decode (jyc Y_M_challenge) 146 = .ok (.iload 8, 2) := by decide +kernel
theorem d_M_challenge_148 : decode (jyc Y_M_challenge) 148 = .ok (.iconst 1, 1) := by decide +kernel
theorem d_M_challenge_149 : decode (jyc Y_M_challenge) 149 = .ok (.iadd, 1) := by decide +kernel
theorem d_M_challenge_150 : decode (jyc Y_M_challenge) 150 = .ok (.iload 6, 2) := by decide +kernel
theorem d_M_challenge_152 : decode (jyc Y_M_challenge) 152 = .ok (.if_icmp .ne 7, 3) := by decide +kernel
theorem d_M_challenge_155 : decode (jyc Y_M_challenge) 155 = .ok (.iconst 0, 1) := by decide +kernel
theorem d_M_challenge_156 : decode (jyc Y_M_challenge) 156 = .ok (.goto 7, 3) := by decide +kernel
theorem d_M_challenge_159 : decode (jyc Y_M_challenge) 159 = .ok (.iload 8, 2) := by decide +kernel
theorem d_M_challenge_161 : decode (jyc Y_M_challenge) 161 = .ok (.iconst 1, 1) := by decide +kernel
theorem d_M_challenge_162 : decode (jyc Y_M_challenge) 162 = .ok (.iadd, 1) := by decide +kernel
theorem d_M_challenge_163 : decode (jyc Y_M_challenge) 163 = .ok (.istore 8, 2) := by decide +kernel
theorem d_M_challenge_165 : decode (jyc Y_M_challenge) 165 = .ok (.goto (-30), 3) := by decide +kernel
theorem d_M_challenge_168 : decode (jyc Y_M_challenge) 168 = .ok (.aload_n 0, 1) := by decide +kernel
theorem d_M_challenge_169 : decode (jyc Y_M_challenge) 169 = .ok (.getfield 38, 3) := by decide +kernel
theorem d_M_challenge_172 : decode (jyc Y_M_challenge) 172 = .ok (.iload 7, 2) := by decide +kernel
theorem d_M_challenge_174 : decode (jyc Y_M_challenge) 174 = .ok (.iload 8, 2) := by decide +kernel
theorem d_M_challenge_176 : decode (jyc Y_M_challenge) 176 = .ok (.iastore, 1) := by decide +kernel
theorem d_M_challenge_177 : decode (jyc Y_M_challenge) 177 = .ok (.iload 5, 2) := by decide +kernel
theorem d_M_challenge_179 : decode (jyc Y_M_challenge) 179 = .ok (.ldc 149, 2) := by decide +kernel
theorem d_M_challenge_181 : decode (jyc Y_M_challenge) 181 = .ok (.imul, 1) := by decide +kernel
theorem d_M_challenge_182 : decode (jyc Y_M_challenge) 182 = .ok (.sipush 12345, 3) := by decide +kernel
theorem d_M_challenge_185 : decode (jyc Y_M_challenge) 185 = .ok (.iadd, 1) := by decide +kernel
theorem d_M_challenge_186 : decode (jyc Y_M_challenge) 186 = .ok (.istore 5, 2) := by decide +kernel
theorem d_M_challenge_188 : decode (jyc Y_M_challenge) 188 = .ok (.aload_n 0, 1) := by decide +kernel
theorem d_M_challenge_189 : decode (jyc Y_M_challenge) 189 = .ok (.getfield 41, 3) := by decide +kernel
theorem d_M_challenge_192 : decode (jyc Y_M_challenge) 192 = .ok (.iload 7, 2) := by decide +kernel
theorem d_M_challenge_194 : decode (jyc Y_M_challenge) 194 = .ok (.lconst 1, 1) := by decide +kernel
theorem d_M_challenge_195 : decode (jyc Y_M_challenge) 195 = .ok (.iload 5, 2) := by decide +kernel
theorem d_M_challenge_197 : decode (jyc Y_M_challenge) 197 = .ok (.iconst 1, 1) := by decide +kernel
theorem d_M_challenge_198 : decode (jyc Y_M_challenge) 198 = .ok (.iushr, 1) := by decide +kernel
theorem d_M_challenge_199 : decode (jyc Y_M_challenge) 199 = .ok (.i2l, 1) := by decide +kernel
theorem d_M_challenge_200 : decode (jyc Y_M_challenge) 200 = .ok (.ldc2_w 153, 3) := by decide +kernel
theorem d_M_challenge_203 : decode (jyc Y_M_challenge) 203 = .ok (.lrem, 1) := by decide +kernel
theorem d_M_challenge_204 : decode (jyc Y_M_challenge) 204 = .ok (.ladd, 1) := by decide +kernel
theorem d_M_challenge_205 : decode (jyc Y_M_challenge) 205 = .ok (.l2i, 1) := by decide +kernel
theorem d_M_challenge_206 : decode (jyc Y_M_challenge) 206 = .ok (.iastore, 1) := by decide +kernel
theorem d_M_challenge_207 : decode (jyc Y_M_challenge) 207 = .ok (.iconst 0, 1) := by decide +kernel
theorem d_M_challenge_208 : decode (jyc Y_M_challenge) 208 = .ok (.istore 9, 2) := by decide +kernel
theorem d_M_challenge_210 : decode (jyc Y_M_challenge) 210 = .ok (.iload 9, 2) := by decide +kernel
theorem d_M_challenge_212 : decode (jyc Y_M_challenge) 212 = .ok (.iconst 5, 1) := by decide +kernel
theorem d_M_challenge_213 : decode (jyc Y_M_challenge) 213 = .ok (.if_icmp .ge 55, 3) := by decide +kernel
theorem d_M_challenge_216 : decode (jyc Y_M_challenge) 216 = .ok (.aload_n 0, 1) := by decide +kernel
theorem d_M_challenge_217 : decode (jyc Y_M_challenge) 217 = .ok (.getfield 44, 3) := by decide +kernel
theorem d_M_challenge_220 : decode (jyc Y_M_challenge) 220 = .ok (.iload 9, 2) := by decide +kernel
theorem d_M_challenge_222 : decode (jyc Y_M_challenge) 222 = .ok (.aload_n 0, 1) := by decide +kernel
theorem d_M_challenge_223 : decode (jyc Y_M_challenge) 223 = .ok (.getfield 44, 3) := by decide +kernel
theorem d_M_challenge_226 : decode (jyc Y_M_challenge) 226 = .ok (.iload 9, 2) := by decide +kernel
theorem d_M_challenge_228 : decode (jyc Y_M_challenge) 228 = .ok (.iaload, 1) := by decide +kernel
theorem d_M_challenge_229 : decode (jyc Y_M_challenge) 229 = .ok (.i2l, 1) := by decide +kernel
theorem d_M_challenge_230 : decode (jyc Y_M_challenge) 230 = .ok (.aload_n 0, 1) := by decide +kernel
theorem d_M_challenge_231 : decode (jyc Y_M_challenge) 231 = .ok (.getfield 41, 3) := by decide +kernel
theorem d_M_challenge_234 : decode (jyc Y_M_challenge) 234 = .ok (.iload 7, 2) := by decide +kernel
theorem d_M_challenge_236 : decode (jyc Y_M_challenge) 236 = .ok (.iaload, 1) := by decide +kernel
theorem d_M_challenge_237 : decode (jyc Y_M_challenge) 237 = .ok (.i2l, 1) := by decide +kernel
theorem d_M_challenge_238 : decode (jyc Y_M_challenge) 238 = .ok (.aload_n 0, 1) := by decide +kernel
theorem d_M_challenge_239 : decode (jyc Y_M_challenge) 239 = .ok (.getfield 23, 3) := by decide +kernel
theorem d_M_challenge_242 : decode (jyc Y_M_challenge) 242 = .ok (.iload_n 2, 1) := by decide +kernel
theorem d_M_challenge_243 : decode (jyc Y_M_challenge) 243 = .ok (.iload_n 1, 1) := by decide +kernel
theorem d_M_challenge_244 : decode (jyc Y_M_challenge) 244 = .ok (.iload 8, 2) := by decide +kernel
theorem d_M_challenge_246 : decode (jyc Y_M_challenge) 246 = .ok (.invokestatic 125, 3) := by decide +kernel
theorem d_M_challenge_249 : decode (jyc Y_M_challenge) 249 = .ok (.iload 9, 2) := by decide +kernel
theorem d_M_challenge_251 : decode (jyc Y_M_challenge) 251 = .ok (.iadd, 1) := by decide +kernel
theorem d_M_challenge_252 : decode (jyc Y_M_challenge) 252 = .ok (.iaload, 1) := by decide +kernel
theorem d_M_challenge_253 : decode (jyc Y_M_challenge) 253 = .ok (.i2l, 1) := by decide +kernel
theorem d_M_challenge_254 : decode (jyc Y_M_challenge) 254 = .ok (.lmul, 1) := by decide +kernel
theorem d_M_challenge_255 : decode (jyc Y_M_challenge) 255 = .ok (.ladd, 1) := by decide +kernel
theorem d_M_challenge_256 : decode (jyc Y_M_challenge) 256 = .ok (.ldc2_w 67, 3) := by decide +kernel
theorem d_M_challenge_259 : decode (jyc Y_M_challenge) 259 = .ok (.lrem, 1) := by decide +kernel
theorem d_M_challenge_260 : decode (jyc Y_M_challenge) 260 = .ok (.l2i, 1) := by decide +kernel
theorem d_M_challenge_261 : decode (jyc Y_M_challenge) 261 = .ok (.iastore, 1) := by decide +kernel
theorem d_M_challenge_262 : decode (jyc Y_M_challenge) 262 = .ok (.iinc 9 1, 3) := by decide +kernel
theorem d_M_challenge_265 : decode (jyc Y_M_challenge) 265 = .ok (.goto (-55), 3) := by decide +kernel
theorem d_M_challenge_268 : decode (jyc Y_M_challenge) 268 = .ok (.iinc 7 1, 3) := by decide +kernel
theorem d_M_challenge_271 : decode (jyc Y_M_challenge) 271 = .ok (.goto (-164), 3) := by decide +kernel
theorem d_M_challenge_274 : decode (jyc Y_M_challenge) 274 = .ok (.aload_n 0, 1) := by decide +kernel
theorem d_M_challenge_275 : decode (jyc Y_M_challenge) 275 = .ok (.getfield 38, 3) := by decide +kernel
theorem d_M_challenge_278 : decode (jyc Y_M_challenge) 278 = .ok (.iconst 0, 1) := by decide +kernel
theorem d_M_challenge_279 : decode (jyc Y_M_challenge) 279 = .ok (.iaload, 1) := by decide +kernel
theorem d_M_challenge_280 : decode (jyc Y_M_challenge) 280 = .ok (.ireturn, 1) := by decide +kernel
theorem d_M_isAsked_0 : decode (jyc Y_M_isAsked) 0 = .ok (.iconst 0, 1) := by decide +kernel
theorem d_M_isAsked_1 : decode (jyc Y_M_isAsked) 1 = .ok (.istore_n 3, 1) := by decide +kernel
theorem d_M_isAsked_2 : decode (jyc Y_M_isAsked) 2 = .ok (.iconst 0, 1) := by decide +kernel
theorem d_M_isAsked_3 : decode (jyc Y_M_isAsked) 3 = .ok (.istore 4, 2) := by decide +kernel
theorem d_M_isAsked_5 : decode (jyc Y_M_isAsked) 5 = .ok (.iload 4, 2) := by decide +kernel
theorem d_M_isAsked_7 : decode (jyc Y_M_isAsked) 7 = .ok (.iload_n 2, 1) := by decide +kernel
theorem d_M_isAsked_8 : decode (jyc Y_M_isAsked) 8 = .ok (.if_icmp .ge 30, 3) := by decide +kernel
theorem d_M_isAsked_11 : decode (jyc Y_M_isAsked) 11 = .ok (.iload_n 3, 1) := by decide +kernel
theorem d_M_isAsked_12 : decode (jyc Y_M_isAsked) 12 = .ok (.ifCond .ne 14, 3) := by decide +kernel
theorem d_M_isAsked_15 : decode (jyc Y_M_isAsked) 15 = .ok (.aload_n 0, 1) := by decide +kernel
theorem d_M_isAsked_16 : decode (jyc Y_M_isAsked) 16 = .ok (.getfield 38, 3) := by decide +kernel
theorem d_M_isAsked_19 : decode (jyc Y_M_isAsked) 19 = .ok (.iload 4, 2) := by decide +kernel
theorem d_M_isAsked_21 : decode (jyc Y_M_isAsked) 21 = .ok (.iaload, 1) := by decide +kernel
theorem d_M_isAsked_22 : decode (jyc Y_M_isAsked) 22 = .ok (.iload_n 1, 1) := by decide +kernel
theorem d_M_isAsked_23 : decode (jyc Y_M_isAsked) 23 = .ok (.if_icmp .ne 7, 3) := by decide +kernel
theorem d_M_isAsked_26 : decode (jyc Y_M_isAsked) 26 = .ok (.iconst 1, 1) := by decide +kernel
theorem d_M_isAsked_27 : decode (jyc Y_M_isAsked) 27 = .ok (.goto 4, 3) := by decide +kernel
theorem d_M_isAsked_30 : decode (jyc Y_M_isAsked) 30 = .ok (.iconst 0, 1) := by decide +kernel
theorem d_M_isAsked_31 : decode (jyc Y_M_isAsked) 31 = .ok (.istore_n 3, 1) := by decide +kernel
theorem d_M_isAsked_32 : decode (jyc Y_M_isAsked) 32 = .ok (.iinc 4 1, 3) := by decide +kernel
theorem d_M_isAsked_35 : decode (jyc Y_M_isAsked) 35 = .ok (.goto (-30), 3) := by decide +kernel
theorem d_M_isAsked_38 : decode (jyc Y_M_isAsked) 38 = .ok (.iload_n 3, 1) := by decide +kernel
theorem d_M_isAsked_39 : decode (jyc Y_M_isAsked) 39 = .ok (.ireturn, 1) := by decide +kernel
theorem d_M_asked_0 : decode (jyc Y_M_asked) 0 = .ok (.aload_n 0, 1) := by decide +kernel
theorem d_M_asked_1 : decode (jyc Y_M_asked) 1 = .ok (.iconst 0, 1) := by decide +kernel
theorem d_M_asked_2 : decode (jyc Y_M_asked) 2 = .ok (.putfield 63, 3) := by decide +kernel
theorem d_M_asked_5 : decode (jyc Y_M_asked) 5 = .ok (.aload_n 0, 1) := by decide +kernel
theorem d_M_asked_6 : decode (jyc Y_M_asked) 6 = .ok (.getfield 140, 3) := by decide +kernel
theorem d_M_asked_9 : decode (jyc Y_M_asked) 9 = .ok (.ifCond .eq 33, 3) := by decide +kernel
theorem d_M_asked_12 : decode (jyc Y_M_asked) 12 = .ok (.iload_n 1, 1) := by decide +kernel
theorem d_M_asked_13 : decode (jyc Y_M_asked) 13 = .ok (.ifCond .lt 29, 3) := by decide +kernel
theorem d_M_asked_16 : decode (jyc Y_M_asked) 16 = .ok (.iload_n 1, 1) := by decide +kernel
theorem d_M_asked_17 : decode (jyc Y_M_asked) 17 = .ok (.iconst 2, 1) := by decide +kernel
theorem d_M_asked_18 : decode (jyc Y_M_asked) 18 = .ok (.if_icmp .gt 24, 3) := by decide +kernel
theorem d_M_asked_21 : decode (jyc Y_M_asked) 21 = .ok (.iload_n 2, 1) := by decide +kernel
theorem d_M_asked_22 : decode (jyc Y_M_asked) 22 = .ok (.ifCond .lt 20, 3) := by decide +kernel
theorem d_M_asked_25 : decode (jyc Y_M_asked) 25 = .ok (.iload_n 2, 1) := by decide +kernel
theorem d_M_asked_26 : decode (jyc Y_M_asked) 26 = .ok (.iload_n 1, 1) := by decide +kernel
theorem d_M_asked_27 : decode (jyc Y_M_asked) 27 = .ok (.iconst 2, 1) := by decide +kernel
theorem d_M_asked_28 : decode (jyc Y_M_asked) 28 = .ok (.if_icmp .ge 10, 3) := by decide +kernel
theorem d_M_asked_31 : decode (jyc Y_M_asked) 31 = .ok (.aload_n 0, 1) := by decide +kernel
theorem d_M_asked_32 : decode (jyc Y_M_asked) 32 = .ok (.getfield 140, 3) := by decide +kernel
theorem d_M_asked_35 : decode (jyc Y_M_asked) 35 = .ok (.goto 4, 3) := by decide +kernel
theorem d_M_asked_38 : decode (jyc Y_M_asked) 38 = .ok (.iconst 5, 1) := by decide +kernel
theorem d_M_asked_39 : decode (jyc Y_M_asked) 39 = .ok (.if_icmp .lt 5, 3) := by decide +kernel
theorem d_M_asked_42 : decode (jyc Y_M_asked) 42 = .ok (.iconst (-1), 1) := by decide +kernel
theorem d_M_asked_43 : decode (jyc Y_M_asked) 43 = .ok (.ireturn, 1) := by decide +kernel
theorem d_M_asked_44 : decode (jyc Y_M_asked) 44 = .ok (.iload_n 1, 1) := by decide +kernel
theorem d_M_asked_45 : decode (jyc Y_M_asked) 45 = .ok (.ifCond .ne 12, 3) := by decide +kernel
theorem d_M_asked_48 : decode (jyc Y_M_asked) 48 = .ok (.aload_n 0, 1) := by decide +kernel
theorem d_M_asked_49 : decode (jyc Y_M_asked) 49 = .ok (.getfield 38, 3) := by decide +kernel
theorem d_M_asked_52 : decode (jyc Y_M_asked) 52 = .ok (.iload_n 2, 1) := by decide +kernel
theorem d_M_asked_53 : decode (jyc Y_M_asked) 53 = .ok (.iaload, 1) := by decide +kernel
theorem d_M_asked_54 : decode (jyc Y_M_asked) 54 = .ok (.goto 23, 3) := by decide +kernel
theorem d_M_asked_57 : decode (jyc Y_M_asked) 57 = .ok (.iload_n 1, 1) := by decide +kernel
theorem d_M_asked_58 : decode (jyc Y_M_asked) 58 = .ok (.iconst 1, 1) := by decide +kernel
theorem d_M_asked_59 : decode (jyc Y_M_asked) 59 = .ok (.if_icmp .ne 12, 3) := by decide +kernel
theorem d_M_asked_62 : decode (jyc Y_M_asked) 62 = .ok (.aload_n 0, 1) := by decide +kernel
theorem d_M_asked_63 : decode (jyc Y_M_asked) 63 = .ok (.getfield 41, 3) := by decide +kernel
theorem d_M_asked_66 : decode (jyc Y_M_asked) 66 = .ok (.iload_n 2, 1) := by decide +kernel
theorem d_M_asked_67 : decode (jyc Y_M_asked) 67 = .ok (.iaload, 1) := by decide +kernel
theorem d_M_asked_68 : decode (jyc Y_M_asked) 68 = .ok (.goto 9, 3) := by decide +kernel
theorem d_M_asked_71 : decode (jyc Y_M_asked) 71 = .ok (.aload_n 0, 1) := by decide +kernel
theorem d_M_asked_72 : decode (jyc Y_M_asked) 72 = .ok (.getfield 44, 3) := by decide +kernel
theorem d_M_asked_75 : decode (jyc Y_M_asked) 75 = .ok (.iload_n 2, 1) := by decide +kernel
theorem d_M_asked_76 : decode (jyc Y_M_asked) 76 = .ok (.iaload, 1) := by decide +kernel
theorem d_M_asked_77 : decode (jyc Y_M_asked) 77 = .ok (.ireturn, 1) := by decide +kernel
theorem d_M_tamper_0 : decode (jyc Y_M_tamper) 0 = .ok (.aload_n 0, 1) := by decide +kernel
theorem d_M_tamper_1 : decode (jyc Y_M_tamper) 1 = .ok (.iconst 0, 1) := by decide +kernel
theorem d_M_tamper_2 : decode (jyc Y_M_tamper) 2 = .ok (.putfield 63, 3) := by decide +kernel
theorem d_M_tamper_5 : decode (jyc Y_M_tamper) 5 = .ok (.aload_n 0, 1) := by decide +kernel
theorem d_M_tamper_6 : decode (jyc Y_M_tamper) 6 = .ok (.getfield 140, 3) := by decide +kernel
theorem d_M_tamper_9 : decode (jyc Y_M_tamper) 9 = .ok (.ifCond .eq 19, 3) := by decide +kernel
theorem d_M_tamper_12 : decode (jyc Y_M_tamper) 12 = .ok (.iload_n 1, 1) := by decide +kernel
theorem d_M_tamper_13 : decode (jyc Y_M_tamper) 13 = .ok (.ifCond .lt 15, 3) := by decide +kernel
theorem d_M_tamper_16 : decode (jyc Y_M_tamper) 16 = .ok (.iload_n 1, 1) := by decide +kernel
theorem d_M_tamper_17 : decode (jyc Y_M_tamper) 17 = .ok (.iconst 4, 1) := by decide +kernel
theorem d_M_tamper_18 : decode (jyc Y_M_tamper) 18 = .ok (.if_icmp .gt 10, 3) := by decide +kernel
theorem d_M_tamper_21 : decode (jyc Y_M_tamper) 21 = .ok (.iload_n 2, 1) := by decide +kernel
theorem d_M_tamper_22 : decode (jyc Y_M_tamper) 22 = .ok (.invokestatic 91, 3) := by decide +kernel
theorem d_M_tamper_25 : decode (jyc Y_M_tamper) 25 = .ok (.ifCond .ne 5, 3) := by decide +kernel
theorem d_M_tamper_28 : decode (jyc Y_M_tamper) 28 = .ok (.iconst 0, 1) := by decide +kernel
theorem d_M_tamper_29 : decode (jyc Y_M_tamper) 29 = .ok (.ireturn, 1) := by decide +kernel
theorem d_M_tamper_30 : decode (jyc Y_M_tamper) 30 = .ok (.aload_n 0, 1) := by decide +kernel
theorem d_M_tamper_31 : decode (jyc Y_M_tamper) 31 = .ok (.getfield 44, 3) := by decide +kernel
theorem d_M_tamper_34 : decode (jyc Y_M_tamper) 34 = .ok (.iload_n 1, 1) := by decide +kernel
theorem d_M_tamper_35 : decode (jyc Y_M_tamper) 35 = .ok (.aload_n 0, 1) := by decide +kernel
theorem d_M_tamper_36 : decode (jyc Y_M_tamper) 36 = .ok (.getfield 44, 3) := by decide +kernel
theorem d_M_tamper_39 : decode (jyc Y_M_tamper) 39 = .ok (.iload_n 1, 1) := by decide +kernel
theorem d_M_tamper_40 : decode (jyc Y_M_tamper) 40 = .ok (.iaload, 1) := by decide +kernel
theorem d_M_tamper_41 : decode (jyc Y_M_tamper) 41 = .ok (.i2l, 1) := by decide +kernel
theorem d_M_tamper_42 : decode (jyc Y_M_tamper) 42 = .ok (.iload_n 2, 1) := by decide +kernel
theorem d_M_tamper_43 : decode (jyc Y_M_tamper) 43 = .ok (.i2l, 1) := by decide +kernel
theorem d_M_tamper_44 : decode (jyc Y_M_tamper) 44 = .ok (.ladd, 1) := by decide +kernel
theorem d_M_tamper_45 : decode (jyc Y_M_tamper) 45 = .ok (.ldc2_w 67, 3) := by decide +kernel
theorem d_M_tamper_48 : decode (jyc Y_M_tamper) 48 = .ok (.lrem, 1) := by decide +kernel
theorem d_M_tamper_49 : decode (jyc Y_M_tamper) 49 = .ok (.l2i, 1) := by decide +kernel
theorem d_M_tamper_50 : decode (jyc Y_M_tamper) 50 = .ok (.iastore, 1) := by decide +kernel
theorem d_M_tamper_51 : decode (jyc Y_M_tamper) 51 = .ok (.iconst 1, 1) := by decide +kernel
theorem d_M_tamper_52 : decode (jyc Y_M_tamper) 52 = .ok (.ireturn, 1) := by decide +kernel
theorem d_M_judge_0 : decode (jyc Y_M_judge) 0 = .ok (.aload_n 0, 1) := by decide +kernel
theorem d_M_judge_1 : decode (jyc Y_M_judge) 1 = .ok (.aload_n 0, 1) := by decide +kernel
theorem d_M_judge_2 : decode (jyc Y_M_judge) 2 = .ok (.getfield 140, 3) := by decide +kernel
theorem d_M_judge_5 : decode (jyc Y_M_judge) 5 = .ok (.ifCond .ne 7, 3) := by decide +kernel
theorem d_M_judge_8 : decode (jyc Y_M_judge) 8 = .ok (.iconst 1, 1) := by decide +kernel
theorem d_M_judge_9 : decode (jyc Y_M_judge) 9 = .ok (.goto 4, 3) := by decide +kernel
theorem d_M_judge_12 : decode (jyc Y_M_judge) 12 = .ok (.iconst 0, 1) := by decide +kernel
theorem d_M_judge_13 : decode (jyc Y_M_judge) 13 = .ok (.putfield 63, 3) := by decide +kernel
theorem d_M_judge_16 : decode (jyc Y_M_judge) 16 = .ok (.aload_n 0, 1) := by decide +kernel
theorem d_M_judge_17 : decode (jyc Y_M_judge) 17 = .ok (.getfield 63, 3) := by decide +kernel
theorem d_M_judge_20 : decode (jyc Y_M_judge) 20 = .ok (.ifCond .le 5, 3) := by decide +kernel
theorem d_M_judge_23 : decode (jyc Y_M_judge) 23 = .ok (.iconst 0, 1) := by decide +kernel
theorem d_M_judge_24 : decode (jyc Y_M_judge) 24 = .ok (.ireturn, 1) := by decide +kernel
theorem d_M_judge_25 : decode (jyc Y_M_judge) 25 = .ok (.lconst 0, 1) := by decide +kernel
theorem d_M_judge_26 : decode (jyc Y_M_judge) 26 = .ok (.lstore_n 1, 1) := by decide +kernel
theorem d_M_judge_27 : decode (jyc Y_M_judge) 27 = .ok (.iconst 0, 1) := by decide +kernel
theorem d_M_judge_28 : decode (jyc Y_M_judge) 28 = .ok (.istore_n 3, 1) := by decide +kernel
theorem d_M_judge_29 : decode (jyc Y_M_judge) 29 = .ok (.iload_n 3, 1) := by decide +kernel
theorem d_M_judge_30 : decode (jyc Y_M_judge) 30 = .ok (.aload_n 0, 1) := by decide +kernel
theorem d_M_judge_31 : decode (jyc Y_M_judge) 31 = .ok (.getfield 140, 3) := by decide +kernel
theorem d_M_judge_34 : decode (jyc Y_M_judge) 34 = .ok (.if_icmp .ge 45, 3) := by decide +kernel
theorem d_M_judge_37 : decode (jyc Y_M_judge) 37 = .ok (.lload_n 1, 1) := by decide +kernel
theorem d_M_judge_38 : decode (jyc Y_M_judge) 38 = .ok (.aload_n 0, 1) := by decide +kernel
theorem d_M_judge_39 : decode (jyc Y_M_judge) 39 = .ok (.getfield 41, 3) := by decide +kernel
theorem d_M_judge_42 : decode (jyc Y_M_judge) 42 = .ok (.iload_n 3, 1) := by decide +kernel
theorem d_M_judge_43 : decode (jyc Y_M_judge) 43 = .ok (.iaload, 1) := by decide +kernel
theorem d_M_judge_44 : decode (jyc Y_M_judge) 44 = .ok (.i2l, 1) := by decide +kernel
theorem d_M_judge_45 : decode (jyc Y_M_judge) 45 = .ok (.aload_n 0, 1) := by decide +kernel
theorem d_M_judge_46 : decode (jyc Y_M_judge) 46 = .ok (.bipush 64, 2) := by decide +kernel
theorem d_M_judge_48 : decode (jyc Y_M_judge) 48 = .ok (.aload_n 0, 1) := by decide +kernel
theorem d_M_judge_49 : decode (jyc Y_M_judge) 49 = .ok (.getfield 143, 3) := by decide +kernel
theorem d_M_judge_52 : decode (jyc Y_M_judge) 52 = .ok (.imul, 1) := by decide +kernel
theorem d_M_judge_53 : decode (jyc Y_M_judge) 53 = .ok (.bipush 8, 2) := by decide +kernel
theorem d_M_judge_55 : decode (jyc Y_M_judge) 55 = .ok (.iadd, 1) := by decide +kernel
theorem d_M_judge_56 : decode (jyc Y_M_judge) 56 = .ok (.aload_n 0, 1) := by decide +kernel
theorem d_M_judge_57 : decode (jyc Y_M_judge) 57 = .ok (.getfield 38, 3) := by decide +kernel
theorem d_M_judge_60 : decode (jyc Y_M_judge) 60 = .ok (.iload_n 3, 1) := by decide +kernel
theorem d_M_judge_61 : decode (jyc Y_M_judge) 61 = .ok (.iaload, 1) := by decide +kernel
theorem d_M_judge_62 : decode (jyc Y_M_judge) 62 = .ok (.iadd, 1) := by decide +kernel
theorem d_M_judge_63 : decode (jyc Y_M_judge) 63 = .ok (.invokevirtual 95, 3) := by decide +kernel
theorem d_M_judge_66 : decode (jyc Y_M_judge) 66 = .ok (.lmul, 1) := by decide +kernel
theorem d_M_judge_67 : decode (jyc Y_M_judge) 67 = .ok (.ladd, 1) := by decide +kernel
theorem d_M_judge_68 : decode (jyc Y_M_judge) 68 = .ok (.ldc2_w 67, 3) := by decide +kernel
theorem d_M_judge_71 : decode (jyc Y_M_judge) 71 = .ok (.lrem, 1) := by decide +kernel
theorem d_M_judge_72 : decode (jyc Y_M_judge) 72 = .ok (.lstore_n 1, 1) := by decide +kernel
theorem d_M_judge_73 : decode (jyc Y_M_judge) 73 = .ok (.iinc 3 1, 3) := by decide +kernel
theorem d_M_judge_76 : decode (jyc Y_M_judge) 76 = .ok (.goto (-47), 3) := by decide +kernel
theorem d_M_judge_79 : decode (jyc Y_M_judge) 79 = .ok (.iconst 0, 1) := by decide +kernel
theorem d_M_judge_80 : decode (jyc Y_M_judge) 80 = .ok (.istore_n 3, 1) := by decide +kernel
theorem d_M_judge_81 : decode (jyc Y_M_judge) 81 = .ok (.iload_n 3, 1) := by decide +kernel
theorem d_M_judge_82 : decode (jyc Y_M_judge) 82 = .ok (.iconst 4, 1) := by decide +kernel
theorem d_M_judge_83 : decode (jyc Y_M_judge) 83 = .ok (.if_icmp .ge 37, 3) := by decide +kernel
theorem d_M_judge_86 : decode (jyc Y_M_judge) 86 = .ok (.lload_n 1, 1) := by decide +kernel
theorem d_M_judge_87 : decode (jyc Y_M_judge) 87 = .ok (.aload_n 0, 1) := by decide +kernel
theorem d_M_judge_88 : decode (jyc Y_M_judge) 88 = .ok (.bipush 64, 2) := by decide +kernel
theorem d_M_judge_90 : decode (jyc Y_M_judge) 90 = .ok (.aload_n 0, 1) := by decide +kernel
theorem d_M_judge_91 : decode (jyc Y_M_judge) 91 = .ok (.getfield 143, 3) := by decide +kernel
theorem d_M_judge_94 : decode (jyc Y_M_judge) 94 = .ok (.imul, 1) := by decide +kernel
theorem d_M_judge_95 : decode (jyc Y_M_judge) 95 = .ok (.iload_n 3, 1) := by decide +kernel
theorem d_M_judge_96 : decode (jyc Y_M_judge) 96 = .ok (.iadd, 1) := by decide +kernel
theorem d_M_judge_97 : decode (jyc Y_M_judge) 97 = .ok (.invokevirtual 95, 3) := by decide +kernel
theorem d_M_judge_100 : decode (jyc Y_M_judge) 100 = .ok (.aload_n 0, 1) := by decide +kernel
theorem d_M_judge_101 : decode (jyc Y_M_judge) 101 = .ok (.getfield 44, 3) := by decide +kernel
theorem d_M_judge_104 : decode (jyc Y_M_judge) 104 = .ok (.iload_n 3, 1) := by decide +kernel
theorem d_M_judge_105 : decode (jyc Y_M_judge) 105 = .ok (.iaload, 1) := by decide +kernel
theorem d_M_judge_106 : decode (jyc Y_M_judge) 106 = .ok (.i2l, 1) := by decide +kernel
theorem d_M_judge_107 : decode (jyc Y_M_judge) 107 = .ok (.lmul, 1) := by decide +kernel
theorem d_M_judge_108 : decode (jyc Y_M_judge) 108 = .ok (.ladd, 1) := by decide +kernel
theorem d_M_judge_109 : decode (jyc Y_M_judge) 109 = .ok (.ldc2_w 67, 3) := by decide +kernel
theorem d_M_judge_112 : decode (jyc Y_M_judge) 112 = .ok (.lrem, 1) := by decide +kernel
theorem d_M_judge_113 : decode (jyc Y_M_judge) 113 = .ok (.lstore_n 1, 1) := by decide +kernel
theorem d_M_judge_114 : decode (jyc Y_M_judge) 114 = .ok (.iinc 3 1, 3) := by decide +kernel
theorem d_M_judge_117 : decode (jyc Y_M_judge) 117 = .ok (.goto (-36), 3) := by decide +kernel
theorem d_M_judge_120 : decode (jyc Y_M_judge) 120 = .ok (.lload_n 1, 1) := by decide +kernel
theorem d_M_judge_121 : decode (jyc Y_M_judge) 121 = .ok (.aload_n 0, 1) := by decide +kernel
theorem d_M_judge_122 : decode (jyc Y_M_judge) 122 = .ok (.getfield 44, 3) := by decide +kernel
theorem d_M_judge_125 : decode (jyc Y_M_judge) 125 = .ok (.iconst 4, 1) := by decide +kernel
theorem d_M_judge_126 : decode (jyc Y_M_judge) 126 = .ok (.iaload, 1) := by decide +kernel
theorem d_M_judge_127 : decode (jyc Y_M_judge) 127 = .ok (.i2l, 1) := by decide +kernel
theorem d_M_judge_128 : decode (jyc Y_M_judge) 128 = .ok (.lcmp, 1) := by decide +kernel
theorem d_M_judge_129 : decode (jyc Y_M_judge) 129 = .ok (.ifCond .ne 7, 3) := by decide +kernel
theorem d_M_judge_132 : decode (jyc Y_M_judge) 132 = .ok (.iconst 1, 1) := by decide +kernel
theorem d_M_judge_133 : decode (jyc Y_M_judge) 133 = .ok (.goto 4, 3) := by decide +kernel
theorem d_M_judge_136 : decode (jyc Y_M_judge) 136 = .ok (.iconst 0, 1) := by decide +kernel
theorem d_M_judge_137 : decode (jyc Y_M_judge) 137 = .ok (.istore_n 3, 1) := by decide +kernel
theorem d_M_judge_138 : decode (jyc Y_M_judge) 138 = .ok (.aload_n 0, 1) := by decide +kernel
theorem d_M_judge_139 : decode (jyc Y_M_judge) 139 = .ok (.getfield 29, 3) := by decide +kernel
theorem d_M_judge_142 : decode (jyc Y_M_judge) 142 = .ok (.aload_n 0, 1) := by decide +kernel
theorem d_M_judge_143 : decode (jyc Y_M_judge) 143 = .ok (.getfield 146, 3) := by decide +kernel
theorem d_M_judge_146 : decode (jyc Y_M_judge) 146 = .ok (.dup2, 1) := by decide +kernel
theorem d_M_judge_147 : decode (jyc Y_M_judge) 147 = .ok (.iaload, 1) := by decide +kernel
theorem d_M_judge_148 : decode (jyc Y_M_judge) 148 = .ok (.iload_n 3, 1) := by decide +kernel
theorem d_M_judge_149 : decode (jyc Y_M_judge) 149 = .ok (.ifCond .eq 7, 3) := by decide +kernel
theorem d_M_judge_152 : decode (jyc Y_M_judge) 152 = .ok (.iconst 1, 1) := by decide +kernel
theorem d_M_judge_153 : decode (jyc Y_M_judge) 153 = .ok (.goto 4, 3) := by decide +kernel
theorem d_M_judge_156 : decode (jyc Y_M_judge) 156 = .ok (.iconst 0, 1) := by decide +kernel
theorem d_M_judge_157 : decode (jyc Y_M_judge) 157 = .ok (.iadd, 1) := by decide +kernel
theorem d_M_judge_158 : decode (jyc Y_M_judge) 158 = .ok (.iastore, 1) := by decide +kernel
theorem d_M_judge_159 : decode (jyc Y_M_judge) 159 = .ok (.aload_n 0, 1) := by decide +kernel
theorem d_M_judge_160 : decode (jyc Y_M_judge) 160 = .ok (.getfield 32, 3) := by decide +kernel
theorem d_M_judge_163 : decode (jyc Y_M_judge) 163 = .ok (.aload_n 0, 1) := by decide +kernel
theorem d_M_judge_164 : decode (jyc Y_M_judge) 164 = .ok (.getfield 146, 3) := by decide +kernel
theorem d_M_judge_167 : decode (jyc Y_M_judge) 167 = .ok (.dup2, 1) := by decide +kernel
theorem d_M_judge_168 : decode (jyc Y_M_judge) 168 = .ok (.iaload, 1) := by decide +kernel
theorem d_M_judge_169 : decode (jyc Y_M_judge) 169 = .ok (.iload_n 3, 1) := by decide +kernel
theorem d_M_judge_170 : decode (jyc Y_M_judge) 170 = .ok (.ifCond .eq 7, 3) := by decide +kernel
theorem d_M_judge_173 : decode (jyc Y_M_judge) 173 = .ok (.iconst 0, 1) := by decide +kernel
theorem d_M_judge_174 : decode (jyc Y_M_judge) 174 = .ok (.goto 4, 3) := by decide +kernel
theorem d_M_judge_177 : decode (jyc Y_M_judge) 177 = .ok (.iconst 1, 1) := by decide +kernel
theorem d_M_judge_178 : decode (jyc Y_M_judge) 178 = .ok (.iadd, 1) := by decide +kernel
theorem d_M_judge_179 : decode (jyc Y_M_judge) 179 = .ok (.iastore, 1) := by decide +kernel
theorem d_M_judge_180 : decode (jyc Y_M_judge) 180 = .ok (.iload_n 3, 1) := by decide +kernel
theorem d_M_judge_181 : decode (jyc Y_M_judge) 181 = .ok (.ireturn, 1) := by decide +kernel
theorem d_M_isGood_0 : decode (jyc Y_M_isGood) 0 = .ok (.iload_n 1, 1) := by decide +kernel
theorem d_M_isGood_1 : decode (jyc Y_M_isGood) 1 = .ok (.iload_n 2, 1) := by decide +kernel
theorem d_M_isGood_2 : decode (jyc Y_M_isGood) 2 = .ok (.iload_n 3, 1) := by decide +kernel
theorem d_M_isGood_3 : decode (jyc Y_M_isGood) 3 = .ok (.invokestatic 125, 3) := by decide +kernel
theorem d_M_isGood_6 : decode (jyc Y_M_isGood) 6 = .ok (.istore 4, 2) := by decide +kernel
theorem d_M_isGood_8 : decode (jyc Y_M_isGood) 8 = .ok (.aload_n 0, 1) := by decide +kernel
theorem d_M_isGood_9 : decode (jyc Y_M_isGood) 9 = .ok (.iload_n 1, 1) := by decide +kernel
theorem d_M_isGood_10 : decode (jyc Y_M_isGood) 10 = .ok (.iload_n 2, 1) := by decide +kernel
theorem d_M_isGood_11 : decode (jyc Y_M_isGood) 11 = .ok (.invokevirtual 132, 3) := by decide +kernel
theorem d_M_isGood_14 : decode (jyc Y_M_isGood) 14 = .ok (.ifCond .eq 47, 3) := by decide +kernel
theorem d_M_isGood_17 : decode (jyc Y_M_isGood) 17 = .ok (.aload_n 0, 1) := by decide +kernel
theorem d_M_isGood_18 : decode (jyc Y_M_isGood) 18 = .ok (.getfield 26, 3) := by decide +kernel
theorem d_M_isGood_21 : decode (jyc Y_M_isGood) 21 = .ok (.iload_n 1, 1) := by decide +kernel
theorem d_M_isGood_22 : decode (jyc Y_M_isGood) 22 = .ok (.iload_n 2, 1) := by decide +kernel
theorem d_M_isGood_23 : decode (jyc Y_M_isGood) 23 = .ok (.iload_n 3, 1) := by decide +kernel
theorem d_M_isGood_24 : decode (jyc Y_M_isGood) 24 = .ok (.invokestatic 129, 3) := by decide +kernel
theorem d_M_isGood_27 : decode (jyc Y_M_isGood) 27 = .ok (.baload, 1) := by decide +kernel
theorem d_M_isGood_28 : decode (jyc Y_M_isGood) 28 = .ok (.ifCond .ne 33, 3) := by decide +kernel
theorem d_M_isGood_31 : decode (jyc Y_M_isGood) 31 = .ok (.aload_n 0, 1) := by decide +kernel
theorem d_M_isGood_32 : decode (jyc Y_M_isGood) 32 = .ok (.iload_n 2, 1) := by decide +kernel
theorem d_M_isGood_33 : decode (jyc Y_M_isGood) 33 = .ok (.iload_n 3, 1) := by decide +kernel
theorem d_M_isGood_34 : decode (jyc Y_M_isGood) 34 = .ok (.aload_n 0, 1) := by decide +kernel
theorem d_M_isGood_35 : decode (jyc Y_M_isGood) 35 = .ok (.getfield 23, 3) := by decide +kernel
theorem d_M_isGood_38 : decode (jyc Y_M_isGood) 38 = .ok (.iload 4, 2) := by decide +kernel
theorem d_M_isGood_40 : decode (jyc Y_M_isGood) 40 = .ok (.invokevirtual 107, 3) := by decide +kernel
theorem d_M_isGood_43 : decode (jyc Y_M_isGood) 43 = .ok (.aload_n 0, 1) := by decide +kernel
theorem d_M_isGood_44 : decode (jyc Y_M_isGood) 44 = .ok (.getfield 23, 3) := by decide +kernel
theorem d_M_isGood_47 : decode (jyc Y_M_isGood) 47 = .ok (.iload 4, 2) := by decide +kernel
theorem d_M_isGood_49 : decode (jyc Y_M_isGood) 49 = .ok (.iconst 4, 1) := by decide +kernel
theorem d_M_isGood_50 : decode (jyc Y_M_isGood) 50 = .ok (.iadd, 1) := by decide +kernel
theorem d_M_isGood_51 : decode (jyc Y_M_isGood) 51 = .ok (.iaload, 1) := by decide +kernel
theorem d_M_isGood_52 : decode (jyc Y_M_isGood) 52 = .ok (.i2l, 1) := by decide +kernel
theorem d_M_isGood_53 : decode (jyc Y_M_isGood) 53 = .ok (.lcmp, 1) := by decide +kernel
theorem d_M_isGood_54 : decode (jyc Y_M_isGood) 54 = .ok (.ifCond .ne 7, 3) := by decide +kernel
theorem d_M_isGood_57 : decode (jyc Y_M_isGood) 57 = .ok (.iconst 1, 1) := by decide +kernel
theorem d_M_isGood_58 : decode (jyc Y_M_isGood) 58 = .ok (.goto 4, 3) := by decide +kernel
theorem d_M_isGood_61 : decode (jyc Y_M_isGood) 61 = .ok (.iconst 0, 1) := by decide +kernel
theorem d_M_isGood_62 : decode (jyc Y_M_isGood) 62 = .ok (.ireturn, 1) := by decide +kernel
theorem d_M_locate_0 : decode (jyc Y_M_locate) 0 = .ok (.aload_n 0, 1) := by decide +kernel
theorem d_M_locate_1 : decode (jyc Y_M_locate) 1 = .ok (.aload_n 0, 1) := by decide +kernel
theorem d_M_locate_2 : decode (jyc Y_M_locate) 2 = .ok (.iload_n 2, 1) := by decide +kernel
theorem d_M_locate_3 : decode (jyc Y_M_locate) 3 = .ok (.iload_n 1, 1) := by decide +kernel
theorem d_M_locate_4 : decode (jyc Y_M_locate) 4 = .ok (.invokevirtual 132, 3) := by decide +kernel
theorem d_M_locate_7 : decode (jyc Y_M_locate) 7 = .ok (.ifCond .eq 7, 3) := by decide +kernel
theorem d_M_locate_10 : decode (jyc Y_M_locate) 10 = .ok (.iconst 0, 1) := by decide +kernel
theorem d_M_locate_11 : decode (jyc Y_M_locate) 11 = .ok (.goto 4, 3) := by decide +kernel
theorem d_M_locate_14 : decode (jyc Y_M_locate) 14 = .ok (.iconst 1, 1) := by decide +kernel
theorem d_M_locate_15 : decode (jyc Y_M_locate) 15 = .ok (.putfield 63, 3) := by decide +kernel
theorem d_M_locate_18 : decode (jyc Y_M_locate) 18 = .ok (.aload_n 0, 1) := by decide +kernel
theorem d_M_locate_19 : decode (jyc Y_M_locate) 19 = .ok (.getfield 63, 3) := by decide +kernel
theorem d_M_locate_22 : decode (jyc Y_M_locate) 22 = .ok (.ifCond .le 5, 3) := by decide +kernel
theorem d_M_locate_25 : decode (jyc Y_M_locate) 25 = .ok (.iconst 0, 1) := by decide +kernel
theorem d_M_locate_26 : decode (jyc Y_M_locate) 26 = .ok (.ireturn, 1) := by decide +kernel
theorem d_M_locate_27 : decode (jyc Y_M_locate) 27 = .ok (.aload_n 0, 1) := by decide +kernel
theorem d_M_locate_28 : decode (jyc Y_M_locate) 28 = .ok (.iconst 0, 1) := by decide +kernel
theorem d_M_locate_29 : decode (jyc Y_M_locate) 29 = .ok (.putfield 155, 3) := by decide +kernel
theorem d_M_locate_32 : decode (jyc Y_M_locate) 32 = .ok (.iconst 0, 1) := by decide +kernel
theorem d_M_locate_33 : decode (jyc Y_M_locate) 33 = .ok (.istore_n 3, 1) := by decide +kernel
theorem d_M_locate_34 : decode (jyc Y_M_locate) 34 = .ok (.iload_n 3, 1) := by decide +kernel
theorem d_M_locate_35 : decode (jyc Y_M_locate) 35 = .ok (.aload_n 0, 1) := by decide +kernel
theorem d_M_locate_36 : decode (jyc Y_M_locate) 36 = .ok (.iload_n 1, 1) := by decide +kernel
theorem d_M_locate_37 : decode (jyc Y_M_locate) 37 = .ok (.invokevirtual 99, 3) := by decide +kernel
theorem d_M_locate_40 : decode (jyc Y_M_locate) 40 = .ok (.if_icmp .ge 39, 3) := by decide +kernel
theorem d_M_locate_43 : decode (jyc Y_M_locate) 43 = .ok (.aload_n 0, 1) := by decide +kernel
theorem d_M_locate_44 : decode (jyc Y_M_locate) 44 = .ok (.iload_n 2, 1) := by decide +kernel
theorem d_M_locate_45 : decode (jyc Y_M_locate) 45 = .ok (.iload_n 1, 1) := by decide +kernel
theorem d_M_locate_46 : decode (jyc Y_M_locate) 46 = .ok (.iload_n 3, 1) := by decide +kernel
theorem d_M_locate_47 : decode (jyc Y_M_locate) 47 = .ok (.invokevirtual 158, 3) := by decide +kernel
theorem d_M_locate_50 : decode (jyc Y_M_locate) 50 = .ok (.ifCond .ne 23, 3) := by decide +kernel
theorem d_M_locate_53 : decode (jyc Y_M_locate) 53 = .ok (.aload_n 0, 1) := by decide +kernel
theorem d_M_locate_54 : decode (jyc Y_M_locate) 54 = .ok (.getfield 47, 3) := by decide +kernel
theorem d_M_locate_57 : decode (jyc Y_M_locate) 57 = .ok (.aload_n 0, 1) := by decide +kernel
theorem d_M_locate_58 : decode (jyc Y_M_locate) 58 = .ok (.getfield 155, 3) := by decide +kernel
theorem d_M_locate_61 : decode (jyc Y_M_locate) 61 = .ok (.iload_n 3, 1) := by decide +kernel
theorem d_M_locate_62 : decode (jyc Y_M_locate) 62 = .ok (.iastore, 1) := by decide +kernel
theorem d_M_locate_63 : decode (jyc Y_M_locate) 63 = .ok (.aload_n 0, 1) := by decide +kernel
theorem d_M_locate_64 : decode (jyc Y_M_locate) 64 = .ok (.dup, 1) := by decide +kernel
theorem d_M_locate_65 : decode (jyc Y_M_locate) 65 = .ok (.getfield 155, 3) := by decide +kernel
theorem d_M_locate_68 : decode (jyc Y_M_locate) 68 = .ok (.iconst 1, 1) := by decide +kernel
theorem d_M_locate_69 : decode (jyc Y_M_locate) 69 = .ok (.iadd, 1) := by decide +kernel
theorem d_M_locate_70 : decode (jyc Y_M_locate) 70 = .ok (.putfield 155, 3) := by decide +kernel
theorem d_M_locate_73 : decode (jyc Y_M_locate) 73 = .ok (.iinc 3 1, 3) := by decide +kernel
theorem d_M_locate_76 : decode (jyc Y_M_locate) 76 = .ok (.goto (-42), 3) := by decide +kernel
theorem d_M_locate_79 : decode (jyc Y_M_locate) 79 = .ok (.aload_n 0, 1) := by decide +kernel
theorem d_M_locate_80 : decode (jyc Y_M_locate) 80 = .ok (.getfield 155, 3) := by decide +kernel
theorem d_M_locate_83 : decode (jyc Y_M_locate) 83 = .ok (.ireturn, 1) := by decide +kernel
theorem d_M_found_0 : decode (jyc Y_M_found) 0 = .ok (.aload_n 0, 1) := by decide +kernel
theorem d_M_found_1 : decode (jyc Y_M_found) 1 = .ok (.iconst 0, 1) := by decide +kernel
theorem d_M_found_2 : decode (jyc Y_M_found) 2 = .ok (.putfield 63, 3) := by decide +kernel
theorem d_M_found_5 : decode (jyc Y_M_found) 5 = .ok (.iload_n 1, 1) := by decide +kernel
theorem d_M_found_6 : decode (jyc Y_M_found) 6 = .ok (.ifCond .lt 11, 3) := by decide +kernel
theorem d_M_found_9 : decode (jyc Y_M_found) 9 = .ok (.iload_n 1, 1) := by decide +kernel
theorem d_M_found_10 : decode (jyc Y_M_found) 10 = .ok (.aload_n 0, 1) := by decide +kernel
theorem d_M_found_11 : decode (jyc Y_M_found) 11 = .ok (.getfield 155, 3) := by decide +kernel
theorem d_M_found_14 : decode (jyc Y_M_found) 14 = .ok (.if_icmp .lt 7, 3) := by decide +kernel
theorem d_M_found_17 : decode (jyc Y_M_found) 17 = .ok (.iconst (-1), 1) := by decide +kernel
theorem d_M_found_18 : decode (jyc Y_M_found) 18 = .ok (.goto 9, 3) := by decide +kernel
theorem d_M_found_21 : decode (jyc Y_M_found) 21 = .ok (.aload_n 0, 1) := by decide +kernel
theorem d_M_found_22 : decode (jyc Y_M_found) 22 = .ok (.getfield 47, 3) := by decide +kernel
theorem d_M_found_25 : decode (jyc Y_M_found) 25 = .ok (.iload_n 1, 1) := by decide +kernel
theorem d_M_found_26 : decode (jyc Y_M_found) 26 = .ok (.iaload, 1) := by decide +kernel
theorem d_M_found_27 : decode (jyc Y_M_found) 27 = .ok (.ireturn, 1) := by decide +kernel
theorem d_M_keeperOf_0 : decode (jyc Y_M_keeperOf) 0 = .ok (.iconst 0, 1) := by decide +kernel
theorem d_M_keeperOf_1 : decode (jyc Y_M_keeperOf) 1 = .ok (.istore_n 3, 1) := by decide +kernel
theorem d_M_keeperOf_2 : decode (jyc Y_M_keeperOf) 2 = .ok (.iload_n 3, 1) := by decide +kernel
theorem d_M_keeperOf_3 : decode (jyc Y_M_keeperOf) 3 = .ok (.iconst 4, 1) := by decide +kernel
theorem d_M_keeperOf_4 : decode (jyc Y_M_keeperOf) 4 = .ok (.if_icmp .ge 21, 3) := by decide +kernel
theorem d_M_keeperOf_7 : decode (jyc Y_M_keeperOf) 7 = .ok (.aload_n 0, 1) := by decide +kernel
theorem d_M_keeperOf_8 : decode (jyc Y_M_keeperOf) 8 = .ok (.iload_n 3, 1) := by decide +kernel
theorem d_M_keeperOf_9 : decode (jyc Y_M_keeperOf) 9 = .ok (.iload_n 1, 1) := by decide +kernel
theorem d_M_keeperOf_10 : decode (jyc Y_M_keeperOf) 10 = .ok (.iload_n 2, 1) := by decide +kernel
theorem d_M_keeperOf_11 : decode (jyc Y_M_keeperOf) 11 = .ok (.invokevirtual 158, 3) := by decide +kernel
theorem d_M_keeperOf_14 : decode (jyc Y_M_keeperOf) 14 = .ok (.ifCond .eq 5, 3) := by decide +kernel
theorem d_M_keeperOf_17 : decode (jyc Y_M_keeperOf) 17 = .ok (.iload_n 3, 1) := by decide +kernel
theorem d_M_keeperOf_18 : decode (jyc Y_M_keeperOf) 18 = .ok (.ireturn, 1) := by decide +kernel
theorem d_M_keeperOf_19 : decode (jyc Y_M_keeperOf) 19 = .ok (.iinc 3 1, 3) := by decide +kernel
theorem d_M_keeperOf_22 : decode (jyc Y_M_keeperOf) 22 = .ok (.goto (-20), 3) := by decide +kernel
theorem d_M_keeperOf_25 : decode (jyc Y_M_keeperOf) 25 = .ok (.iconst (-1), 1) := by decide +kernel
theorem d_M_keeperOf_26 : decode (jyc Y_M_keeperOf) 26 = .ok (.ireturn, 1) := by decide +kernel
theorem d_M_sum_0 : decode (jyc Y_M_sum) 0 = .ok (.iload_n 3, 1) := by decide +kernel
theorem d_M_sum_1 : decode (jyc Y_M_sum) 1 = .ok (.bipush 6, 2) := by decide +kernel
theorem d_M_sum_3 : decode (jyc Y_M_sum) 3 = .ok (.irem, 1) := by decide +kernel
theorem d_M_sum_4 : decode (jyc Y_M_sum) 4 = .ok (.istore 5, 2) := by decide +kernel
theorem d_M_sum_6 : decode (jyc Y_M_sum) 6 = .ok (.iconst 0, 1) := by decide +kernel
theorem d_M_sum_7 : decode (jyc Y_M_sum) 7 = .ok (.istore 6, 2) := by decide +kernel
theorem d_M_sum_9 : decode (jyc Y_M_sum) 9 = .ok (.iload 6, 2) := by decide +kernel
theorem d_M_sum_11 : decode (jyc Y_M_sum) 11 = .ok (.iconst 4, 1) := by decide +kernel
theorem d_M_sum_12 : decode (jyc Y_M_sum) 12 = .ok (.if_icmp .ge 81, 3) := by decide +kernel
theorem d_M_sum_15 : decode (jyc Y_M_sum) 15 = .ok (.aload_n 0, 1) := by decide +kernel
theorem d_M_sum_16 : decode (jyc Y_M_sum) 16 = .ok (.getfield 56, 3) := by decide +kernel
theorem d_M_sum_19 : decode (jyc Y_M_sum) 19 = .ok (.bipush 8, 2) := by decide +kernel
theorem d_M_sum_21 : decode (jyc Y_M_sum) 21 = .ok (.iload_n 1, 1) := by decide +kernel
theorem d_M_sum_22 : decode (jyc Y_M_sum) 22 = .ok (.imul, 1) := by decide +kernel
theorem d_M_sum_23 : decode (jyc Y_M_sum) 23 = .ok (.iload 6, 2) := by decide +kernel
theorem d_M_sum_25 : decode (jyc Y_M_sum) 25 = .ok (.iadd, 1) := by decide +kernel
theorem d_M_sum_26 : decode (jyc Y_M_sum) 26 = .ok (.iload 5, 2) := by decide +kernel
theorem d_M_sum_28 : decode (jyc Y_M_sum) 28 = .ok (.iconst 4, 1) := by decide +kernel
theorem d_M_sum_29 : decode (jyc Y_M_sum) 29 = .ok (.if_icmp .ge 18, 3) := by decide +kernel
theorem d_M_sum_32 : decode (jyc Y_M_sum) 32 = .ok (.iload 5, 2) := by decide +kernel
theorem d_M_sum_34 : decode (jyc Y_M_sum) 34 = .ok (.iload 6, 2) := by decide +kernel
theorem d_M_sum_36 : decode (jyc Y_M_sum) 36 = .ok (.if_icmp .ne 7, 3) := by decide +kernel
theorem d_M_sum_39 : decode (jyc Y_M_sum) 39 = .ok (.lconst 1, 1) := by decide +kernel
theorem d_M_sum_40 : decode (jyc Y_M_sum) 40 = .ok (.goto 16, 3) := by decide +kernel
theorem d_M_sum_43 : decode (jyc Y_M_sum) 43 = .ok (.lconst 0, 1) := by decide +kernel
theorem d_M_sum_44 : decode (jyc Y_M_sum) 44 = .ok (.goto 12, 3) := by decide +kernel
theorem d_M_sum_47 : decode (jyc Y_M_sum) 47 = .ok (.iload 5, 2) := by decide +kernel
theorem d_M_sum_49 : decode (jyc Y_M_sum) 49 = .ok (.iload 6, 2) := by decide +kernel
theorem d_M_sum_51 : decode (jyc Y_M_sum) 51 = .ok (.isub, 1) := by decide +kernel
theorem d_M_sum_52 : decode (jyc Y_M_sum) 52 = .ok (.i2l, 1) := by decide +kernel
theorem d_M_sum_53 : decode (jyc Y_M_sum) 53 = .ok (.invokestatic 103, 3) := by decide +kernel
theorem d_M_sum_56 : decode (jyc Y_M_sum) 56 = .ok (.lastore, 1) := by decide +kernel
theorem d_M_sum_57 : decode (jyc Y_M_sum) 57 = .ok (.aload_n 0, 1) := by decide +kernel
theorem d_M_sum_58 : decode (jyc Y_M_sum) 58 = .ok (.getfield 56, 3) := by decide +kernel
theorem d_M_sum_61 : decode (jyc Y_M_sum) 61 = .ok (.bipush 8, 2) := by decide +kernel
theorem d_M_sum_63 : decode (jyc Y_M_sum) 63 = .ok (.iload_n 1, 1) := by decide +kernel
theorem d_M_sum_64 : decode (jyc Y_M_sum) 64 = .ok (.imul, 1) := by decide +kernel
theorem d_M_sum_65 : decode (jyc Y_M_sum) 65 = .ok (.iconst 4, 1) := by decide +kernel
theorem d_M_sum_66 : decode (jyc Y_M_sum) 66 = .ok (.iadd, 1) := by decide +kernel
theorem d_M_sum_67 : decode (jyc Y_M_sum) 67 = .ok (.iload 6, 2) := by decide +kernel
theorem d_M_sum_69 : decode (jyc Y_M_sum) 69 = .ok (.iadd, 1) := by decide +kernel
theorem d_M_sum_70 : decode (jyc Y_M_sum) 70 = .ok (.aload_n 0, 1) := by decide +kernel
theorem d_M_sum_71 : decode (jyc Y_M_sum) 71 = .ok (.getfield 23, 3) := by decide +kernel
theorem d_M_sum_74 : decode (jyc Y_M_sum) 74 = .ok (.iload 4, 2) := by decide +kernel
theorem d_M_sum_76 : decode (jyc Y_M_sum) 76 = .ok (.iload_n 2, 1) := by decide +kernel
theorem d_M_sum_77 : decode (jyc Y_M_sum) 77 = .ok (.iload_n 3, 1) := by decide +kernel
theorem d_M_sum_78 : decode (jyc Y_M_sum) 78 = .ok (.invokestatic 125, 3) := by decide +kernel
theorem d_M_sum_81 : decode (jyc Y_M_sum) 81 = .ok (.iload 6, 2) := by decide +kernel
theorem d_M_sum_83 : decode (jyc Y_M_sum) 83 = .ok (.iadd, 1) := by decide +kernel
theorem d_M_sum_84 : decode (jyc Y_M_sum) 84 = .ok (.iaload, 1) := by decide +kernel
theorem d_M_sum_85 : decode (jyc Y_M_sum) 85 = .ok (.i2l, 1) := by decide +kernel
theorem d_M_sum_86 : decode (jyc Y_M_sum) 86 = .ok (.lastore, 1) := by decide +kernel
theorem d_M_sum_87 : decode (jyc Y_M_sum) 87 = .ok (.iinc 6 1, 3) := by decide +kernel
theorem d_M_sum_90 : decode (jyc Y_M_sum) 90 = .ok (.goto (-81), 3) := by decide +kernel
theorem d_M_sum_93 : decode (jyc Y_M_sum) 93 = .ok (.return_, 1) := by decide +kernel
theorem d_M_solve_0 : decode (jyc Y_M_solve) 0 = .ok (.iconst 0, 1) := by decide +kernel
theorem d_M_solve_1 : decode (jyc Y_M_solve) 1 = .ok (.istore_n 1, 1) := by decide +kernel
theorem d_M_solve_2 : decode (jyc Y_M_solve) 2 = .ok (.iload_n 1, 1) := by decide +kernel
theorem d_M_solve_3 : decode (jyc Y_M_solve) 3 = .ok (.iconst 4, 1) := by decide +kernel
theorem d_M_solve_4 : decode (jyc Y_M_solve) 4 = .ok (.if_icmp .ge 261, 3) := by decide +kernel
theorem d_M_solve_7 : decode (jyc Y_M_solve) 7 = .ok (.iload_n 1, 1) := by decide +kernel
theorem d_M_solve_8 : decode (jyc Y_M_solve) 8 = .ok (.istore_n 2, 1) := by decide +kernel
theorem d_M_solve_9 : decode (jyc Y_M_solve) 9 = .ok (.aload_n 0, 1) := by decide +kernel
theorem d_M_solve_10 : decode (jyc Y_M_solve) 10 = .ok (.getfield 56, 3) := by decide +kernel
theorem d_M_solve_13 : decode (jyc Y_M_solve) 13 = .ok (.bipush 8, 2) := by decide +kernel
theorem d_M_solve_15 : decode (jyc Y_M_solve) 15 = .ok (.iload_n 2, 1) := by decide +kernel
theorem d_M_solve_16 : decode (jyc Y_M_solve) 16 = .ok (.imul, 1) := by decide +kernel
theorem d_M_solve_17 : decode (jyc Y_M_solve) 17 = .ok (.iload_n 1, 1) := by decide +kernel
theorem d_M_solve_18 : decode (jyc Y_M_solve) 18 = .ok (.iadd, 1) := by decide +kernel
theorem d_M_solve_19 : decode (jyc Y_M_solve) 19 = .ok (.laload, 1) := by decide +kernel
theorem d_M_solve_20 : decode (jyc Y_M_solve) 20 = .ok (.lconst 0, 1) := by decide +kernel
theorem d_M_solve_21 : decode (jyc Y_M_solve) 21 = .ok (.lcmp, 1) := by decide +kernel
theorem d_M_solve_22 : decode (jyc Y_M_solve) 22 = .ok (.ifCond .ne 9, 3) := by decide +kernel
theorem d_M_solve_25 : decode (jyc Y_M_solve) 25 = .ok (.iinc 2 1, 3) := by decide +kernel
theorem d_M_solve_28 : decode (jyc Y_M_solve) 28 = .ok (.goto (-19), 3) := by decide +kernel
theorem d_M_solve_31 : decode (jyc Y_M_solve) 31 = .ok (.iconst 0, 1) := by decide +kernel
theorem d_M_solve_32 : decode (jyc Y_M_solve) 32 = .ok (.istore_n 3, 1) := by decide +kernel
theorem d_M_solve_33 : decode (jyc Y_M_solve) 33 = .ok (.iload_n 3, 1) := by decide +kernel
theorem d_M_solve_34 : decode (jyc Y_M_solve) 34 = .ok (.bipush 8, 2) := by decide +kernel
theorem d_M_solve_36 : decode (jyc Y_M_solve) 36 = .ok (.if_icmp .ge 57, 3) := by decide +kernel
theorem d_M_solve_39 : decode (jyc Y_M_solve) 39 = .ok (.aload_n 0, 1) := by decide +kernel
theorem d_M_solve_40 : decode (jyc Y_M_solve) 40 = .ok (.getfield 56, 3) := by decide +kernel
theorem d_M_solve_43 : decode (jyc Y_M_solve) 43 = .ok (.bipush 8, 2) := by decide +kernel
theorem d_M_solve_45 : decode (jyc Y_M_solve) 45 = .ok (.iload_n 2, 1) := by decide +kernel
theorem d_M_solve_46 : decode (jyc Y_M_solve) 46 = .ok (.imul, 1) := by decide +kernel
theorem d_M_solve_47 : decode (jyc Y_M_solve) 47 = .ok (.iload_n 3, 1) := by decide +kernel
theorem d_M_solve_48 : decode (jyc Y_M_solve) 48 = .ok (.iadd, 1) := by decide +kernel
theorem d_M_solve_49 : decode (jyc Y_M_solve) 49 = .ok (.laload, 1) := by decide +kernel
theorem d_M_solve_50 : decode (jyc Y_M_solve) 50 = .ok (.lstore 4, 2) := by decide +kernel
theorem d_M_solve_52 : decode (jyc Y_M_solve) 52 = .ok (.aload_n 0, 1) := by decide +kernel
theorem d_M_solve_53 : decode (jyc Y_M_solve) 53 = .ok (.getfield 56, 3) := by decide +kernel
theorem d_M_solve_56 : decode (jyc Y_M_solve) 56 = .ok (.bipush 8, 2) := by decide +kernel
theorem d_M_solve_58 : decode (jyc Y_M_solve) 58 = .ok (.iload_n 2, 1) := by decide +kernel
theorem d_M_solve_59 : decode (jyc Y_M_solve) 59 = .ok (.imul, 1) := by decide +kernel
theorem d_M_solve_60 : decode (jyc Y_M_solve) 60 = .ok (.iload_n 3, 1) := by decide +kernel
theorem d_M_solve_61 : decode (jyc Y_M_solve) 61 = .ok (.iadd, 1) := by decide +kernel
theorem d_M_solve_62 : decode (jyc Y_M_solve) 62 = .ok (.aload_n 0, 1) := by decide +kernel
theorem d_M_solve_63 : decode (jyc Y_M_solve) 63 = .ok (.getfield 56, 3) := by decide +kernel
theorem d_M_solve_66 : decode (jyc Y_M_solve) 66 = .ok (.bipush 8, 2) := by decide +kernel
theorem d_M_solve_68 : decode (jyc Y_M_solve) 68 = .ok (.iload_n 1, 1) := by decide +kernel
theorem d_M_solve_69 : decode (jyc Y_M_solve) 69 = .ok (.imul, 1) := by decide +kernel
theorem d_M_solve_70 : decode (jyc Y_M_solve) 70 = .ok (.iload_n 3, 1) := by decide +kernel
theorem d_M_solve_71 : decode (jyc Y_M_solve) 71 = .ok (.iadd, 1) := by decide +kernel
theorem d_M_solve_72 : decode (jyc Y_M_solve) 72 = .ok (.laload, 1) := by decide +kernel
theorem d_M_solve_73 : decode (jyc Y_M_solve) 73 = .ok (.lastore, 1) := by decide +kernel
theorem d_M_solve_74 : decode (jyc Y_M_solve) 74 = .ok (.aload_n 0, 1) := by decide +kernel
theorem d_M_solve_75 : decode (jyc Y_M_solve) 75 = .ok (.getfield 56, 3) := by decide +kernel
theorem d_M_solve_78 : decode (jyc Y_M_solve) 78 = .ok (.bipush 8, 2) := by decide +kernel
theorem d_M_solve_80 : decode (jyc Y_M_solve) 80 = .ok (.iload_n 1, 1) := by decide +kernel
theorem d_M_solve_81 : decode (jyc Y_M_solve) 81 = .ok (.imul, 1) := by decide +kernel
theorem d_M_solve_82 : decode (jyc Y_M_solve) 82 = .ok (.iload_n 3, 1) := by decide +kernel
theorem d_M_solve_83 : decode (jyc Y_M_solve) 83 = .ok (.iadd, 1) := by decide +kernel
theorem d_M_solve_84 : decode (jyc Y_M_solve) 84 = .ok (.lload 4, 2) := by decide +kernel
theorem d_M_solve_86 : decode (jyc Y_M_solve) 86 = .ok (.lastore, 1) := by decide +kernel
theorem d_M_solve_87 : decode (jyc Y_M_solve) 87 = .ok (.iinc 3 1, 3) := by decide +kernel
theorem d_M_solve_90 : decode (jyc Y_M_solve) 90 = .ok (.goto (-57), 3) := by decide +kernel
theorem d_M_solve_93 : decode (jyc Y_M_solve) 93 = .ok (.aload_n 0, 1) := by decide +kernel
theorem d_M_solve_94 : decode (jyc Y_M_solve) 94 = .ok (.getfield 56, 3) := by decide +kernel
theorem d_M_solve_97 : decode (jyc Y_M_solve) 97 = .ok (.bipush 8, 2) := by decide +kernel
theorem d_M_solve_99 : decode (jyc Y_M_solve) 99 = .ok (.iload_n 1, 1) := by decide +kernel
theorem d_M_solve_100 : decode (jyc Y_M_solve) 100 = .ok (.imul, 1) := by decide +kernel
theorem d_M_solve_101 : decode (jyc Y_M_solve) 101 = .ok (.iload_n 1, 1) := by decide +kernel
theorem d_M_solve_102 : decode (jyc Y_M_solve) 102 = .ok (.iadd, 1) := by decide +kernel
theorem d_M_solve_103 : decode (jyc Y_M_solve) 103 = .ok (.laload, 1) := by decide +kernel
theorem d_M_solve_104 : decode (jyc Y_M_solve) 104 = .ok (.invokestatic 103, 3) := by decide +kernel
theorem d_M_solve_107 : decode (jyc Y_M_solve) 107 = .ok (.lstore_n 3, 1) := by decide +kernel
theorem d_M_solve_108 : decode (jyc Y_M_solve) 108 = .ok (.iconst 0, 1) := by decide +kernel
theorem d_M_solve_109 : decode (jyc Y_M_solve) 109 = .ok (.istore 5, 2) := by decide +kernel
theorem d_M_solve_111 : decode (jyc Y_M_solve) 111 = .ok (.iload 5, 2) := by decide +kernel
theorem d_M_solve_113 : decode (jyc Y_M_solve) 113 = .ok (.bipush 8, 2) := by decide +kernel
theorem d_M_solve_115 : decode (jyc Y_M_solve) 115 = .ok (.if_icmp .ge 39, 3) := by decide +kernel
theorem d_M_solve_118 : decode (jyc Y_M_solve) 118 = .ok (.aload_n 0, 1) := by decide +kernel
theorem d_M_solve_119 : decode (jyc Y_M_solve) 119 = .ok (.getfield 56, 3) := by decide +kernel
theorem d_M_solve_122 : decode (jyc Y_M_solve) 122 = .ok (.bipush 8, 2) := by decide +kernel
theorem d_M_solve_124 : decode (jyc Y_M_solve) 124 = .ok (.iload_n 1, 1) := by decide +kernel
theorem d_M_solve_125 : decode (jyc Y_M_solve) 125 = .ok (.imul, 1) := by decide +kernel
theorem d_M_solve_126 : decode (jyc Y_M_solve) 126 = .ok (.iload 5, 2) := by decide +kernel
theorem d_M_solve_128 : decode (jyc Y_M_solve) 128 = .ok (.iadd, 1) := by decide +kernel
theorem d_M_solve_129 : decode (jyc Y_M_solve) 129 = .ok (.aload_n 0, 1) := by decide +kernel
theorem d_M_solve_130 : decode (jyc Y_M_solve) 130 = .ok (.getfield 56, 3) := by decide +kernel
theorem d_M_solve_133 : decode (jyc Y_M_solve) 133 = .ok (.bipush 8, 2) := by decide +kernel
theorem d_M_solve_135 : decode (jyc Y_M_solve) 135 = .ok (.iload_n 1, 1) := by decide +kernel
theorem d_M_solve_136 : decode (jyc Y_M_solve) 136 = .ok (.imul, 1) := by decide +kernel
theorem d_M_solve_137 : decode (jyc Y_M_solve) 137 = .ok (.iload 5, 2) := by decide +kernel
theorem d_M_solve_139 : decode (jyc Y_M_solve) 139 = .ok (.iadd, 1) := by decide +kernel
theorem d_M_solve_140 : decode (jyc Y_M_solve) 140 = .ok (.laload, 1) := by decide +kernel
theorem d_M_solve_141 : decode (jyc Y_M_solve) 141 = .ok (.lload_n 3, 1) := by decide +kernel
theorem d_M_solve_142 : decode (jyc Y_M_solve) 142 = .ok (.lmul, 1) := by decide +kernel
theorem d_M_solve_143 : decode (jyc Y_M_solve) 143 = .ok (.ldc2_w 67, 3) := by decide +kernel
theorem d_M_solve_146 : decode (jyc Y_M_solve) 146 = .ok (.lrem, 1) := by decide +kernel
theorem d_M_solve_147 : decode (jyc Y_M_solve) 147 = .ok (.lastore, 1) := by decide +kernel
theorem d_M_solve_148 : decode (jyc Y_M_solve) 148 = .ok (.iinc 5 1, 3) := by decide +kernel
theorem d_M_solve_151 : decode (jyc Y_M_solve) 151 = .ok (.goto (-40), 3) := by decide +kernel
theorem d_M_solve_154 : decode (jyc Y_M_solve) 154 = .ok (.iconst 0, 1) := by decide +kernel
theorem d_M_solve_155 : decode (jyc Y_M_solve) 155 = .ok (.istore 5, 2) := by decide +kernel
theorem d_M_solve_157 : decode (jyc Y_M_solve) 157 = .ok (.iload 5, 2) := by decide +kernel
theorem d_M_solve_159 : decode (jyc Y_M_solve) 159 = .ok (.iconst 4, 1) := by decide +kernel
theorem d_M_solve_160 : decode (jyc Y_M_solve) 160 = .ok (.if_icmp .ge 99, 3) := by decide +kernel
theorem d_M_solve_163 : decode (jyc Y_M_solve) 163 = .ok (.iload 5, 2) := by decide +kernel
theorem d_M_solve_165 : decode (jyc Y_M_solve) 165 = .ok (.iload_n 1, 1) := by decide +kernel
theorem d_M_solve_166 : decode (jyc Y_M_solve) 166 = .ok (.if_icmp .ne 7, 3) := by decide +kernel
theorem d_M_solve_169 : decode (jyc Y_M_solve) 169 = .ok (.lconst 0, 1) := by decide +kernel
theorem d_M_solve_170 : decode (jyc Y_M_solve) 170 = .ok (.goto 15, 3) := by decide +kernel
theorem d_M_solve_173 : decode (jyc Y_M_solve) 173 = .ok (.aload_n 0, 1) := by decide +kernel
theorem d_M_solve_174 : decode (jyc Y_M_solve) 174 = .ok (.getfield 56, 3) := by decide +kernel
theorem d_M_solve_177 : decode (jyc Y_M_solve) 177 = .ok (.bipush 8, 2) := by decide +kernel
theorem d_M_solve_179 : decode (jyc Y_M_solve) 179 = .ok (.iload 5, 2) := by decide +kernel
theorem d_M_solve_181 : decode (jyc Y_M_solve) 181 = .ok (.imul, 1) := by decide +kernel
theorem d_M_solve_182 : decode (jyc Y_M_solve) 182 = .ok (.iload_n 1, 1) := by decide +kernel
theorem d_M_solve_183 : decode (jyc Y_M_solve) 183 = .ok (.iadd, 1) := by decide +kernel
theorem d_M_solve_184 : decode (jyc Y_M_solve) 184 = .ok (.laload, 1) := by decide +kernel
theorem d_M_solve_185 : decode (jyc Y_M_solve) 185 = .ok (.lstore 6, 2) := by decide +kernel
theorem d_M_solve_187 : decode (jyc Y_M_solve) 187 = .ok (.iconst 0, 1) := by decide +kernel
theorem d_M_solve_188 : decode (jyc Y_M_solve) 188 = .ok (.istore 8, 2) := by decide +kernel
theorem d_M_solve_190 : decode (jyc Y_M_solve) 190 = .ok (.iload 8, 2) := by decide +kernel
theorem d_M_solve_192 : decode (jyc Y_M_solve) 192 = .ok (.bipush 8, 2) := by decide +kernel
theorem d_M_solve_194 : decode (jyc Y_M_solve) 194 = .ok (.if_icmp .ge 59, 3) := by decide +kernel
theorem d_M_solve_197 : decode (jyc Y_M_solve) 197 = .ok (.aload_n 0, 1) := by decide +kernel
theorem d_M_solve_198 : decode (jyc Y_M_solve) 198 = .ok (.getfield 56, 3) := by decide +kernel
theorem d_M_solve_201 : decode (jyc Y_M_solve) 201 = .ok (.bipush 8, 2) := by decide +kernel
theorem d_M_solve_203 : decode (jyc Y_M_solve) 203 = .ok (.iload 5, 2) := by decide +kernel
theorem d_M_solve_205 : decode (jyc Y_M_solve) 205 = .ok (.imul, 1) := by decide +kernel
theorem d_M_solve_206 : decode (jyc Y_M_solve) 206 = .ok (.iload 8, 2) := by decide +kernel
theorem d_M_solve_208 : decode (jyc Y_M_solve) 208 = .ok (.iadd, 1) := by decide +kernel
theorem d_M_solve_209 : decode (jyc Y_M_solve) 209 = .ok (.aload_n 0, 1) := by decide +kernel
theorem d_M_solve_210 : decode (jyc Y_M_solve) 210 = .ok (.getfield 56, 3) := by decide +kernel
theorem d_M_solve_213 : decode (jyc Y_M_solve) 213 = .ok (.bipush 8, 2) := by decide +kernel
theorem d_M_solve_215 : decode (jyc Y_M_solve) 215 = .ok (.iload 5, 2) := by decide +kernel
theorem d_M_solve_217 : decode (jyc Y_M_solve) 217 = .ok (.imul, 1) := by decide +kernel
theorem d_M_solve_218 : decode (jyc Y_M_solve) 218 = .ok (.iload 8, 2) := by decide +kernel
theorem d_M_solve_220 : decode (jyc Y_M_solve) 220 = .ok (.iadd, 1) := by decide +kernel
theorem d_M_solve_221 : decode (jyc Y_M_solve) 221 = .ok (.laload, 1) := by decide +kernel
theorem d_M_solve_222 : decode (jyc Y_M_solve) 222 = .ok (.ldc2_w 67, 3) := by decide +kernel
theorem d_M_solve_225 : decode (jyc Y_M_solve) 225 = .ok (.lload 6, 2) := by decide +kernel
theorem d_M_solve_227 : decode (jyc Y_M_solve) 227 = .ok (.lsub, 1) := by decide +kernel
theorem d_M_solve_228 : decode (jyc Y_M_solve) 228 = .ok (.aload_n 0, 1) := by decide +kernel
theorem d_M_solve_229 : decode (jyc Y_M_solve) 229 = .ok (.getfield 56, 3) := by decide +kernel
theorem d_M_solve_232 : decode (jyc Y_M_solve) 232 = .ok (.bipush 8, 2) := by decide +kernel
theorem d_M_solve_234 : decode (jyc Y_M_solve) 234 = .ok (.iload_n 1, 1) := by decide +kernel
theorem d_M_solve_235 : decode (jyc Y_M_solve) 235 = .ok (.imul, 1) := by decide +kernel
theorem d_M_solve_236 : decode (jyc Y_M_solve) 236 = .ok (.iload 8, 2) := by decide +kernel
theorem d_M_solve_238 : decode (jyc Y_M_solve) 238 = .ok (.iadd, 1) := by decide +kernel
theorem d_M_solve_239 : decode (jyc Y_M_solve) 239 = .ok (.laload, 1) := by decide +kernel
theorem d_M_solve_240 : decode (jyc Y_M_solve) 240 = .ok (.lmul, 1) := by decide +kernel
theorem d_M_solve_241 : decode (jyc Y_M_solve) 241 = .ok (.ladd, 1) := by decide +kernel
theorem d_M_solve_242 : decode (jyc Y_M_solve) 242 = .ok (.ldc2_w 67, 3) := by decide +kernel
theorem d_M_solve_245 : decode (jyc Y_M_solve) 245 = .ok (.lrem, 1) := by decide +kernel
theorem d_M_solve_246 : decode (jyc Y_M_solve) 246 = .ok (.lastore, 1) := by decide +kernel
theorem d_M_solve_247 : decode (jyc Y_M_solve) 247 = .ok (.iinc 8 1, 3) := by decide +kernel
theorem d_M_solve_250 : decode (jyc Y_M_solve) 250 = .ok (.goto (-60), 3) := by decide +kernel
theorem d_M_solve_253 : decode (jyc Y_M_solve) 253 = .ok (.iinc 5 1, 3) := by decide +kernel
theorem d_M_solve_256 : decode (jyc Y_M_solve) 256 = .ok (.goto (-99), 3) := by decide +kernel
theorem d_M_solve_259 : decode (jyc Y_M_solve) 259 = .ok (.iinc 1 1, 3) := by decide +kernel
theorem d_M_solve_262 : decode (jyc Y_M_solve) 262 = .ok (.goto (-260), 3) := by decide +kernel
theorem d_M_solve_265 : decode (jyc Y_M_solve) 265 = .ok (.return_, 1) := by decide +kernel
theorem d_M_gather_0 : decode (jyc Y_M_gather) 0 = .ok (.iconst 0, 1) := by decide +kernel
theorem d_M_gather_1 : decode (jyc Y_M_gather) 1 = .ok (.istore_n 2, 1) := by decide +kernel
theorem d_M_gather_2 : decode (jyc Y_M_gather) 2 = .ok (.iload_n 2, 1) := by decide +kernel
theorem d_M_gather_3 : decode (jyc Y_M_gather) 3 = .ok (.bipush 64, 2) := by decide +kernel
theorem d_M_gather_5 : decode (jyc Y_M_gather) 5 = .ok (.if_icmp .ge 16, 3) := by decide +kernel
theorem d_M_gather_8 : decode (jyc Y_M_gather) 8 = .ok (.aload_n 0, 1) := by decide +kernel
theorem d_M_gather_9 : decode (jyc Y_M_gather) 9 = .ok (.getfield 53, 3) := by decide +kernel
theorem d_M_gather_12 : decode (jyc Y_M_gather) 12 = .ok (.iload_n 2, 1) := by decide +kernel
theorem d_M_gather_13 : decode (jyc Y_M_gather) 13 = .ok (.iconst 0, 1) := by decide +kernel
theorem d_M_gather_14 : decode (jyc Y_M_gather) 14 = .ok (.iastore, 1) := by decide +kernel
theorem d_M_gather_15 : decode (jyc Y_M_gather) 15 = .ok (.iinc 2 1, 3) := by decide +kernel
theorem d_M_gather_18 : decode (jyc Y_M_gather) 18 = .ok (.goto (-16), 3) := by decide +kernel
theorem d_M_gather_21 : decode (jyc Y_M_gather) 21 = .ok (.iconst 0, 1) := by decide +kernel
theorem d_M_gather_22 : decode (jyc Y_M_gather) 22 = .ok (.istore_n 2, 1) := by decide +kernel
theorem d_M_gather_23 : decode (jyc Y_M_gather) 23 = .ok (.iload_n 2, 1) := by decide +kernel
theorem d_M_gather_24 : decode (jyc Y_M_gather) 24 = .ok (.aload_n 0, 1) := by decide +kernel
theorem d_M_gather_25 : decode (jyc Y_M_gather) 25 = .ok (.iload_n 1, 1) := by decide +kernel
theorem d_M_gather_26 : decode (jyc Y_M_gather) 26 = .ok (.invokevirtual 99, 3) := by decide +kernel
theorem d_M_gather_29 : decode (jyc Y_M_gather) 29 = .ok (.bipush 6, 2) := by decide +kernel
theorem d_M_gather_31 : decode (jyc Y_M_gather) 31 = .ok (.idiv, 1) := by decide +kernel
theorem d_M_gather_32 : decode (jyc Y_M_gather) 32 = .ok (.if_icmp .ge 141, 3) := by decide +kernel
theorem d_M_gather_35 : decode (jyc Y_M_gather) 35 = .ok (.iconst 0, 1) := by decide +kernel
theorem d_M_gather_36 : decode (jyc Y_M_gather) 36 = .ok (.istore_n 3, 1) := by decide +kernel
theorem d_M_gather_37 : decode (jyc Y_M_gather) 37 = .ok (.bipush 6, 2) := by decide +kernel
theorem d_M_gather_39 : decode (jyc Y_M_gather) 39 = .ok (.iload_n 2, 1) := by decide +kernel
theorem d_M_gather_40 : decode (jyc Y_M_gather) 40 = .ok (.imul, 1) := by decide +kernel
theorem d_M_gather_41 : decode (jyc Y_M_gather) 41 = .ok (.istore 4, 2) := by decide +kernel
theorem d_M_gather_43 : decode (jyc Y_M_gather) 43 = .ok (.iload 4, 2) := by decide +kernel
theorem d_M_gather_45 : decode (jyc Y_M_gather) 45 = .ok (.bipush 6, 2) := by decide +kernel
theorem d_M_gather_47 : decode (jyc Y_M_gather) 47 = .ok (.iload_n 2, 1) := by decide +kernel
theorem d_M_gather_48 : decode (jyc Y_M_gather) 48 = .ok (.imul, 1) := by decide +kernel
theorem d_M_gather_49 : decode (jyc Y_M_gather) 49 = .ok (.bipush 6, 2) := by decide +kernel
theorem d_M_gather_51 : decode (jyc Y_M_gather) 51 = .ok (.iadd, 1) := by decide +kernel
theorem d_M_gather_52 : decode (jyc Y_M_gather) 52 = .ok (.if_icmp .ge 41, 3) := by decide +kernel
theorem d_M_gather_55 : decode (jyc Y_M_gather) 55 = .ok (.iload_n 3, 1) := by decide +kernel
theorem d_M_gather_56 : decode (jyc Y_M_gather) 56 = .ok (.iconst 4, 1) := by decide +kernel
theorem d_M_gather_57 : decode (jyc Y_M_gather) 57 = .ok (.if_icmp .ge 36, 3) := by decide +kernel
theorem d_M_gather_60 : decode (jyc Y_M_gather) 60 = .ok (.aload_n 0, 1) := by decide +kernel
theorem d_M_gather_61 : decode (jyc Y_M_gather) 61 = .ok (.iload_n 1, 1) := by decide +kernel
theorem d_M_gather_62 : decode (jyc Y_M_gather) 62 = .ok (.iload 4, 2) := by decide +kernel
theorem d_M_gather_64 : decode (jyc Y_M_gather) 64 = .ok (.invokevirtual 161, 3) := by decide +kernel
theorem d_M_gather_67 : decode (jyc Y_M_gather) 67 = .ok (.istore 5, 2) := by decide +kernel
theorem d_M_gather_69 : decode (jyc Y_M_gather) 69 = .ok (.iload 5, 2) := by decide +kernel
theorem d_M_gather_71 : decode (jyc Y_M_gather) 71 = .ok (.ifCond .lt 16, 3) := by decide +kernel
theorem d_M_gather_74 : decode (jyc Y_M_gather) 74 = .ok (.aload_n 0, 1) := by decide +kernel
theorem d_M_gather_75 : decode (jyc Y_M_gather) 75 = .ok (.iload_n 3, 1) := by decide +kernel
theorem d_M_gather_76 : decode (jyc Y_M_gather) 76 = .ok (.iload_n 1, 1) := by decide +kernel
theorem d_M_gather_77 : decode (jyc Y_M_gather) 77 = .ok (.iload 4, 2) := by decide +kernel
theorem d_M_gather_79 : decode (jyc Y_M_gather) 79 = .ok (.iload 5, 2) := by decide +kernel
theorem d_M_gather_81 : decode (jyc Y_M_gather) 81 = .ok (.invokevirtual 165, 3) := by decide +kernel
theorem d_M_gather_84 : decode (jyc Y_M_gather) 84 = .ok (.iinc 3 1, 3) := by decide +kernel
theorem d_M_gather_87 : decode (jyc Y_M_gather) 87 = .ok (.iinc 4 1, 3) := by decide +kernel
