/-! what each instruction is, part 2 -/
theorem d_M_gather_90 : decode (jyc Y_M_gather) 90 = .ok (.goto (-47), 3) := by decide +kernel
theorem d_M_gather_93 : decode (jyc Y_M_gather) 93 = .ok (.iload_n 3, 1) := by decide +kernel
theorem d_M_gather_94 : decode (jyc Y_M_gather) 94 = .ok (.iconst 4, 1) := by decide +kernel
theorem d_M_gather_95 : decode (jyc Y_M_gather) 95 = .ok (.if_icmp .ge 5, 3) := by decide +kernel
theorem d_M_gather_98 : decode (jyc Y_M_gather) 98 = .ok (.iconst 0, 1) := by decide +kernel
theorem d_M_gather_99 : decode (jyc Y_M_gather) 99 = .ok (.ireturn, 1) := by decide +kernel
theorem d_M_gather_100 : decode (jyc Y_M_gather) 100 = .ok (.aload_n 0, 1) := by decide +kernel
theorem d_M_gather_101 : decode (jyc Y_M_gather) 101 = .ok (.invokevirtual 169, 3) := by decide +kernel
theorem d_M_gather_104 : decode (jyc Y_M_gather) 104 = .ok (.iconst 0, 1) := by decide +kernel
theorem d_M_gather_105 : decode (jyc Y_M_gather) 105 = .ok (.istore 4, 2) := by decide +kernel
theorem d_M_gather_107 : decode (jyc Y_M_gather) 107 = .ok (.iload 4, 2) := by decide +kernel
theorem d_M_gather_109 : decode (jyc Y_M_gather) 109 = .ok (.iconst 4, 1) := by decide +kernel
theorem d_M_gather_110 : decode (jyc Y_M_gather) 110 = .ok (.if_icmp .ge 57, 3) := by decide +kernel
theorem d_M_gather_113 : decode (jyc Y_M_gather) 113 = .ok (.iconst 0, 1) := by decide +kernel
theorem d_M_gather_114 : decode (jyc Y_M_gather) 114 = .ok (.istore 5, 2) := by decide +kernel
theorem d_M_gather_116 : decode (jyc Y_M_gather) 116 = .ok (.iload 5, 2) := by decide +kernel
theorem d_M_gather_118 : decode (jyc Y_M_gather) 118 = .ok (.iconst 4, 1) := by decide +kernel
theorem d_M_gather_119 : decode (jyc Y_M_gather) 119 = .ok (.if_icmp .ge 42, 3) := by decide +kernel
theorem d_M_gather_122 : decode (jyc Y_M_gather) 122 = .ok (.aload_n 0, 1) := by decide +kernel
theorem d_M_gather_123 : decode (jyc Y_M_gather) 123 = .ok (.getfield 53, 3) := by decide +kernel
theorem d_M_gather_126 : decode (jyc Y_M_gather) 126 = .ok (.bipush 16, 2) := by decide +kernel
theorem d_M_gather_128 : decode (jyc Y_M_gather) 128 = .ok (.iload_n 2, 1) := by decide +kernel
theorem d_M_gather_129 : decode (jyc Y_M_gather) 129 = .ok (.imul, 1) := by decide +kernel
theorem d_M_gather_130 : decode (jyc Y_M_gather) 130 = .ok (.iconst 4, 1) := by decide +kernel
theorem d_M_gather_131 : decode (jyc Y_M_gather) 131 = .ok (.iload 4, 2) := by decide +kernel
theorem d_M_gather_133 : decode (jyc Y_M_gather) 133 = .ok (.imul, 1) := by decide +kernel
theorem d_M_gather_134 : decode (jyc Y_M_gather) 134 = .ok (.iadd, 1) := by decide +kernel
theorem d_M_gather_135 : decode (jyc Y_M_gather) 135 = .ok (.iload 5, 2) := by decide +kernel
theorem d_M_gather_137 : decode (jyc Y_M_gather) 137 = .ok (.iadd, 1) := by decide +kernel
theorem d_M_gather_138 : decode (jyc Y_M_gather) 138 = .ok (.aload_n 0, 1) := by decide +kernel
theorem d_M_gather_139 : decode (jyc Y_M_gather) 139 = .ok (.getfield 56, 3) := by decide +kernel
theorem d_M_gather_142 : decode (jyc Y_M_gather) 142 = .ok (.bipush 8, 2) := by decide +kernel
theorem d_M_gather_144 : decode (jyc Y_M_gather) 144 = .ok (.iload 4, 2) := by decide +kernel
theorem d_M_gather_146 : decode (jyc Y_M_gather) 146 = .ok (.imul, 1) := by decide +kernel
theorem d_M_gather_147 : decode (jyc Y_M_gather) 147 = .ok (.iconst 4, 1) := by decide +kernel
theorem d_M_gather_148 : decode (jyc Y_M_gather) 148 = .ok (.iadd, 1) := by decide +kernel
theorem d_M_gather_149 : decode (jyc Y_M_gather) 149 = .ok (.iload 5, 2) := by decide +kernel
theorem d_M_gather_151 : decode (jyc Y_M_gather) 151 = .ok (.iadd, 1) := by decide +kernel
theorem d_M_gather_152 : decode (jyc Y_M_gather) 152 = .ok (.laload, 1) := by decide +kernel
theorem d_M_gather_153 : decode (jyc Y_M_gather) 153 = .ok (.l2i, 1) := by decide +kernel
theorem d_M_gather_154 : decode (jyc Y_M_gather) 154 = .ok (.iastore, 1) := by decide +kernel
theorem d_M_gather_155 : decode (jyc Y_M_gather) 155 = .ok (.iinc 5 1, 3) := by decide +kernel
theorem d_M_gather_158 : decode (jyc Y_M_gather) 158 = .ok (.goto (-42), 3) := by decide +kernel
theorem d_M_gather_161 : decode (jyc Y_M_gather) 161 = .ok (.iinc 4 1, 3) := by decide +kernel
theorem d_M_gather_164 : decode (jyc Y_M_gather) 164 = .ok (.goto (-57), 3) := by decide +kernel
theorem d_M_gather_167 : decode (jyc Y_M_gather) 167 = .ok (.iinc 2 1, 3) := by decide +kernel
theorem d_M_gather_170 : decode (jyc Y_M_gather) 170 = .ok (.goto (-147), 3) := by decide +kernel
theorem d_M_gather_173 : decode (jyc Y_M_gather) 173 = .ok (.iconst 1, 1) := by decide +kernel
theorem d_M_gather_174 : decode (jyc Y_M_gather) 174 = .ok (.ireturn, 1) := by decide +kernel
theorem d_M_differs_0 : decode (jyc Y_M_differs) 0 = .ok (.aload_n 0, 1) := by decide +kernel
theorem d_M_differs_1 : decode (jyc Y_M_differs) 1 = .ok (.iload_n 1, 1) := by decide +kernel
theorem d_M_differs_2 : decode (jyc Y_M_differs) 2 = .ok (.iload_n 2, 1) := by decide +kernel
theorem d_M_differs_3 : decode (jyc Y_M_differs) 3 = .ok (.invokevirtual 132, 3) := by decide +kernel
theorem d_M_differs_6 : decode (jyc Y_M_differs) 6 = .ok (.ifCond .eq 17, 3) := by decide +kernel
theorem d_M_differs_9 : decode (jyc Y_M_differs) 9 = .ok (.aload_n 0, 1) := by decide +kernel
theorem d_M_differs_10 : decode (jyc Y_M_differs) 10 = .ok (.getfield 26, 3) := by decide +kernel
theorem d_M_differs_13 : decode (jyc Y_M_differs) 13 = .ok (.iload_n 1, 1) := by decide +kernel
theorem d_M_differs_14 : decode (jyc Y_M_differs) 14 = .ok (.iload_n 2, 1) := by decide +kernel
theorem d_M_differs_15 : decode (jyc Y_M_differs) 15 = .ok (.iload_n 3, 1) := by decide +kernel
theorem d_M_differs_16 : decode (jyc Y_M_differs) 16 = .ok (.invokestatic 129, 3) := by decide +kernel
theorem d_M_differs_19 : decode (jyc Y_M_differs) 19 = .ok (.baload, 1) := by decide +kernel
theorem d_M_differs_20 : decode (jyc Y_M_differs) 20 = .ok (.ifCond .eq 7, 3) := by decide +kernel
theorem d_M_differs_23 : decode (jyc Y_M_differs) 23 = .ok (.iconst 1, 1) := by decide +kernel
theorem d_M_differs_24 : decode (jyc Y_M_differs) 24 = .ok (.goto 4, 3) := by decide +kernel
theorem d_M_differs_27 : decode (jyc Y_M_differs) 27 = .ok (.iconst 0, 1) := by decide +kernel
theorem d_M_differs_28 : decode (jyc Y_M_differs) 28 = .ok (.istore 5, 2) := by decide +kernel
theorem d_M_differs_30 : decode (jyc Y_M_differs) 30 = .ok (.iconst 0, 1) := by decide +kernel
theorem d_M_differs_31 : decode (jyc Y_M_differs) 31 = .ok (.istore 6, 2) := by decide +kernel
theorem d_M_differs_33 : decode (jyc Y_M_differs) 33 = .ok (.iload 6, 2) := by decide +kernel
theorem d_M_differs_35 : decode (jyc Y_M_differs) 35 = .ok (.iconst 5, 1) := by decide +kernel
theorem d_M_differs_36 : decode (jyc Y_M_differs) 36 = .ok (.if_icmp .ge 48, 3) := by decide +kernel
theorem d_M_differs_39 : decode (jyc Y_M_differs) 39 = .ok (.iload 5, 2) := by decide +kernel
theorem d_M_differs_41 : decode (jyc Y_M_differs) 41 = .ok (.ifCond .ne 30, 3) := by decide +kernel
theorem d_M_differs_44 : decode (jyc Y_M_differs) 44 = .ok (.aload_n 0, 1) := by decide +kernel
theorem d_M_differs_45 : decode (jyc Y_M_differs) 45 = .ok (.getfield 23, 3) := by decide +kernel
theorem d_M_differs_48 : decode (jyc Y_M_differs) 48 = .ok (.iload_n 1, 1) := by decide +kernel
theorem d_M_differs_49 : decode (jyc Y_M_differs) 49 = .ok (.iload_n 2, 1) := by decide +kernel
theorem d_M_differs_50 : decode (jyc Y_M_differs) 50 = .ok (.iload_n 3, 1) := by decide +kernel
theorem d_M_differs_51 : decode (jyc Y_M_differs) 51 = .ok (.invokestatic 125, 3) := by decide +kernel
theorem d_M_differs_54 : decode (jyc Y_M_differs) 54 = .ok (.iload 6, 2) := by decide +kernel
theorem d_M_differs_56 : decode (jyc Y_M_differs) 56 = .ok (.iadd, 1) := by decide +kernel
theorem d_M_differs_57 : decode (jyc Y_M_differs) 57 = .ok (.iaload, 1) := by decide +kernel
theorem d_M_differs_58 : decode (jyc Y_M_differs) 58 = .ok (.aload_n 0, 1) := by decide +kernel
theorem d_M_differs_59 : decode (jyc Y_M_differs) 59 = .ok (.getfield 16, 3) := by decide +kernel
theorem d_M_differs_62 : decode (jyc Y_M_differs) 62 = .ok (.iload 4, 2) := by decide +kernel
theorem d_M_differs_64 : decode (jyc Y_M_differs) 64 = .ok (.iload 6, 2) := by decide +kernel
theorem d_M_differs_66 : decode (jyc Y_M_differs) 66 = .ok (.iadd, 1) := by decide +kernel
theorem d_M_differs_67 : decode (jyc Y_M_differs) 67 = .ok (.iaload, 1) := by decide +kernel
theorem d_M_differs_68 : decode (jyc Y_M_differs) 68 = .ok (.if_icmp .eq 7, 3) := by decide +kernel
theorem d_M_differs_71 : decode (jyc Y_M_differs) 71 = .ok (.iconst 1, 1) := by decide +kernel
theorem d_M_differs_72 : decode (jyc Y_M_differs) 72 = .ok (.goto 4, 3) := by decide +kernel
theorem d_M_differs_75 : decode (jyc Y_M_differs) 75 = .ok (.iconst 0, 1) := by decide +kernel
theorem d_M_differs_76 : decode (jyc Y_M_differs) 76 = .ok (.istore 5, 2) := by decide +kernel
theorem d_M_differs_78 : decode (jyc Y_M_differs) 78 = .ok (.iinc 6 1, 3) := by decide +kernel
theorem d_M_differs_81 : decode (jyc Y_M_differs) 81 = .ok (.goto (-48), 3) := by decide +kernel
theorem d_M_differs_84 : decode (jyc Y_M_differs) 84 = .ok (.iload 5, 2) := by decide +kernel
theorem d_M_differs_86 : decode (jyc Y_M_differs) 86 = .ok (.ireturn, 1) := by decide +kernel
theorem d_M_repair_0 : decode (jyc Y_M_repair) 0 = .ok (.aload_n 0, 1) := by decide +kernel
theorem d_M_repair_1 : decode (jyc Y_M_repair) 1 = .ok (.aload_n 0, 1) := by decide +kernel
theorem d_M_repair_2 : decode (jyc Y_M_repair) 2 = .ok (.iload_n 1, 1) := by decide +kernel
theorem d_M_repair_3 : decode (jyc Y_M_repair) 3 = .ok (.invokevirtual 118, 3) := by decide +kernel
theorem d_M_repair_6 : decode (jyc Y_M_repair) 6 = .ok (.ifCond .eq 14, 3) := by decide +kernel
theorem d_M_repair_9 : decode (jyc Y_M_repair) 9 = .ok (.iload_n 2, 1) := by decide +kernel
theorem d_M_repair_10 : decode (jyc Y_M_repair) 10 = .ok (.invokestatic 115, 3) := by decide +kernel
theorem d_M_repair_13 : decode (jyc Y_M_repair) 13 = .ok (.ifCond .eq 7, 3) := by decide +kernel
theorem d_M_repair_16 : decode (jyc Y_M_repair) 16 = .ok (.iconst 0, 1) := by decide +kernel
theorem d_M_repair_17 : decode (jyc Y_M_repair) 17 = .ok (.goto 4, 3) := by decide +kernel
theorem d_M_repair_20 : decode (jyc Y_M_repair) 20 = .ok (.iconst 1, 1) := by decide +kernel
theorem d_M_repair_21 : decode (jyc Y_M_repair) 21 = .ok (.putfield 63, 3) := by decide +kernel
theorem d_M_repair_24 : decode (jyc Y_M_repair) 24 = .ok (.aload_n 0, 1) := by decide +kernel
theorem d_M_repair_25 : decode (jyc Y_M_repair) 25 = .ok (.getfield 63, 3) := by decide +kernel
theorem d_M_repair_28 : decode (jyc Y_M_repair) 28 = .ok (.ifCond .le 5, 3) := by decide +kernel
theorem d_M_repair_31 : decode (jyc Y_M_repair) 31 = .ok (.iconst 0, 1) := by decide +kernel
theorem d_M_repair_32 : decode (jyc Y_M_repair) 32 = .ok (.ireturn, 1) := by decide +kernel
theorem d_M_repair_33 : decode (jyc Y_M_repair) 33 = .ok (.aload_n 0, 1) := by decide +kernel
theorem d_M_repair_34 : decode (jyc Y_M_repair) 34 = .ok (.aload_n 0, 1) := by decide +kernel
theorem d_M_repair_35 : decode (jyc Y_M_repair) 35 = .ok (.iload_n 1, 1) := by decide +kernel
theorem d_M_repair_36 : decode (jyc Y_M_repair) 36 = .ok (.invokevirtual 172, 3) := by decide +kernel
theorem d_M_repair_39 : decode (jyc Y_M_repair) 39 = .ok (.ifCond .eq 7, 3) := by decide +kernel
theorem d_M_repair_42 : decode (jyc Y_M_repair) 42 = .ok (.iconst 0, 1) := by decide +kernel
theorem d_M_repair_43 : decode (jyc Y_M_repair) 43 = .ok (.goto 4, 3) := by decide +kernel
theorem d_M_repair_46 : decode (jyc Y_M_repair) 46 = .ok (.iconst 2, 1) := by decide +kernel
theorem d_M_repair_47 : decode (jyc Y_M_repair) 47 = .ok (.putfield 63, 3) := by decide +kernel
theorem d_M_repair_50 : decode (jyc Y_M_repair) 50 = .ok (.aload_n 0, 1) := by decide +kernel
theorem d_M_repair_51 : decode (jyc Y_M_repair) 51 = .ok (.getfield 63, 3) := by decide +kernel
theorem d_M_repair_54 : decode (jyc Y_M_repair) 54 = .ok (.ifCond .le 5, 3) := by decide +kernel
theorem d_M_repair_57 : decode (jyc Y_M_repair) 57 = .ok (.iconst 0, 1) := by decide +kernel
theorem d_M_repair_58 : decode (jyc Y_M_repair) 58 = .ok (.ireturn, 1) := by decide +kernel
theorem d_M_repair_59 : decode (jyc Y_M_repair) 59 = .ok (.iconst 0, 1) := by decide +kernel
theorem d_M_repair_60 : decode (jyc Y_M_repair) 60 = .ok (.istore_n 3, 1) := by decide +kernel
theorem d_M_repair_61 : decode (jyc Y_M_repair) 61 = .ok (.iconst 0, 1) := by decide +kernel
theorem d_M_repair_62 : decode (jyc Y_M_repair) 62 = .ok (.istore 4, 2) := by decide +kernel
theorem d_M_repair_64 : decode (jyc Y_M_repair) 64 = .ok (.iload 4, 2) := by decide +kernel
theorem d_M_repair_66 : decode (jyc Y_M_repair) 66 = .ok (.sipush 360, 3) := by decide +kernel
theorem d_M_repair_69 : decode (jyc Y_M_repair) 69 = .ok (.if_icmp .ge 23, 3) := by decide +kernel
theorem d_M_repair_72 : decode (jyc Y_M_repair) 72 = .ok (.aload_n 0, 1) := by decide +kernel
theorem d_M_repair_73 : decode (jyc Y_M_repair) 73 = .ok (.getfield 60, 3) := by decide +kernel
theorem d_M_repair_76 : decode (jyc Y_M_repair) 76 = .ok (.iload 4, 2) := by decide +kernel
theorem d_M_repair_78 : decode (jyc Y_M_repair) 78 = .ok (.aload_n 0, 1) := by decide +kernel
theorem d_M_repair_79 : decode (jyc Y_M_repair) 79 = .ok (.getfield 16, 3) := by decide +kernel
theorem d_M_repair_82 : decode (jyc Y_M_repair) 82 = .ok (.iload 4, 2) := by decide +kernel
theorem d_M_repair_84 : decode (jyc Y_M_repair) 84 = .ok (.iaload, 1) := by decide +kernel
theorem d_M_repair_85 : decode (jyc Y_M_repair) 85 = .ok (.iastore, 1) := by decide +kernel
theorem d_M_repair_86 : decode (jyc Y_M_repair) 86 = .ok (.iinc 4 1, 3) := by decide +kernel
theorem d_M_repair_89 : decode (jyc Y_M_repair) 89 = .ok (.goto (-25), 3) := by decide +kernel
theorem d_M_repair_92 : decode (jyc Y_M_repair) 92 = .ok (.aload_n 0, 1) := by decide +kernel
theorem d_M_repair_93 : decode (jyc Y_M_repair) 93 = .ok (.iload_n 1, 1) := by decide +kernel
theorem d_M_repair_94 : decode (jyc Y_M_repair) 94 = .ok (.aload_n 0, 1) := by decide +kernel
theorem d_M_repair_95 : decode (jyc Y_M_repair) 95 = .ok (.getfield 53, 3) := by decide +kernel
theorem d_M_repair_98 : decode (jyc Y_M_repair) 98 = .ok (.invokevirtual 111, 3) := by decide +kernel
theorem d_M_repair_101 : decode (jyc Y_M_repair) 101 = .ok (.iconst 0, 1) := by decide +kernel
theorem d_M_repair_102 : decode (jyc Y_M_repair) 102 = .ok (.istore 4, 2) := by decide +kernel
theorem d_M_repair_104 : decode (jyc Y_M_repair) 104 = .ok (.iload 4, 2) := by decide +kernel
theorem d_M_repair_106 : decode (jyc Y_M_repair) 106 = .ok (.aload_n 0, 1) := by decide +kernel
theorem d_M_repair_107 : decode (jyc Y_M_repair) 107 = .ok (.iload_n 1, 1) := by decide +kernel
theorem d_M_repair_108 : decode (jyc Y_M_repair) 108 = .ok (.invokevirtual 99, 3) := by decide +kernel
theorem d_M_repair_111 : decode (jyc Y_M_repair) 111 = .ok (.if_icmp .ge 37, 3) := by decide +kernel
theorem d_M_repair_114 : decode (jyc Y_M_repair) 114 = .ok (.iload_n 3, 1) := by decide +kernel
theorem d_M_repair_115 : decode (jyc Y_M_repair) 115 = .ok (.aload_n 0, 1) := by decide +kernel
theorem d_M_repair_116 : decode (jyc Y_M_repair) 116 = .ok (.iload_n 2, 1) := by decide +kernel
theorem d_M_repair_117 : decode (jyc Y_M_repair) 117 = .ok (.iload_n 1, 1) := by decide +kernel
theorem d_M_repair_118 : decode (jyc Y_M_repair) 118 = .ok (.iload 4, 2) := by decide +kernel
theorem d_M_repair_120 : decode (jyc Y_M_repair) 120 = .ok (.iconst 5, 1) := by decide +kernel
theorem d_M_repair_121 : decode (jyc Y_M_repair) 121 = .ok (.bipush 24, 2) := by decide +kernel
theorem d_M_repair_123 : decode (jyc Y_M_repair) 123 = .ok (.iload_n 1, 1) := by decide +kernel
theorem d_M_repair_124 : decode (jyc Y_M_repair) 124 = .ok (.imul, 1) := by decide +kernel
theorem d_M_repair_125 : decode (jyc Y_M_repair) 125 = .ok (.iload 4, 2) := by decide +kernel
theorem d_M_repair_127 : decode (jyc Y_M_repair) 127 = .ok (.iadd, 1) := by decide +kernel
theorem d_M_repair_128 : decode (jyc Y_M_repair) 128 = .ok (.imul, 1) := by decide +kernel
theorem d_M_repair_129 : decode (jyc Y_M_repair) 129 = .ok (.invokevirtual 175, 3) := by decide +kernel
theorem d_M_repair_132 : decode (jyc Y_M_repair) 132 = .ok (.ifCond .eq 7, 3) := by decide +kernel
theorem d_M_repair_135 : decode (jyc Y_M_repair) 135 = .ok (.iconst 1, 1) := by decide +kernel
theorem d_M_repair_136 : decode (jyc Y_M_repair) 136 = .ok (.goto 4, 3) := by decide +kernel
theorem d_M_repair_139 : decode (jyc Y_M_repair) 139 = .ok (.iconst 0, 1) := by decide +kernel
theorem d_M_repair_140 : decode (jyc Y_M_repair) 140 = .ok (.iadd, 1) := by decide +kernel
theorem d_M_repair_141 : decode (jyc Y_M_repair) 141 = .ok (.istore_n 3, 1) := by decide +kernel
theorem d_M_repair_142 : decode (jyc Y_M_repair) 142 = .ok (.iinc 4 1, 3) := by decide +kernel
theorem d_M_repair_145 : decode (jyc Y_M_repair) 145 = .ok (.goto (-41), 3) := by decide +kernel
theorem d_M_repair_148 : decode (jyc Y_M_repair) 148 = .ok (.aload_n 0, 1) := by decide +kernel
theorem d_M_repair_149 : decode (jyc Y_M_repair) 149 = .ok (.getfield 19, 3) := by decide +kernel
theorem d_M_repair_152 : decode (jyc Y_M_repair) 152 = .ok (.iconst 3, 1) := by decide +kernel
theorem d_M_repair_153 : decode (jyc Y_M_repair) 153 = .ok (.iload_n 2, 1) := by decide +kernel
theorem d_M_repair_154 : decode (jyc Y_M_repair) 154 = .ok (.imul, 1) := by decide +kernel
theorem d_M_repair_155 : decode (jyc Y_M_repair) 155 = .ok (.iload_n 1, 1) := by decide +kernel
theorem d_M_repair_156 : decode (jyc Y_M_repair) 156 = .ok (.iadd, 1) := by decide +kernel
theorem d_M_repair_157 : decode (jyc Y_M_repair) 157 = .ok (.iconst 1, 1) := by decide +kernel
theorem d_M_repair_158 : decode (jyc Y_M_repair) 158 = .ok (.bastore, 1) := by decide +kernel
theorem d_M_repair_159 : decode (jyc Y_M_repair) 159 = .ok (.iconst 0, 1) := by decide +kernel
theorem d_M_repair_160 : decode (jyc Y_M_repair) 160 = .ok (.istore 4, 2) := by decide +kernel
theorem d_M_repair_162 : decode (jyc Y_M_repair) 162 = .ok (.iload 4, 2) := by decide +kernel
theorem d_M_repair_164 : decode (jyc Y_M_repair) 164 = .ok (.aload_n 0, 1) := by decide +kernel
theorem d_M_repair_165 : decode (jyc Y_M_repair) 165 = .ok (.iload_n 1, 1) := by decide +kernel
theorem d_M_repair_166 : decode (jyc Y_M_repair) 166 = .ok (.invokevirtual 99, 3) := by decide +kernel
theorem d_M_repair_169 : decode (jyc Y_M_repair) 169 = .ok (.if_icmp .ge 17, 3) := by decide +kernel
theorem d_M_repair_172 : decode (jyc Y_M_repair) 172 = .ok (.aload_n 0, 1) := by decide +kernel
theorem d_M_repair_173 : decode (jyc Y_M_repair) 173 = .ok (.iload_n 2, 1) := by decide +kernel
theorem d_M_repair_174 : decode (jyc Y_M_repair) 174 = .ok (.iload_n 1, 1) := by decide +kernel
theorem d_M_repair_175 : decode (jyc Y_M_repair) 175 = .ok (.iload 4, 2) := by decide +kernel
theorem d_M_repair_177 : decode (jyc Y_M_repair) 177 = .ok (.invokevirtual 121, 3) := by decide +kernel
theorem d_M_repair_180 : decode (jyc Y_M_repair) 180 = .ok (.iinc 4 1, 3) := by decide +kernel
theorem d_M_repair_183 : decode (jyc Y_M_repair) 183 = .ok (.goto (-21), 3) := by decide +kernel
theorem d_M_repair_186 : decode (jyc Y_M_repair) 186 = .ok (.iconst 0, 1) := by decide +kernel
theorem d_M_repair_187 : decode (jyc Y_M_repair) 187 = .ok (.istore 4, 2) := by decide +kernel
theorem d_M_repair_189 : decode (jyc Y_M_repair) 189 = .ok (.iload 4, 2) := by decide +kernel
theorem d_M_repair_191 : decode (jyc Y_M_repair) 191 = .ok (.sipush 360, 3) := by decide +kernel
theorem d_M_repair_194 : decode (jyc Y_M_repair) 194 = .ok (.if_icmp .ge 23, 3) := by decide +kernel
theorem d_M_repair_197 : decode (jyc Y_M_repair) 197 = .ok (.aload_n 0, 1) := by decide +kernel
theorem d_M_repair_198 : decode (jyc Y_M_repair) 198 = .ok (.getfield 16, 3) := by decide +kernel
theorem d_M_repair_201 : decode (jyc Y_M_repair) 201 = .ok (.iload 4, 2) := by decide +kernel
theorem d_M_repair_203 : decode (jyc Y_M_repair) 203 = .ok (.aload_n 0, 1) := by decide +kernel
theorem d_M_repair_204 : decode (jyc Y_M_repair) 204 = .ok (.getfield 60, 3) := by decide +kernel
theorem d_M_repair_207 : decode (jyc Y_M_repair) 207 = .ok (.iload 4, 2) := by decide +kernel
theorem d_M_repair_209 : decode (jyc Y_M_repair) 209 = .ok (.iaload, 1) := by decide +kernel
theorem d_M_repair_210 : decode (jyc Y_M_repair) 210 = .ok (.iastore, 1) := by decide +kernel
theorem d_M_repair_211 : decode (jyc Y_M_repair) 211 = .ok (.iinc 4 1, 3) := by decide +kernel
theorem d_M_repair_214 : decode (jyc Y_M_repair) 214 = .ok (.goto (-25), 3) := by decide +kernel
theorem d_M_repair_217 : decode (jyc Y_M_repair) 217 = .ok (.aload_n 0, 1) := by decide +kernel
theorem d_M_repair_218 : decode (jyc Y_M_repair) 218 = .ok (.getfield 35, 3) := by decide +kernel
theorem d_M_repair_221 : decode (jyc Y_M_repair) 221 = .ok (.iload_n 2, 1) := by decide +kernel
theorem d_M_repair_222 : decode (jyc Y_M_repair) 222 = .ok (.dup2, 1) := by decide +kernel
theorem d_M_repair_223 : decode (jyc Y_M_repair) 223 = .ok (.iaload, 1) := by decide +kernel
theorem d_M_repair_224 : decode (jyc Y_M_repair) 224 = .ok (.iload_n 3, 1) := by decide +kernel
theorem d_M_repair_225 : decode (jyc Y_M_repair) 225 = .ok (.iadd, 1) := by decide +kernel
theorem d_M_repair_226 : decode (jyc Y_M_repair) 226 = .ok (.iastore, 1) := by decide +kernel
theorem d_M_repair_227 : decode (jyc Y_M_repair) 227 = .ok (.iload_n 3, 1) := by decide +kernel
theorem d_M_repair_228 : decode (jyc Y_M_repair) 228 = .ok (.ireturn, 1) := by decide +kernel
theorem d_M_fetch_0 : decode (jyc Y_M_fetch) 0 = .ok (.aload_n 0, 1) := by decide +kernel
theorem d_M_fetch_1 : decode (jyc Y_M_fetch) 1 = .ok (.aload_n 0, 1) := by decide +kernel
theorem d_M_fetch_2 : decode (jyc Y_M_fetch) 2 = .ok (.iload_n 1, 1) := by decide +kernel
theorem d_M_fetch_3 : decode (jyc Y_M_fetch) 3 = .ok (.invokevirtual 118, 3) := by decide +kernel
theorem d_M_fetch_6 : decode (jyc Y_M_fetch) 6 = .ok (.ifCond .eq 7, 3) := by decide +kernel
theorem d_M_fetch_9 : decode (jyc Y_M_fetch) 9 = .ok (.iconst 0, 1) := by decide +kernel
theorem d_M_fetch_10 : decode (jyc Y_M_fetch) 10 = .ok (.goto 4, 3) := by decide +kernel
theorem d_M_fetch_13 : decode (jyc Y_M_fetch) 13 = .ok (.iconst 1, 1) := by decide +kernel
theorem d_M_fetch_14 : decode (jyc Y_M_fetch) 14 = .ok (.putfield 63, 3) := by decide +kernel
theorem d_M_fetch_17 : decode (jyc Y_M_fetch) 17 = .ok (.aload_n 0, 1) := by decide +kernel
theorem d_M_fetch_18 : decode (jyc Y_M_fetch) 18 = .ok (.getfield 63, 3) := by decide +kernel
theorem d_M_fetch_21 : decode (jyc Y_M_fetch) 21 = .ok (.ifCond .le 5, 3) := by decide +kernel
theorem d_M_fetch_24 : decode (jyc Y_M_fetch) 24 = .ok (.iconst 0, 1) := by decide +kernel
theorem d_M_fetch_25 : decode (jyc Y_M_fetch) 25 = .ok (.ireturn, 1) := by decide +kernel
theorem d_M_fetch_26 : decode (jyc Y_M_fetch) 26 = .ok (.aload_n 0, 1) := by decide +kernel
theorem d_M_fetch_27 : decode (jyc Y_M_fetch) 27 = .ok (.aload_n 0, 1) := by decide +kernel
theorem d_M_fetch_28 : decode (jyc Y_M_fetch) 28 = .ok (.iload_n 1, 1) := by decide +kernel
theorem d_M_fetch_29 : decode (jyc Y_M_fetch) 29 = .ok (.invokevirtual 172, 3) := by decide +kernel
theorem d_M_fetch_32 : decode (jyc Y_M_fetch) 32 = .ok (.ifCond .eq 7, 3) := by decide +kernel
theorem d_M_fetch_35 : decode (jyc Y_M_fetch) 35 = .ok (.iconst 0, 1) := by decide +kernel
theorem d_M_fetch_36 : decode (jyc Y_M_fetch) 36 = .ok (.goto 4, 3) := by decide +kernel
theorem d_M_fetch_39 : decode (jyc Y_M_fetch) 39 = .ok (.iconst 2, 1) := by decide +kernel
theorem d_M_fetch_40 : decode (jyc Y_M_fetch) 40 = .ok (.putfield 63, 3) := by decide +kernel
theorem d_M_fetch_43 : decode (jyc Y_M_fetch) 43 = .ok (.aload_n 0, 1) := by decide +kernel
theorem d_M_fetch_44 : decode (jyc Y_M_fetch) 44 = .ok (.getfield 63, 3) := by decide +kernel
theorem d_M_fetch_47 : decode (jyc Y_M_fetch) 47 = .ok (.ifCond .le 5, 3) := by decide +kernel
theorem d_M_fetch_50 : decode (jyc Y_M_fetch) 50 = .ok (.iconst 0, 1) := by decide +kernel
theorem d_M_fetch_51 : decode (jyc Y_M_fetch) 51 = .ok (.ireturn, 1) := by decide +kernel
theorem d_M_fetch_52 : decode (jyc Y_M_fetch) 52 = .ok (.aload_n 0, 1) := by decide +kernel
theorem d_M_fetch_53 : decode (jyc Y_M_fetch) 53 = .ok (.aload_n 0, 1) := by decide +kernel
theorem d_M_fetch_54 : decode (jyc Y_M_fetch) 54 = .ok (.getfield 13, 3) := by decide +kernel
theorem d_M_fetch_57 : decode (jyc Y_M_fetch) 57 = .ok (.iload_n 1, 1) := by decide +kernel
theorem d_M_fetch_58 : decode (jyc Y_M_fetch) 58 = .ok (.iaload, 1) := by decide +kernel
theorem d_M_fetch_59 : decode (jyc Y_M_fetch) 59 = .ok (.putfield 179, 3) := by decide +kernel
theorem d_M_fetch_62 : decode (jyc Y_M_fetch) 62 = .ok (.iconst 0, 1) := by decide +kernel
theorem d_M_fetch_63 : decode (jyc Y_M_fetch) 63 = .ok (.istore_n 2, 1) := by decide +kernel
theorem d_M_fetch_64 : decode (jyc Y_M_fetch) 64 = .ok (.iload_n 2, 1) := by decide +kernel
theorem d_M_fetch_65 : decode (jyc Y_M_fetch) 65 = .ok (.aload_n 0, 1) := by decide +kernel
theorem d_M_fetch_66 : decode (jyc Y_M_fetch) 66 = .ok (.getfield 179, 3) := by decide +kernel
theorem d_M_fetch_69 : decode (jyc Y_M_fetch) 69 = .ok (.if_icmp .ge 21, 3) := by decide +kernel
theorem d_M_fetch_72 : decode (jyc Y_M_fetch) 72 = .ok (.aload_n 0, 1) := by decide +kernel
theorem d_M_fetch_73 : decode (jyc Y_M_fetch) 73 = .ok (.getfield 50, 3) := by decide +kernel
theorem d_M_fetch_76 : decode (jyc Y_M_fetch) 76 = .ok (.iload_n 2, 1) := by decide +kernel
theorem d_M_fetch_77 : decode (jyc Y_M_fetch) 77 = .ok (.aload_n 0, 1) := by decide +kernel
theorem d_M_fetch_78 : decode (jyc Y_M_fetch) 78 = .ok (.getfield 53, 3) := by decide +kernel
theorem d_M_fetch_81 : decode (jyc Y_M_fetch) 81 = .ok (.iload_n 2, 1) := by decide +kernel
theorem d_M_fetch_82 : decode (jyc Y_M_fetch) 82 = .ok (.iaload, 1) := by decide +kernel
theorem d_M_fetch_83 : decode (jyc Y_M_fetch) 83 = .ok (.iastore, 1) := by decide +kernel
theorem d_M_fetch_84 : decode (jyc Y_M_fetch) 84 = .ok (.iinc 2 1, 3) := by decide +kernel
theorem d_M_fetch_87 : decode (jyc Y_M_fetch) 87 = .ok (.goto (-23), 3) := by decide +kernel
theorem d_M_fetch_90 : decode (jyc Y_M_fetch) 90 = .ok (.aload_n 0, 1) := by decide +kernel
theorem d_M_fetch_91 : decode (jyc Y_M_fetch) 91 = .ok (.getfield 179, 3) := by decide +kernel
theorem d_M_fetch_94 : decode (jyc Y_M_fetch) 94 = .ok (.ireturn, 1) := by decide +kernel
theorem d_M_fetched_0 : decode (jyc Y_M_fetched) 0 = .ok (.aload_n 0, 1) := by decide +kernel
theorem d_M_fetched_1 : decode (jyc Y_M_fetched) 1 = .ok (.iconst 0, 1) := by decide +kernel
theorem d_M_fetched_2 : decode (jyc Y_M_fetched) 2 = .ok (.putfield 63, 3) := by decide +kernel
theorem d_M_fetched_5 : decode (jyc Y_M_fetched) 5 = .ok (.iload_n 1, 1) := by decide +kernel
theorem d_M_fetched_6 : decode (jyc Y_M_fetched) 6 = .ok (.ifCond .lt 11, 3) := by decide +kernel
theorem d_M_fetched_9 : decode (jyc Y_M_fetched) 9 = .ok (.iload_n 1, 1) := by decide +kernel
theorem d_M_fetched_10 : decode (jyc Y_M_fetched) 10 = .ok (.aload_n 0, 1) := by decide +kernel
theorem d_M_fetched_11 : decode (jyc Y_M_fetched) 11 = .ok (.getfield 179, 3) := by decide +kernel
theorem d_M_fetched_14 : decode (jyc Y_M_fetched) 14 = .ok (.if_icmp .lt 7, 3) := by decide +kernel
theorem d_M_fetched_17 : decode (jyc Y_M_fetched) 17 = .ok (.iconst (-1), 1) := by decide +kernel
theorem d_M_fetched_18 : decode (jyc Y_M_fetched) 18 = .ok (.goto 9, 3) := by decide +kernel
theorem d_M_fetched_21 : decode (jyc Y_M_fetched) 21 = .ok (.aload_n 0, 1) := by decide +kernel
theorem d_M_fetched_22 : decode (jyc Y_M_fetched) 22 = .ok (.getfield 50, 3) := by decide +kernel
theorem d_M_fetched_25 : decode (jyc Y_M_fetched) 25 = .ok (.iload_n 1, 1) := by decide +kernel
theorem d_M_fetched_26 : decode (jyc Y_M_fetched) 26 = .ok (.iaload, 1) := by decide +kernel
theorem d_M_fetched_27 : decode (jyc Y_M_fetched) 27 = .ok (.ireturn, 1) := by decide +kernel
theorem d_M_made_0 : decode (jyc Y_M_made) 0 = .ok (.aload_n 0, 1) := by decide +kernel
theorem d_M_made_1 : decode (jyc Y_M_made) 1 = .ok (.aload_n 0, 1) := by decide +kernel
theorem d_M_made_2 : decode (jyc Y_M_made) 2 = .ok (.iload_n 1, 1) := by decide +kernel
theorem d_M_made_3 : decode (jyc Y_M_made) 3 = .ok (.invokevirtual 118, 3) := by decide +kernel
theorem d_M_made_6 : decode (jyc Y_M_made) 6 = .ok (.ifCond .eq 16, 3) := by decide +kernel
theorem d_M_made_9 : decode (jyc Y_M_made) 9 = .ok (.iload_n 3, 1) := by decide +kernel
theorem d_M_made_10 : decode (jyc Y_M_made) 10 = .ok (.ifCond .lt 12, 3) := by decide +kernel
theorem d_M_made_13 : decode (jyc Y_M_made) 13 = .ok (.iload_n 3, 1) := by decide +kernel
theorem d_M_made_14 : decode (jyc Y_M_made) 14 = .ok (.iconst 5, 1) := by decide +kernel
theorem d_M_made_15 : decode (jyc Y_M_made) 15 = .ok (.if_icmp .ge 7, 3) := by decide +kernel
theorem d_M_made_18 : decode (jyc Y_M_made) 18 = .ok (.iconst 0, 1) := by decide +kernel
theorem d_M_made_19 : decode (jyc Y_M_made) 19 = .ok (.goto 4, 3) := by decide +kernel
theorem d_M_made_22 : decode (jyc Y_M_made) 22 = .ok (.iconst 1, 1) := by decide +kernel
theorem d_M_made_23 : decode (jyc Y_M_made) 23 = .ok (.putfield 63, 3) := by decide +kernel
theorem d_M_made_26 : decode (jyc Y_M_made) 26 = .ok (.aload_n 0, 1) := by decide +kernel
theorem d_M_made_27 : decode (jyc Y_M_made) 27 = .ok (.getfield 63, 3) := by decide +kernel
theorem d_M_made_30 : decode (jyc Y_M_made) 30 = .ok (.ifCond .le 5, 3) := by decide +kernel
theorem d_M_made_33 : decode (jyc Y_M_made) 33 = .ok (.iconst 0, 1) := by decide +kernel
theorem d_M_made_34 : decode (jyc Y_M_made) 34 = .ok (.ireturn, 1) := by decide +kernel
theorem d_M_made_35 : decode (jyc Y_M_made) 35 = .ok (.aload_n 0, 1) := by decide +kernel
theorem d_M_made_36 : decode (jyc Y_M_made) 36 = .ok (.iload_n 2, 1) := by decide +kernel
theorem d_M_made_37 : decode (jyc Y_M_made) 37 = .ok (.ifCond .lt 12, 3) := by decide +kernel
theorem d_M_made_40 : decode (jyc Y_M_made) 40 = .ok (.iload_n 2, 1) := by decide +kernel
theorem d_M_made_41 : decode (jyc Y_M_made) 41 = .ok (.aload_n 0, 1) := by decide +kernel
theorem d_M_made_42 : decode (jyc Y_M_made) 42 = .ok (.iload_n 1, 1) := by decide +kernel
theorem d_M_made_43 : decode (jyc Y_M_made) 43 = .ok (.invokevirtual 99, 3) := by decide +kernel
theorem d_M_made_46 : decode (jyc Y_M_made) 46 = .ok (.if_icmp .lt 7, 3) := by decide +kernel
theorem d_M_made_49 : decode (jyc Y_M_made) 49 = .ok (.iconst 1, 1) := by decide +kernel
theorem d_M_made_50 : decode (jyc Y_M_made) 50 = .ok (.goto 4, 3) := by decide +kernel
theorem d_M_made_53 : decode (jyc Y_M_made) 53 = .ok (.iconst 0, 1) := by decide +kernel
theorem d_M_made_54 : decode (jyc Y_M_made) 54 = .ok (.putfield 63, 3) := by decide +kernel
theorem d_M_made_57 : decode (jyc Y_M_made) 57 = .ok (.aload_n 0, 1) := by decide +kernel
theorem d_M_made_58 : decode (jyc Y_M_made) 58 = .ok (.getfield 63, 3) := by decide +kernel
theorem d_M_made_61 : decode (jyc Y_M_made) 61 = .ok (.ifCond .le 7, 3) := by decide +kernel
theorem d_M_made_64 : decode (jyc Y_M_made) 64 = .ok (.iconst 0, 1) := by decide +kernel
theorem d_M_made_65 : decode (jyc Y_M_made) 65 = .ok (.goto 18, 3) := by decide +kernel
theorem d_M_made_68 : decode (jyc Y_M_made) 68 = .ok (.aload_n 0, 1) := by decide +kernel
theorem d_M_made_69 : decode (jyc Y_M_made) 69 = .ok (.getfield 16, 3) := by decide +kernel
theorem d_M_made_72 : decode (jyc Y_M_made) 72 = .ok (.iconst 5, 1) := by decide +kernel
theorem d_M_made_73 : decode (jyc Y_M_made) 73 = .ok (.bipush 24, 2) := by decide +kernel
theorem d_M_made_75 : decode (jyc Y_M_made) 75 = .ok (.iload_n 1, 1) := by decide +kernel
theorem d_M_made_76 : decode (jyc Y_M_made) 76 = .ok (.imul, 1) := by decide +kernel
theorem d_M_made_77 : decode (jyc Y_M_made) 77 = .ok (.iload_n 2, 1) := by decide +kernel
theorem d_M_made_78 : decode (jyc Y_M_made) 78 = .ok (.iadd, 1) := by decide +kernel
theorem d_M_made_79 : decode (jyc Y_M_made) 79 = .ok (.imul, 1) := by decide +kernel
theorem d_M_made_80 : decode (jyc Y_M_made) 80 = .ok (.iload_n 3, 1) := by decide +kernel
theorem d_M_made_81 : decode (jyc Y_M_made) 81 = .ok (.iadd, 1) := by decide +kernel
theorem d_M_made_82 : decode (jyc Y_M_made) 82 = .ok (.iaload, 1) := by decide +kernel
theorem d_M_made_83 : decode (jyc Y_M_made) 83 = .ok (.ireturn, 1) := by decide +kernel
theorem d_M_kept_0 : decode (jyc Y_M_kept) 0 = .ok (.aload_n 0, 1) := by decide +kernel
theorem d_M_kept_1 : decode (jyc Y_M_kept) 1 = .ok (.aload_n 0, 1) := by decide +kernel
theorem d_M_kept_2 : decode (jyc Y_M_kept) 2 = .ok (.iload_n 1, 1) := by decide +kernel
theorem d_M_kept_3 : decode (jyc Y_M_kept) 3 = .ok (.iload_n 2, 1) := by decide +kernel
theorem d_M_kept_4 : decode (jyc Y_M_kept) 4 = .ok (.iload_n 3, 1) := by decide +kernel
theorem d_M_kept_5 : decode (jyc Y_M_kept) 5 = .ok (.invokevirtual 136, 3) := by decide +kernel
theorem d_M_kept_8 : decode (jyc Y_M_kept) 8 = .ok (.ifCond .eq 19, 3) := by decide +kernel
theorem d_M_kept_11 : decode (jyc Y_M_kept) 11 = .ok (.iload 4, 2) := by decide +kernel
theorem d_M_kept_13 : decode (jyc Y_M_kept) 13 = .ok (.ifCond .lt 14, 3) := by decide +kernel
theorem d_M_kept_16 : decode (jyc Y_M_kept) 16 = .ok (.iload 4, 2) := by decide +kernel
theorem d_M_kept_18 : decode (jyc Y_M_kept) 18 = .ok (.bipush 6, 2) := by decide +kernel
theorem d_M_kept_20 : decode (jyc Y_M_kept) 20 = .ok (.if_icmp .ge 7, 3) := by decide +kernel
theorem d_M_kept_23 : decode (jyc Y_M_kept) 23 = .ok (.iconst 0, 1) := by decide +kernel
theorem d_M_kept_24 : decode (jyc Y_M_kept) 24 = .ok (.goto 4, 3) := by decide +kernel
theorem d_M_kept_27 : decode (jyc Y_M_kept) 27 = .ok (.iconst 1, 1) := by decide +kernel
theorem d_M_kept_28 : decode (jyc Y_M_kept) 28 = .ok (.putfield 63, 3) := by decide +kernel
theorem d_M_kept_31 : decode (jyc Y_M_kept) 31 = .ok (.aload_n 0, 1) := by decide +kernel
theorem d_M_kept_32 : decode (jyc Y_M_kept) 32 = .ok (.getfield 63, 3) := by decide +kernel
theorem d_M_kept_35 : decode (jyc Y_M_kept) 35 = .ok (.ifCond .le 5, 3) := by decide +kernel
theorem d_M_kept_38 : decode (jyc Y_M_kept) 38 = .ok (.iconst 0, 1) := by decide +kernel
theorem d_M_kept_39 : decode (jyc Y_M_kept) 39 = .ok (.ireturn, 1) := by decide +kernel
theorem d_M_kept_40 : decode (jyc Y_M_kept) 40 = .ok (.iload 4, 2) := by decide +kernel
theorem d_M_kept_42 : decode (jyc Y_M_kept) 42 = .ok (.iconst 5, 1) := by decide +kernel
theorem d_M_kept_43 : decode (jyc Y_M_kept) 43 = .ok (.if_icmp .ne 25, 3) := by decide +kernel
theorem d_M_kept_46 : decode (jyc Y_M_kept) 46 = .ok (.aload_n 0, 1) := by decide +kernel
theorem d_M_kept_47 : decode (jyc Y_M_kept) 47 = .ok (.getfield 26, 3) := by decide +kernel
theorem d_M_kept_50 : decode (jyc Y_M_kept) 50 = .ok (.iload_n 1, 1) := by decide +kernel
theorem d_M_kept_51 : decode (jyc Y_M_kept) 51 = .ok (.iload_n 2, 1) := by decide +kernel
theorem d_M_kept_52 : decode (jyc Y_M_kept) 52 = .ok (.iload_n 3, 1) := by decide +kernel
theorem d_M_kept_53 : decode (jyc Y_M_kept) 53 = .ok (.invokestatic 129, 3) := by decide +kernel
theorem d_M_kept_56 : decode (jyc Y_M_kept) 56 = .ok (.baload, 1) := by decide +kernel
theorem d_M_kept_57 : decode (jyc Y_M_kept) 57 = .ok (.ifCond .eq 7, 3) := by decide +kernel
theorem d_M_kept_60 : decode (jyc Y_M_kept) 60 = .ok (.iconst 1, 1) := by decide +kernel
theorem d_M_kept_61 : decode (jyc Y_M_kept) 61 = .ok (.goto 21, 3) := by decide +kernel
theorem d_M_kept_64 : decode (jyc Y_M_kept) 64 = .ok (.iconst 0, 1) := by decide +kernel
theorem d_M_kept_65 : decode (jyc Y_M_kept) 65 = .ok (.goto 17, 3) := by decide +kernel
theorem d_M_kept_68 : decode (jyc Y_M_kept) 68 = .ok (.aload_n 0, 1) := by decide +kernel
theorem d_M_kept_69 : decode (jyc Y_M_kept) 69 = .ok (.getfield 23, 3) := by decide +kernel
theorem d_M_kept_72 : decode (jyc Y_M_kept) 72 = .ok (.iload_n 1, 1) := by decide +kernel
theorem d_M_kept_73 : decode (jyc Y_M_kept) 73 = .ok (.iload_n 2, 1) := by decide +kernel
theorem d_M_kept_74 : decode (jyc Y_M_kept) 74 = .ok (.iload_n 3, 1) := by decide +kernel
theorem d_M_kept_75 : decode (jyc Y_M_kept) 75 = .ok (.invokestatic 125, 3) := by decide +kernel
theorem d_M_kept_78 : decode (jyc Y_M_kept) 78 = .ok (.iload 4, 2) := by decide +kernel
theorem d_M_kept_80 : decode (jyc Y_M_kept) 80 = .ok (.iadd, 1) := by decide +kernel
theorem d_M_kept_81 : decode (jyc Y_M_kept) 81 = .ok (.iaload, 1) := by decide +kernel
theorem d_M_kept_82 : decode (jyc Y_M_kept) 82 = .ok (.ireturn, 1) := by decide +kernel
theorem d_M_rota_0 : decode (jyc Y_M_rota) 0 = .ok (.aload_n 0, 1) := by decide +kernel
theorem d_M_rota_1 : decode (jyc Y_M_rota) 1 = .ok (.iconst 0, 1) := by decide +kernel
theorem d_M_rota_2 : decode (jyc Y_M_rota) 2 = .ok (.putfield 63, 3) := by decide +kernel
theorem d_M_rota_5 : decode (jyc Y_M_rota) 5 = .ok (.iconst 0, 1) := by decide +kernel
theorem d_M_rota_6 : decode (jyc Y_M_rota) 6 = .ok (.istore_n 2, 1) := by decide +kernel
theorem d_M_rota_7 : decode (jyc Y_M_rota) 7 = .ok (.iconst 0, 1) := by decide +kernel
theorem d_M_rota_8 : decode (jyc Y_M_rota) 8 = .ok (.istore_n 3, 1) := by decide +kernel
theorem d_M_rota_9 : decode (jyc Y_M_rota) 9 = .ok (.iload_n 3, 1) := by decide +kernel
theorem d_M_rota_10 : decode (jyc Y_M_rota) 10 = .ok (.bipush 12, 2) := by decide +kernel
theorem d_M_rota_12 : decode (jyc Y_M_rota) 12 = .ok (.if_icmp .ge 26, 3) := by decide +kernel
theorem d_M_rota_15 : decode (jyc Y_M_rota) 15 = .ok (.iload_n 2, 1) := by decide +kernel
theorem d_M_rota_16 : decode (jyc Y_M_rota) 16 = .ok (.aload_n 0, 1) := by decide +kernel
theorem d_M_rota_17 : decode (jyc Y_M_rota) 17 = .ok (.getfield 19, 3) := by decide +kernel
theorem d_M_rota_20 : decode (jyc Y_M_rota) 20 = .ok (.iload_n 3, 1) := by decide +kernel
theorem d_M_rota_21 : decode (jyc Y_M_rota) 21 = .ok (.baload, 1) := by decide +kernel
theorem d_M_rota_22 : decode (jyc Y_M_rota) 22 = .ok (.ifCond .eq 7, 3) := by decide +kernel
theorem d_M_rota_25 : decode (jyc Y_M_rota) 25 = .ok (.iconst 1, 1) := by decide +kernel
theorem d_M_rota_26 : decode (jyc Y_M_rota) 26 = .ok (.goto 4, 3) := by decide +kernel
theorem d_M_rota_29 : decode (jyc Y_M_rota) 29 = .ok (.iconst 0, 1) := by decide +kernel
theorem d_M_rota_30 : decode (jyc Y_M_rota) 30 = .ok (.iadd, 1) := by decide +kernel
theorem d_M_rota_31 : decode (jyc Y_M_rota) 31 = .ok (.istore_n 2, 1) := by decide +kernel
theorem d_M_rota_32 : decode (jyc Y_M_rota) 32 = .ok (.iinc 3 1, 3) := by decide +kernel
theorem d_M_rota_35 : decode (jyc Y_M_rota) 35 = .ok (.goto (-26), 3) := by decide +kernel
theorem d_M_rota_38 : decode (jyc Y_M_rota) 38 = .ok (.iload_n 1, 1) := by decide +kernel
theorem d_M_rota_39 : decode (jyc Y_M_rota) 39 = .ok (.ifCond .lt 7, 3) := by decide +kernel
theorem d_M_rota_42 : decode (jyc Y_M_rota) 42 = .ok (.iload_n 2, 1) := by decide +kernel
theorem d_M_rota_43 : decode (jyc Y_M_rota) 43 = .ok (.ifCond .ne 5, 3) := by decide +kernel
theorem d_M_rota_46 : decode (jyc Y_M_rota) 46 = .ok (.iconst (-1), 1) := by decide +kernel
theorem d_M_rota_47 : decode (jyc Y_M_rota) 47 = .ok (.ireturn, 1) := by decide +kernel
theorem d_M_rota_48 : decode (jyc Y_M_rota) 48 = .ok (.iload_n 1, 1) := by decide +kernel
theorem d_M_rota_49 : decode (jyc Y_M_rota) 49 = .ok (.iload_n 2, 1) := by decide +kernel
theorem d_M_rota_50 : decode (jyc Y_M_rota) 50 = .ok (.irem, 1) := by decide +kernel
theorem d_M_rota_51 : decode (jyc Y_M_rota) 51 = .ok (.istore_n 3, 1) := by decide +kernel
theorem d_M_rota_52 : decode (jyc Y_M_rota) 52 = .ok (.iconst 0, 1) := by decide +kernel
theorem d_M_rota_53 : decode (jyc Y_M_rota) 53 = .ok (.istore 4, 2) := by decide +kernel
theorem d_M_rota_55 : decode (jyc Y_M_rota) 55 = .ok (.iload 4, 2) := by decide +kernel
theorem d_M_rota_57 : decode (jyc Y_M_rota) 57 = .ok (.iconst 3, 1) := by decide +kernel
theorem d_M_rota_58 : decode (jyc Y_M_rota) 58 = .ok (.if_icmp .ge 75, 3) := by decide +kernel
theorem d_M_rota_61 : decode (jyc Y_M_rota) 61 = .ok (.iconst 0, 1) := by decide +kernel
theorem d_M_rota_62 : decode (jyc Y_M_rota) 62 = .ok (.istore 5, 2) := by decide +kernel
theorem d_M_rota_64 : decode (jyc Y_M_rota) 64 = .ok (.iload 5, 2) := by decide +kernel
theorem d_M_rota_66 : decode (jyc Y_M_rota) 66 = .ok (.iconst 4, 1) := by decide +kernel
theorem d_M_rota_67 : decode (jyc Y_M_rota) 67 = .ok (.if_icmp .ge 60, 3) := by decide +kernel
theorem d_M_rota_70 : decode (jyc Y_M_rota) 70 = .ok (.aload_n 0, 1) := by decide +kernel
theorem d_M_rota_71 : decode (jyc Y_M_rota) 71 = .ok (.getfield 19, 3) := by decide +kernel
theorem d_M_rota_74 : decode (jyc Y_M_rota) 74 = .ok (.iconst 3, 1) := by decide +kernel
theorem d_M_rota_75 : decode (jyc Y_M_rota) 75 = .ok (.iload 5, 2) := by decide +kernel
theorem d_M_rota_77 : decode (jyc Y_M_rota) 77 = .ok (.imul, 1) := by decide +kernel
theorem d_M_rota_78 : decode (jyc Y_M_rota) 78 = .ok (.iload 4, 2) := by decide +kernel
theorem d_M_rota_80 : decode (jyc Y_M_rota) 80 = .ok (.iadd, 1) := by decide +kernel
theorem d_M_rota_81 : decode (jyc Y_M_rota) 81 = .ok (.baload, 1) := by decide +kernel
theorem d_M_rota_82 : decode (jyc Y_M_rota) 82 = .ok (.ifCond .eq 16, 3) := by decide +kernel
theorem d_M_rota_85 : decode (jyc Y_M_rota) 85 = .ok (.iload_n 3, 1) := by decide +kernel
theorem d_M_rota_86 : decode (jyc Y_M_rota) 86 = .ok (.ifCond .ne 12, 3) := by decide +kernel
theorem d_M_rota_89 : decode (jyc Y_M_rota) 89 = .ok (.bipush 8, 2) := by decide +kernel
theorem d_M_rota_91 : decode (jyc Y_M_rota) 91 = .ok (.iload 4, 2) := by decide +kernel
theorem d_M_rota_93 : decode (jyc Y_M_rota) 93 = .ok (.imul, 1) := by decide +kernel
theorem d_M_rota_94 : decode (jyc Y_M_rota) 94 = .ok (.iload 5, 2) := by decide +kernel
theorem d_M_rota_96 : decode (jyc Y_M_rota) 96 = .ok (.iadd, 1) := by decide +kernel
theorem d_M_rota_97 : decode (jyc Y_M_rota) 97 = .ok (.ireturn, 1) := by decide +kernel
theorem d_M_rota_98 : decode (jyc Y_M_rota) 98 = .ok (.iload_n 3, 1) := by decide +kernel
theorem d_M_rota_99 : decode (jyc Y_M_rota) 99 = .ok (.aload_n 0, 1) := by decide +kernel
theorem d_M_rota_100 : decode (jyc Y_M_rota) 100 = .ok (.getfield 19, 3) := by decide +kernel
theorem d_M_rota_103 : decode (jyc Y_M_rota) 103 = .ok (.iconst 3, 1) := by decide +kernel
theorem d_M_rota_104 : decode (jyc Y_M_rota) 104 = .ok (.iload 5, 2) := by decide +kernel
theorem d_M_rota_106 : decode (jyc Y_M_rota) 106 = .ok (.imul, 1) := by decide +kernel
theorem d_M_rota_107 : decode (jyc Y_M_rota) 107 = .ok (.iload 4, 2) := by decide +kernel
theorem d_M_rota_109 : decode (jyc Y_M_rota) 109 = .ok (.iadd, 1) := by decide +kernel
theorem d_M_rota_110 : decode (jyc Y_M_rota) 110 = .ok (.baload, 1) := by decide +kernel
theorem d_M_rota_111 : decode (jyc Y_M_rota) 111 = .ok (.ifCond .eq 7, 3) := by decide +kernel
theorem d_M_rota_114 : decode (jyc Y_M_rota) 114 = .ok (.iconst 1, 1) := by decide +kernel
theorem d_M_rota_115 : decode (jyc Y_M_rota) 115 = .ok (.goto 4, 3) := by decide +kernel
theorem d_M_rota_118 : decode (jyc Y_M_rota) 118 = .ok (.iconst 0, 1) := by decide +kernel
theorem d_M_rota_119 : decode (jyc Y_M_rota) 119 = .ok (.isub, 1) := by decide +kernel
theorem d_M_rota_120 : decode (jyc Y_M_rota) 120 = .ok (.istore_n 3, 1) := by decide +kernel
theorem d_M_rota_121 : decode (jyc Y_M_rota) 121 = .ok (.iinc 5 1, 3) := by decide +kernel
theorem d_M_rota_124 : decode (jyc Y_M_rota) 124 = .ok (.goto (-60), 3) := by decide +kernel
theorem d_M_rota_127 : decode (jyc Y_M_rota) 127 = .ok (.iinc 4 1, 3) := by decide +kernel
theorem d_M_rota_130 : decode (jyc Y_M_rota) 130 = .ok (.goto (-75), 3) := by decide +kernel
theorem d_M_rota_133 : decode (jyc Y_M_rota) 133 = .ok (.iconst (-1), 1) := by decide +kernel
theorem d_M_rota_134 : decode (jyc Y_M_rota) 134 = .ok (.ireturn, 1) := by decide +kernel
theorem d_M_score_0 : decode (jyc Y_M_score) 0 = .ok (.aload_n 0, 1) := by decide +kernel
theorem d_M_score_1 : decode (jyc Y_M_score) 1 = .ok (.iconst 0, 1) := by decide +kernel
theorem d_M_score_2 : decode (jyc Y_M_score) 2 = .ok (.putfield 63, 3) := by decide +kernel
theorem d_M_score_5 : decode (jyc Y_M_score) 5 = .ok (.iload_n 1, 1) := by decide +kernel
theorem d_M_score_6 : decode (jyc Y_M_score) 6 = .ok (.invokestatic 115, 3) := by decide +kernel
theorem d_M_score_9 : decode (jyc Y_M_score) 9 = .ok (.ifCond .eq 46, 3) := by decide +kernel
theorem d_M_score_12 : decode (jyc Y_M_score) 12 = .ok (.iload_n 2, 1) := by decide +kernel
theorem d_M_score_13 : decode (jyc Y_M_score) 13 = .ok (.ifCond .ne 12, 3) := by decide +kernel
theorem d_M_score_16 : decode (jyc Y_M_score) 16 = .ok (.aload_n 0, 1) := by decide +kernel
theorem d_M_score_17 : decode (jyc Y_M_score) 17 = .ok (.getfield 29, 3) := by decide +kernel
theorem d_M_score_20 : decode (jyc Y_M_score) 20 = .ok (.iload_n 1, 1) := by decide +kernel
theorem d_M_score_21 : decode (jyc Y_M_score) 21 = .ok (.iaload, 1) := by decide +kernel
theorem d_M_score_22 : decode (jyc Y_M_score) 22 = .ok (.goto 32, 3) := by decide +kernel
theorem d_M_score_25 : decode (jyc Y_M_score) 25 = .ok (.iload_n 2, 1) := by decide +kernel
theorem d_M_score_26 : decode (jyc Y_M_score) 26 = .ok (.iconst 1, 1) := by decide +kernel
theorem d_M_score_27 : decode (jyc Y_M_score) 27 = .ok (.if_icmp .ne 12, 3) := by decide +kernel
theorem d_M_score_30 : decode (jyc Y_M_score) 30 = .ok (.aload_n 0, 1) := by decide +kernel
theorem d_M_score_31 : decode (jyc Y_M_score) 31 = .ok (.getfield 32, 3) := by decide +kernel
theorem d_M_score_34 : decode (jyc Y_M_score) 34 = .ok (.iload_n 1, 1) := by decide +kernel
theorem d_M_score_35 : decode (jyc Y_M_score) 35 = .ok (.iaload, 1) := by decide +kernel
theorem d_M_score_36 : decode (jyc Y_M_score) 36 = .ok (.goto 18, 3) := by decide +kernel
theorem d_M_score_39 : decode (jyc Y_M_score) 39 = .ok (.iload_n 2, 1) := by decide +kernel
theorem d_M_score_40 : decode (jyc Y_M_score) 40 = .ok (.iconst 2, 1) := by decide +kernel
theorem d_M_score_41 : decode (jyc Y_M_score) 41 = .ok (.if_icmp .ne 12, 3) := by decide +kernel
theorem d_M_score_44 : decode (jyc Y_M_score) 44 = .ok (.aload_n 0, 1) := by decide +kernel
theorem d_M_score_45 : decode (jyc Y_M_score) 45 = .ok (.getfield 35, 3) := by decide +kernel
theorem d_M_score_48 : decode (jyc Y_M_score) 48 = .ok (.iload_n 1, 1) := by decide +kernel
theorem d_M_score_49 : decode (jyc Y_M_score) 49 = .ok (.iaload, 1) := by decide +kernel
theorem d_M_score_50 : decode (jyc Y_M_score) 50 = .ok (.goto 4, 3) := by decide +kernel
theorem d_M_score_53 : decode (jyc Y_M_score) 53 = .ok (.iconst (-1), 1) := by decide +kernel
theorem d_M_score_54 : decode (jyc Y_M_score) 54 = .ok (.ireturn, 1) := by decide +kernel
theorem d_M_score_55 : decode (jyc Y_M_score) 55 = .ok (.iconst (-1), 1) := by decide +kernel
theorem d_M_score_56 : decode (jyc Y_M_score) 56 = .ok (.iload_n 1, 1) := by decide +kernel
theorem d_M_score_57 : decode (jyc Y_M_score) 57 = .ok (.isub, 1) := by decide +kernel
theorem d_M_score_58 : decode (jyc Y_M_score) 58 = .ok (.istore_n 3, 1) := by decide +kernel
theorem d_M_score_59 : decode (jyc Y_M_score) 59 = .ok (.aload_n 0, 1) := by decide +kernel
theorem d_M_score_60 : decode (jyc Y_M_score) 60 = .ok (.iload_n 3, 1) := by decide +kernel
theorem d_M_score_61 : decode (jyc Y_M_score) 61 = .ok (.invokevirtual 118, 3) := by decide +kernel
theorem d_M_score_64 : decode (jyc Y_M_score) 64 = .ok (.ifCond .eq 12, 3) := by decide +kernel
theorem d_M_score_67 : decode (jyc Y_M_score) 67 = .ok (.iload_n 2, 1) := by decide +kernel
theorem d_M_score_68 : decode (jyc Y_M_score) 68 = .ok (.ifCond .lt 8, 3) := by decide +kernel
theorem d_M_score_71 : decode (jyc Y_M_score) 71 = .ok (.iload_n 2, 1) := by decide +kernel
theorem d_M_score_72 : decode (jyc Y_M_score) 72 = .ok (.iconst 1, 1) := by decide +kernel
theorem d_M_score_73 : decode (jyc Y_M_score) 73 = .ok (.if_icmp .le 7, 3) := by decide +kernel
theorem d_M_score_76 : decode (jyc Y_M_score) 76 = .ok (.iconst (-1), 1) := by decide +kernel
theorem d_M_score_77 : decode (jyc Y_M_score) 77 = .ok (.goto 45, 3) := by decide +kernel
theorem d_M_score_80 : decode (jyc Y_M_score) 80 = .ok (.iload_n 2, 1) := by decide +kernel
theorem d_M_score_81 : decode (jyc Y_M_score) 81 = .ok (.ifCond .ne 24, 3) := by decide +kernel
theorem d_M_score_84 : decode (jyc Y_M_score) 84 = .ok (.aload_n 0, 1) := by decide +kernel
theorem d_M_score_85 : decode (jyc Y_M_score) 85 = .ok (.getfield 13, 3) := by decide +kernel
theorem d_M_score_88 : decode (jyc Y_M_score) 88 = .ok (.aload_n 0, 1) := by decide +kernel
theorem d_M_score_89 : decode (jyc Y_M_score) 89 = .ok (.iload_n 3, 1) := by decide +kernel
theorem d_M_score_90 : decode (jyc Y_M_score) 90 = .ok (.invokevirtual 118, 3) := by decide +kernel
theorem d_M_score_93 : decode (jyc Y_M_score) 93 = .ok (.ifCond .eq 7, 3) := by decide +kernel
theorem d_M_score_96 : decode (jyc Y_M_score) 96 = .ok (.iload_n 3, 1) := by decide +kernel
theorem d_M_score_97 : decode (jyc Y_M_score) 97 = .ok (.goto 4, 3) := by decide +kernel
theorem d_M_score_100 : decode (jyc Y_M_score) 100 = .ok (.iconst 0, 1) := by decide +kernel
theorem d_M_score_101 : decode (jyc Y_M_score) 101 = .ok (.iaload, 1) := by decide +kernel
theorem d_M_score_102 : decode (jyc Y_M_score) 102 = .ok (.goto 20, 3) := by decide +kernel
theorem d_M_score_105 : decode (jyc Y_M_score) 105 = .ok (.aload_n 0, 1) := by decide +kernel
theorem d_M_score_106 : decode (jyc Y_M_score) 106 = .ok (.aload_n 0, 1) := by decide +kernel
theorem d_M_score_107 : decode (jyc Y_M_score) 107 = .ok (.iload_n 3, 1) := by decide +kernel
theorem d_M_score_108 : decode (jyc Y_M_score) 108 = .ok (.invokevirtual 118, 3) := by decide +kernel
theorem d_M_score_111 : decode (jyc Y_M_score) 111 = .ok (.ifCond .eq 7, 3) := by decide +kernel
theorem d_M_score_114 : decode (jyc Y_M_score) 114 = .ok (.iload_n 3, 1) := by decide +kernel
theorem d_M_score_115 : decode (jyc Y_M_score) 115 = .ok (.goto 4, 3) := by decide +kernel
theorem d_M_score_118 : decode (jyc Y_M_score) 118 = .ok (.iconst 0, 1) := by decide +kernel
theorem d_M_score_119 : decode (jyc Y_M_score) 119 = .ok (.invokevirtual 99, 3) := by decide +kernel
theorem d_M_score_122 : decode (jyc Y_M_score) 122 = .ok (.ireturn, 1) := by decide +kernel
theorem d_C_init_0 : decode (jyc Y_C_init) 0 = .ok (.aload_n 0, 1) := by decide +kernel
theorem d_C_init_1 : decode (jyc Y_C_init) 1 = .ok (.invokespecial 3, 3) := by decide +kernel
theorem d_C_init_4 : decode (jyc Y_C_init) 4 = .ok (.aload_n 0, 1) := by decide +kernel
theorem d_C_init_5 : decode (jyc Y_C_init) 5 = .ok (.bipush 24, 2) := by decide +kernel
theorem d_C_init_7 : decode (jyc Y_C_init) 7 = .ok (.newarray .int, 2) := by decide +kernel
theorem d_C_init_9 : decode (jyc Y_C_init) 9 = .ok (.putfield 9, 3) := by decide +kernel
theorem d_C_init_12 : decode (jyc Y_C_init) 12 = .ok (.aload_n 0, 1) := by decide +kernel
theorem d_C_init_13 : decode (jyc Y_C_init) 13 = .ok (.bipush 24, 2) := by decide +kernel
theorem d_C_init_15 : decode (jyc Y_C_init) 15 = .ok (.newarray .int, 2) := by decide +kernel
theorem d_C_init_17 : decode (jyc Y_C_init) 17 = .ok (.putfield 15, 3) := by decide +kernel
theorem d_C_init_20 : decode (jyc Y_C_init) 20 = .ok (.aload_n 0, 1) := by decide +kernel
theorem d_C_init_21 : decode (jyc Y_C_init) 21 = .ok (.iconst 5, 1) := by decide +kernel
theorem d_C_init_22 : decode (jyc Y_C_init) 22 = .ok (.newarray .int, 2) := by decide +kernel
theorem d_C_init_24 : decode (jyc Y_C_init) 24 = .ok (.putfield 18, 3) := by decide +kernel
theorem d_C_init_27 : decode (jyc Y_C_init) 27 = .ok (.aload_n 0, 1) := by decide +kernel
theorem d_C_init_28 : decode (jyc Y_C_init) 28 = .ok (.bipush 24, 2) := by decide +kernel
theorem d_C_init_30 : decode (jyc Y_C_init) 30 = .ok (.newarray .boolean, 2) := by decide +kernel
theorem d_C_init_32 : decode (jyc Y_C_init) 32 = .ok (.putfield 21, 3) := by decide +kernel
theorem d_C_init_35 : decode (jyc Y_C_init) 35 = .ok (.return_, 1) := by decide +kernel
theorem d_C_pose_0 : decode (jyc Y_C_pose) 0 = .ok (.aload_n 0, 1) := by decide +kernel
theorem d_C_pose_1 : decode (jyc Y_C_pose) 1 = .ok (.iconst 1, 1) := by decide +kernel
theorem d_C_pose_2 : decode (jyc Y_C_pose) 2 = .ok (.putfield 25, 3) := by decide +kernel
theorem d_C_pose_5 : decode (jyc Y_C_pose) 5 = .ok (.aload_n 0, 1) := by decide +kernel
theorem d_C_pose_6 : decode (jyc Y_C_pose) 6 = .ok (.iload_n 1, 1) := by decide +kernel
theorem d_C_pose_7 : decode (jyc Y_C_pose) 7 = .ok (.putfield 29, 3) := by decide +kernel
theorem d_C_pose_10 : decode (jyc Y_C_pose) 10 = .ok (.aload_n 0, 1) := by decide +kernel
theorem d_C_pose_11 : decode (jyc Y_C_pose) 11 = .ok (.iload_n 2, 1) := by decide +kernel
theorem d_C_pose_12 : decode (jyc Y_C_pose) 12 = .ok (.putfield 33, 3) := by decide +kernel
theorem d_C_pose_15 : decode (jyc Y_C_pose) 15 = .ok (.return_, 1) := by decide +kernel
theorem d_C_draw_0 : decode (jyc Y_C_draw) 0 = .ok (.iconst 0, 1) := by decide +kernel
theorem d_C_draw_1 : decode (jyc Y_C_draw) 1 = .ok (.istore 4, 2) := by decide +kernel
theorem d_C_draw_3 : decode (jyc Y_C_draw) 3 = .ok (.iload 4, 2) := by decide +kernel
theorem d_C_draw_5 : decode (jyc Y_C_draw) 5 = .ok (.iload_n 3, 1) := by decide +kernel
theorem d_C_draw_6 : decode (jyc Y_C_draw) 6 = .ok (.if_icmp .ge 17, 3) := by decide +kernel
theorem d_C_draw_9 : decode (jyc Y_C_draw) 9 = .ok (.aload_n 0, 1) := by decide +kernel
theorem d_C_draw_10 : decode (jyc Y_C_draw) 10 = .ok (.getfield 21, 3) := by decide +kernel
theorem d_C_draw_13 : decode (jyc Y_C_draw) 13 = .ok (.iload 4, 2) := by decide +kernel
theorem d_C_draw_15 : decode (jyc Y_C_draw) 15 = .ok (.iconst 0, 1) := by decide +kernel
theorem d_C_draw_16 : decode (jyc Y_C_draw) 16 = .ok (.bastore, 1) := by decide +kernel
theorem d_C_draw_17 : decode (jyc Y_C_draw) 17 = .ok (.iinc 4 1, 3) := by decide +kernel
theorem d_C_draw_20 : decode (jyc Y_C_draw) 20 = .ok (.goto (-17), 3) := by decide +kernel
theorem d_C_draw_23 : decode (jyc Y_C_draw) 23 = .ok (.aload_n 0, 1) := by decide +kernel
theorem d_C_draw_24 : decode (jyc Y_C_draw) 24 = .ok (.iload_n 2, 1) := by decide +kernel
theorem d_C_draw_25 : decode (jyc Y_C_draw) 25 = .ok (.putfield 36, 3) := by decide +kernel
theorem d_C_draw_28 : decode (jyc Y_C_draw) 28 = .ok (.iload_n 1, 1) := by decide +kernel
theorem d_C_draw_29 : decode (jyc Y_C_draw) 29 = .ok (.istore 4, 2) := by decide +kernel
theorem d_C_draw_31 : decode (jyc Y_C_draw) 31 = .ok (.iconst 0, 1) := by decide +kernel
theorem d_C_draw_32 : decode (jyc Y_C_draw) 32 = .ok (.istore 5, 2) := by decide +kernel
theorem d_C_draw_34 : decode (jyc Y_C_draw) 34 = .ok (.iload 5, 2) := by decide +kernel
theorem d_C_draw_36 : decode (jyc Y_C_draw) 36 = .ok (.iload_n 2, 1) := by decide +kernel
theorem d_C_draw_37 : decode (jyc Y_C_draw) 37 = .ok (.if_icmp .ge 71, 3) := by decide +kernel
theorem d_C_draw_40 : decode (jyc Y_C_draw) 40 = .ok (.iload 4, 2) := by decide +kernel
theorem d_C_draw_42 : decode (jyc Y_C_draw) 42 = .ok (.invokestatic 39, 3) := by decide +kernel
theorem d_C_draw_45 : decode (jyc Y_C_draw) 45 = .ok (.istore 4, 2) := by decide +kernel
theorem d_C_draw_47 : decode (jyc Y_C_draw) 47 = .ok (.aload_n 0, 1) := by decide +kernel
theorem d_C_draw_48 : decode (jyc Y_C_draw) 48 = .ok (.getfield 9, 3) := by decide +kernel
theorem d_C_draw_51 : decode (jyc Y_C_draw) 51 = .ok (.iload 5, 2) := by decide +kernel
theorem d_C_draw_53 : decode (jyc Y_C_draw) 53 = .ok (.aload_n 0, 1) := by decide +kernel
theorem d_C_draw_54 : decode (jyc Y_C_draw) 54 = .ok (.iload 4, 2) := by decide +kernel
theorem d_C_draw_56 : decode (jyc Y_C_draw) 56 = .ok (.bipush 16, 2) := by decide +kernel
theorem d_C_draw_58 : decode (jyc Y_C_draw) 58 = .ok (.iushr, 1) := by decide +kernel
theorem d_C_draw_59 : decode (jyc Y_C_draw) 59 = .ok (.iload_n 3, 1) := by decide +kernel
theorem d_C_draw_60 : decode (jyc Y_C_draw) 60 = .ok (.irem, 1) := by decide +kernel
theorem d_C_draw_61 : decode (jyc Y_C_draw) 61 = .ok (.iload_n 3, 1) := by decide +kernel
theorem d_C_draw_62 : decode (jyc Y_C_draw) 62 = .ok (.invokevirtual 43, 3) := by decide +kernel
theorem d_C_draw_65 : decode (jyc Y_C_draw) 65 = .ok (.iastore, 1) := by decide +kernel
theorem d_C_draw_66 : decode (jyc Y_C_draw) 66 = .ok (.aload_n 0, 1) := by decide +kernel
theorem d_C_draw_67 : decode (jyc Y_C_draw) 67 = .ok (.getfield 21, 3) := by decide +kernel
theorem d_C_draw_70 : decode (jyc Y_C_draw) 70 = .ok (.aload_n 0, 1) := by decide +kernel
theorem d_C_draw_71 : decode (jyc Y_C_draw) 71 = .ok (.getfield 9, 3) := by decide +kernel
theorem d_C_draw_74 : decode (jyc Y_C_draw) 74 = .ok (.iload 5, 2) := by decide +kernel
theorem d_C_draw_76 : decode (jyc Y_C_draw) 76 = .ok (.iaload, 1) := by decide +kernel
theorem d_C_draw_77 : decode (jyc Y_C_draw) 77 = .ok (.iconst 1, 1) := by decide +kernel
theorem d_C_draw_78 : decode (jyc Y_C_draw) 78 = .ok (.bastore, 1) := by decide +kernel
theorem d_C_draw_79 : decode (jyc Y_C_draw) 79 = .ok (.iload 4, 2) := by decide +kernel
theorem d_C_draw_81 : decode (jyc Y_C_draw) 81 = .ok (.invokestatic 39, 3) := by decide +kernel
theorem d_C_draw_84 : decode (jyc Y_C_draw) 84 = .ok (.istore 4, 2) := by decide +kernel
theorem d_C_draw_86 : decode (jyc Y_C_draw) 86 = .ok (.aload_n 0, 1) := by decide +kernel
theorem d_C_draw_87 : decode (jyc Y_C_draw) 87 = .ok (.getfield 15, 3) := by decide +kernel
theorem d_C_draw_90 : decode (jyc Y_C_draw) 90 = .ok (.iload 5, 2) := by decide +kernel
theorem d_C_draw_92 : decode (jyc Y_C_draw) 92 = .ok (.iconst 1, 1) := by decide +kernel
theorem d_C_draw_93 : decode (jyc Y_C_draw) 93 = .ok (.iload 4, 2) := by decide +kernel
theorem d_C_draw_95 : decode (jyc Y_C_draw) 95 = .ok (.iconst 1, 1) := by decide +kernel
theorem d_C_draw_96 : decode (jyc Y_C_draw) 96 = .ok (.iushr, 1) := by decide +kernel
theorem d_C_draw_97 : decode (jyc Y_C_draw) 97 = .ok (.ldc 49, 2) := by decide +kernel
theorem d_C_draw_99 : decode (jyc Y_C_draw) 99 = .ok (.irem, 1) := by decide +kernel
theorem d_C_draw_100 : decode (jyc Y_C_draw) 100 = .ok (.iadd, 1) := by decide +kernel
theorem d_C_draw_101 : decode (jyc Y_C_draw) 101 = .ok (.iastore, 1) := by decide +kernel
theorem d_C_draw_102 : decode (jyc Y_C_draw) 102 = .ok (.iinc 5 1, 3) := by decide +kernel
theorem d_C_draw_105 : decode (jyc Y_C_draw) 105 = .ok (.goto (-71), 3) := by decide +kernel
theorem d_C_draw_108 : decode (jyc Y_C_draw) 108 = .ok (.return_, 1) := by decide +kernel
theorem d_C_step_0 : decode (jyc Y_C_step) 0 = .ok (.iload_n 0, 1) := by decide +kernel
theorem d_C_step_1 : decode (jyc Y_C_step) 1 = .ok (.ldc 50, 2) := by decide +kernel
theorem d_C_step_3 : decode (jyc Y_C_step) 3 = .ok (.imul, 1) := by decide +kernel
theorem d_C_step_4 : decode (jyc Y_C_step) 4 = .ok (.sipush 12345, 3) := by decide +kernel
theorem d_C_step_7 : decode (jyc Y_C_step) 7 = .ok (.iadd, 1) := by decide +kernel
theorem d_C_step_8 : decode (jyc Y_C_step) 8 = .ok (.ireturn, 1) := by decide +kernel
theorem d_C_nextUndrawn_0 : decode (jyc Y_C_nextUndrawn) 0 = .ok (.iload_n 1, 1) := by decide +kernel
theorem d_C_nextUndrawn_1 : decode (jyc Y_C_nextUndrawn) 1 = .ok (.istore_n 3, 1) := by decide +kernel
theorem d_C_nextUndrawn_2 : decode (jyc Y_C_nextUndrawn) 2 = .ok (.iconst 0, 1) := by decide +kernel
theorem d_C_nextUndrawn_3 : decode (jyc Y_C_nextUndrawn) 3 = .ok (.istore 4, 2) := by decide +kernel
theorem d_C_nextUndrawn_5 : decode (jyc Y_C_nextUndrawn) 5 = .ok (.iload 4, 2) := by decide +kernel
theorem d_C_nextUndrawn_7 : decode (jyc Y_C_nextUndrawn) 7 = .ok (.iload_n 2, 1) := by decide +kernel
theorem d_C_nextUndrawn_8 : decode (jyc Y_C_nextUndrawn) 8 = .ok (.if_icmp .ge 33, 3) := by decide +kernel
theorem d_C_nextUndrawn_11 : decode (jyc Y_C_nextUndrawn) 11 = .ok (.aload_n 0, 1) := by decide +kernel
theorem d_C_nextUndrawn_12 : decode (jyc Y_C_nextUndrawn) 12 = .ok (.getfield 21, 3) := by decide +kernel
theorem d_C_nextUndrawn_15 : decode (jyc Y_C_nextUndrawn) 15 = .ok (.iload_n 3, 1) := by decide +kernel
theorem d_C_nextUndrawn_16 : decode (jyc Y_C_nextUndrawn) 16 = .ok (.baload, 1) := by decide +kernel
theorem d_C_nextUndrawn_17 : decode (jyc Y_C_nextUndrawn) 17 = .ok (.ifCond .eq 24, 3) := by decide +kernel
theorem d_C_nextUndrawn_20 : decode (jyc Y_C_nextUndrawn) 20 = .ok (.iload_n 3, 1) := by decide +kernel
theorem d_C_nextUndrawn_21 : decode (jyc Y_C_nextUndrawn) 21 = .ok (.iconst 1, 1) := by decide +kernel
theorem d_C_nextUndrawn_22 : decode (jyc Y_C_nextUndrawn) 22 = .ok (.iadd, 1) := by decide +kernel
theorem d_C_nextUndrawn_23 : decode (jyc Y_C_nextUndrawn) 23 = .ok (.iload_n 2, 1) := by decide +kernel
theorem d_C_nextUndrawn_24 : decode (jyc Y_C_nextUndrawn) 24 = .ok (.if_icmp .ge 9, 3) := by decide +kernel
theorem d_C_nextUndrawn_27 : decode (jyc Y_C_nextUndrawn) 27 = .ok (.iload_n 3, 1) := by decide +kernel
theorem d_C_nextUndrawn_28 : decode (jyc Y_C_nextUndrawn) 28 = .ok (.iconst 1, 1) := by decide +kernel
theorem d_C_nextUndrawn_29 : decode (jyc Y_C_nextUndrawn) 29 = .ok (.iadd, 1) := by decide +kernel
theorem d_C_nextUndrawn_30 : decode (jyc Y_C_nextUndrawn) 30 = .ok (.goto 4, 3) := by decide +kernel
theorem d_C_nextUndrawn_33 : decode (jyc Y_C_nextUndrawn) 33 = .ok (.iconst 0, 1) := by decide +kernel
theorem d_C_nextUndrawn_34 : decode (jyc Y_C_nextUndrawn) 34 = .ok (.istore_n 3, 1) := by decide +kernel
theorem d_C_nextUndrawn_35 : decode (jyc Y_C_nextUndrawn) 35 = .ok (.iinc 4 1, 3) := by decide +kernel
theorem d_C_nextUndrawn_38 : decode (jyc Y_C_nextUndrawn) 38 = .ok (.goto (-33), 3) := by decide +kernel
theorem d_C_nextUndrawn_41 : decode (jyc Y_C_nextUndrawn) 41 = .ok (.iload_n 3, 1) := by decide +kernel
theorem d_C_nextUndrawn_42 : decode (jyc Y_C_nextUndrawn) 42 = .ok (.ireturn, 1) := by decide +kernel
theorem d_C_answerFrom_0 : decode (jyc Y_C_answerFrom) 0 = .ok (.iconst 0, 1) := by decide +kernel
theorem d_C_answerFrom_1 : decode (jyc Y_C_answerFrom) 1 = .ok (.istore_n 2, 1) := by decide +kernel
theorem d_C_answerFrom_2 : decode (jyc Y_C_answerFrom) 2 = .ok (.iload_n 2, 1) := by decide +kernel
theorem d_C_answerFrom_3 : decode (jyc Y_C_answerFrom) 3 = .ok (.iconst 5, 1) := by decide +kernel
theorem d_C_answerFrom_4 : decode (jyc Y_C_answerFrom) 4 = .ok (.if_icmp .ge 63, 3) := by decide +kernel
theorem d_C_answerFrom_7 : decode (jyc Y_C_answerFrom) 7 = .ok (.iconst 0, 1) := by decide +kernel
theorem d_C_answerFrom_8 : decode (jyc Y_C_answerFrom) 8 = .ok (.istore_n 3, 1) := by decide +kernel
theorem d_C_answerFrom_9 : decode (jyc Y_C_answerFrom) 9 = .ok (.iconst 0, 1) := by decide +kernel
theorem d_C_answerFrom_10 : decode (jyc Y_C_answerFrom) 10 = .ok (.istore 4, 2) := by decide +kernel
theorem d_C_answerFrom_12 : decode (jyc Y_C_answerFrom) 12 = .ok (.iload 4, 2) := by decide +kernel
theorem d_C_answerFrom_14 : decode (jyc Y_C_answerFrom) 14 = .ok (.aload_n 0, 1) := by decide +kernel
theorem d_C_answerFrom_15 : decode (jyc Y_C_answerFrom) 15 = .ok (.getfield 36, 3) := by decide +kernel
theorem d_C_answerFrom_18 : decode (jyc Y_C_answerFrom) 18 = .ok (.if_icmp .ge 36, 3) := by decide +kernel
theorem d_C_answerFrom_21 : decode (jyc Y_C_answerFrom) 21 = .ok (.iload_n 3, 1) := by decide +kernel
theorem d_C_answerFrom_22 : decode (jyc Y_C_answerFrom) 22 = .ok (.aload_n 0, 1) := by decide +kernel
theorem d_C_answerFrom_23 : decode (jyc Y_C_answerFrom) 23 = .ok (.getfield 15, 3) := by decide +kernel
theorem d_C_answerFrom_26 : decode (jyc Y_C_answerFrom) 26 = .ok (.iload 4, 2) := by decide +kernel
theorem d_C_answerFrom_28 : decode (jyc Y_C_answerFrom) 28 = .ok (.iaload, 1) := by decide +kernel
theorem d_C_answerFrom_29 : decode (jyc Y_C_answerFrom) 29 = .ok (.aload_n 1, 1) := by decide +kernel
theorem d_C_answerFrom_30 : decode (jyc Y_C_answerFrom) 30 = .ok (.aload_n 0, 1) := by decide +kernel
theorem d_C_answerFrom_31 : decode (jyc Y_C_answerFrom) 31 = .ok (.getfield 9, 3) := by decide +kernel
theorem d_C_answerFrom_34 : decode (jyc Y_C_answerFrom) 34 = .ok (.iload 4, 2) := by decide +kernel
theorem d_C_answerFrom_36 : decode (jyc Y_C_answerFrom) 36 = .ok (.iaload, 1) := by decide +kernel
theorem d_C_answerFrom_37 : decode (jyc Y_C_answerFrom) 37 = .ok (.iload_n 2, 1) := by decide +kernel
theorem d_C_answerFrom_38 : decode (jyc Y_C_answerFrom) 38 = .ok (.invokevirtual 51, 3) := by decide +kernel
theorem d_C_answerFrom_41 : decode (jyc Y_C_answerFrom) 41 = .ok (.invokestatic 56, 3) := by decide +kernel
theorem d_C_answerFrom_44 : decode (jyc Y_C_answerFrom) 44 = .ok (.invokestatic 59, 3) := by decide +kernel
theorem d_C_answerFrom_47 : decode (jyc Y_C_answerFrom) 47 = .ok (.istore_n 3, 1) := by decide +kernel
theorem d_C_answerFrom_48 : decode (jyc Y_C_answerFrom) 48 = .ok (.iinc 4 1, 3) := by decide +kernel
theorem d_C_answerFrom_51 : decode (jyc Y_C_answerFrom) 51 = .ok (.goto (-39), 3) := by decide +kernel
theorem d_C_answerFrom_54 : decode (jyc Y_C_answerFrom) 54 = .ok (.aload_n 0, 1) := by decide +kernel
theorem d_C_answerFrom_55 : decode (jyc Y_C_answerFrom) 55 = .ok (.getfield 18, 3) := by decide +kernel
theorem d_C_answerFrom_58 : decode (jyc Y_C_answerFrom) 58 = .ok (.iload_n 2, 1) := by decide +kernel
theorem d_C_answerFrom_59 : decode (jyc Y_C_answerFrom) 59 = .ok (.iload_n 3, 1) := by decide +kernel
theorem d_C_answerFrom_60 : decode (jyc Y_C_answerFrom) 60 = .ok (.iastore, 1) := by decide +kernel
theorem d_C_answerFrom_61 : decode (jyc Y_C_answerFrom) 61 = .ok (.iinc 2 1, 3) := by decide +kernel
theorem d_C_answerFrom_64 : decode (jyc Y_C_answerFrom) 64 = .ok (.goto (-62), 3) := by decide +kernel
theorem d_C_answerFrom_67 : decode (jyc Y_C_answerFrom) 67 = .ok (.return_, 1) := by decide +kernel
theorem d_C_holds_0 : decode (jyc Y_C_holds) 0 = .ok (.iconst 0, 1) := by decide +kernel
theorem d_C_holds_1 : decode (jyc Y_C_holds) 1 = .ok (.istore_n 2, 1) := by decide +kernel
theorem d_C_holds_2 : decode (jyc Y_C_holds) 2 = .ok (.iconst 0, 1) := by decide +kernel
theorem d_C_holds_3 : decode (jyc Y_C_holds) 3 = .ok (.istore_n 3, 1) := by decide +kernel
theorem d_C_holds_4 : decode (jyc Y_C_holds) 4 = .ok (.iload_n 3, 1) := by decide +kernel
theorem d_C_holds_5 : decode (jyc Y_C_holds) 5 = .ok (.aload_n 0, 1) := by decide +kernel
theorem d_C_holds_6 : decode (jyc Y_C_holds) 6 = .ok (.getfield 36, 3) := by decide +kernel
theorem d_C_holds_9 : decode (jyc Y_C_holds) 9 = .ok (.if_icmp .ge 34, 3) := by decide +kernel
theorem d_C_holds_12 : decode (jyc Y_C_holds) 12 = .ok (.iload_n 2, 1) := by decide +kernel
theorem d_C_holds_13 : decode (jyc Y_C_holds) 13 = .ok (.aload_n 0, 1) := by decide +kernel
theorem d_C_holds_14 : decode (jyc Y_C_holds) 14 = .ok (.getfield 15, 3) := by decide +kernel
theorem d_C_holds_17 : decode (jyc Y_C_holds) 17 = .ok (.iload_n 3, 1) := by decide +kernel
theorem d_C_holds_18 : decode (jyc Y_C_holds) 18 = .ok (.iaload, 1) := by decide +kernel
theorem d_C_holds_19 : decode (jyc Y_C_holds) 19 = .ok (.aload_n 1, 1) := by decide +kernel
theorem d_C_holds_20 : decode (jyc Y_C_holds) 20 = .ok (.getfield 62, 3) := by decide +kernel
theorem d_C_holds_23 : decode (jyc Y_C_holds) 23 = .ok (.aload_n 0, 1) := by decide +kernel
theorem d_C_holds_24 : decode (jyc Y_C_holds) 24 = .ok (.getfield 9, 3) := by decide +kernel
theorem d_C_holds_27 : decode (jyc Y_C_holds) 27 = .ok (.iload_n 3, 1) := by decide +kernel
theorem d_C_holds_28 : decode (jyc Y_C_holds) 28 = .ok (.iaload, 1) := by decide +kernel
theorem d_C_holds_29 : decode (jyc Y_C_holds) 29 = .ok (.iaload, 1) := by decide +kernel
theorem d_C_holds_30 : decode (jyc Y_C_holds) 30 = .ok (.invokestatic 56, 3) := by decide +kernel
theorem d_C_holds_33 : decode (jyc Y_C_holds) 33 = .ok (.invokestatic 59, 3) := by decide +kernel
theorem d_C_holds_36 : decode (jyc Y_C_holds) 36 = .ok (.istore_n 2, 1) := by decide +kernel
theorem d_C_holds_37 : decode (jyc Y_C_holds) 37 = .ok (.iinc 3 1, 3) := by decide +kernel
theorem d_C_holds_40 : decode (jyc Y_C_holds) 40 = .ok (.goto (-36), 3) := by decide +kernel
theorem d_C_holds_43 : decode (jyc Y_C_holds) 43 = .ok (.iconst 0, 1) := by decide +kernel
theorem d_C_holds_44 : decode (jyc Y_C_holds) 44 = .ok (.istore_n 3, 1) := by decide +kernel
theorem d_C_holds_45 : decode (jyc Y_C_holds) 45 = .ok (.iload_n 3, 1) := by decide +kernel
theorem d_C_holds_46 : decode (jyc Y_C_holds) 46 = .ok (.iconst 4, 1) := by decide +kernel
theorem d_C_holds_47 : decode (jyc Y_C_holds) 47 = .ok (.if_icmp .ge 29, 3) := by decide +kernel
theorem d_C_holds_50 : decode (jyc Y_C_holds) 50 = .ok (.iload_n 2, 1) := by decide +kernel
theorem d_C_holds_51 : decode (jyc Y_C_holds) 51 = .ok (.aload_n 1, 1) := by decide +kernel
theorem d_C_holds_52 : decode (jyc Y_C_holds) 52 = .ok (.getfield 67, 3) := by decide +kernel
theorem d_C_holds_55 : decode (jyc Y_C_holds) 55 = .ok (.iload_n 3, 1) := by decide +kernel
theorem d_C_holds_56 : decode (jyc Y_C_holds) 56 = .ok (.iaload, 1) := by decide +kernel
theorem d_C_holds_57 : decode (jyc Y_C_holds) 57 = .ok (.aload_n 0, 1) := by decide +kernel
theorem d_C_holds_58 : decode (jyc Y_C_holds) 58 = .ok (.getfield 18, 3) := by decide +kernel
theorem d_C_holds_61 : decode (jyc Y_C_holds) 61 = .ok (.iload_n 3, 1) := by decide +kernel
theorem d_C_holds_62 : decode (jyc Y_C_holds) 62 = .ok (.iaload, 1) := by decide +kernel
theorem d_C_holds_63 : decode (jyc Y_C_holds) 63 = .ok (.invokestatic 56, 3) := by decide +kernel
theorem d_C_holds_66 : decode (jyc Y_C_holds) 66 = .ok (.invokestatic 59, 3) := by decide +kernel
theorem d_C_holds_69 : decode (jyc Y_C_holds) 69 = .ok (.istore_n 2, 1) := by decide +kernel
theorem d_C_holds_70 : decode (jyc Y_C_holds) 70 = .ok (.iinc 3 1, 3) := by decide +kernel
theorem d_C_holds_73 : decode (jyc Y_C_holds) 73 = .ok (.goto (-28), 3) := by decide +kernel
theorem d_C_holds_76 : decode (jyc Y_C_holds) 76 = .ok (.aload_n 0, 1) := by decide +kernel
theorem d_C_holds_77 : decode (jyc Y_C_holds) 77 = .ok (.getfield 18, 3) := by decide +kernel
theorem d_C_holds_80 : decode (jyc Y_C_holds) 80 = .ok (.iconst 4, 1) := by decide +kernel
theorem d_C_holds_81 : decode (jyc Y_C_holds) 81 = .ok (.iaload, 1) := by decide +kernel
theorem d_C_holds_82 : decode (jyc Y_C_holds) 82 = .ok (.iload_n 2, 1) := by decide +kernel
theorem d_C_holds_83 : decode (jyc Y_C_holds) 83 = .ok (.if_icmp .ne 7, 3) := by decide +kernel
theorem d_C_holds_86 : decode (jyc Y_C_holds) 86 = .ok (.iconst 1, 1) := by decide +kernel
theorem d_C_holds_87 : decode (jyc Y_C_holds) 87 = .ok (.goto 4, 3) := by decide +kernel
theorem d_C_holds_90 : decode (jyc Y_C_holds) 90 = .ok (.iconst 0, 1) := by decide +kernel
theorem d_C_holds_91 : decode (jyc Y_C_holds) 91 = .ok (.ireturn, 1) := by decide +kernel
theorem d_Y_init_0 : decode (jyc Y_Y_init) 0 = .ok (.aload_n 0, 1) := by decide +kernel
theorem d_Y_init_1 : decode (jyc Y_Y_init) 1 = .ok (.invokespecial 3, 3) := by decide +kernel
theorem d_Y_init_4 : decode (jyc Y_Y_init) 4 = .ok (.aload_n 0, 1) := by decide +kernel
theorem d_Y_init_5 : decode (jyc Y_Y_init) 5 = .ok (.new 9, 3) := by decide +kernel
theorem d_Y_init_8 : decode (jyc Y_Y_init) 8 = .ok (.dup, 1) := by decide +kernel
theorem d_Y_init_9 : decode (jyc Y_Y_init) 9 = .ok (.invokespecial 11, 3) := by decide +kernel
theorem d_Y_init_12 : decode (jyc Y_Y_init) 12 = .ok (.putfield 12, 3) := by decide +kernel
theorem d_Y_init_15 : decode (jyc Y_Y_init) 15 = .ok (.aload_n 0, 1) := by decide +kernel
theorem d_Y_init_16 : decode (jyc Y_Y_init) 16 = .ok (.bipush 24, 2) := by decide +kernel
theorem d_Y_init_18 : decode (jyc Y_Y_init) 18 = .ok (.newarray .boolean, 2) := by decide +kernel
theorem d_Y_init_20 : decode (jyc Y_Y_init) 20 = .ok (.putfield 18, 3) := by decide +kernel
theorem d_Y_init_23 : decode (jyc Y_Y_init) 23 = .ok (.return_, 1) := by decide +kernel
theorem d_Y_drop_0 : decode (jyc Y_Y_drop) 0 = .ok (.aload_n 0, 1) := by decide +kernel
theorem d_Y_drop_1 : decode (jyc Y_Y_drop) 1 = .ok (.getfield 18, 3) := by decide +kernel
theorem d_Y_drop_4 : decode (jyc Y_Y_drop) 4 = .ok (.iload_n 1, 1) := by decide +kernel
theorem d_Y_drop_5 : decode (jyc Y_Y_drop) 5 = .ok (.iconst 1, 1) := by decide +kernel
theorem d_Y_drop_6 : decode (jyc Y_Y_drop) 6 = .ok (.bastore, 1) := by decide +kernel
theorem d_Y_drop_7 : decode (jyc Y_Y_drop) 7 = .ok (.aload_n 0, 1) := by decide +kernel
theorem d_Y_drop_8 : decode (jyc Y_Y_drop) 8 = .ok (.getfield 12, 3) := by decide +kernel
theorem d_Y_drop_11 : decode (jyc Y_Y_drop) 11 = .ok (.iload_n 1, 1) := by decide +kernel
theorem d_Y_drop_12 : decode (jyc Y_Y_drop) 12 = .ok (.invokevirtual 22, 3) := by decide +kernel
theorem d_Y_drop_15 : decode (jyc Y_Y_drop) 15 = .ok (.return_, 1) := by decide +kernel
theorem d_Y_become_0 : decode (jyc Y_Y_become) 0 = .ok (.iconst 0, 1) := by decide +kernel
theorem d_Y_become_1 : decode (jyc Y_Y_become) 1 = .ok (.istore_n 3, 1) := by decide +kernel
theorem d_Y_become_2 : decode (jyc Y_Y_become) 2 = .ok (.iconst 0, 1) := by decide +kernel
theorem d_Y_become_3 : decode (jyc Y_Y_become) 3 = .ok (.istore 4, 2) := by decide +kernel
theorem d_Y_become_5 : decode (jyc Y_Y_become) 5 = .ok (.iload 4, 2) := by decide +kernel
theorem d_Y_become_7 : decode (jyc Y_Y_become) 7 = .ok (.iload_n 2, 1) := by decide +kernel
theorem d_Y_become_8 : decode (jyc Y_Y_become) 8 = .ok (.if_icmp .ge 60, 3) := by decide +kernel
theorem d_Y_become_11 : decode (jyc Y_Y_become) 11 = .ok (.aload_n 0, 1) := by decide +kernel
theorem d_Y_become_12 : decode (jyc Y_Y_become) 12 = .ok (.getfield 26, 3) := by decide +kernel
theorem d_Y_become_15 : decode (jyc Y_Y_become) 15 = .ok (.ifCond .eq 26, 3) := by decide +kernel
theorem d_Y_become_18 : decode (jyc Y_Y_become) 18 = .ok (.aload_n 0, 1) := by decide +kernel
theorem d_Y_become_19 : decode (jyc Y_Y_become) 19 = .ok (.getfield 18, 3) := by decide +kernel
theorem d_Y_become_22 : decode (jyc Y_Y_become) 22 = .ok (.iload 4, 2) := by decide +kernel
theorem d_Y_become_24 : decode (jyc Y_Y_become) 24 = .ok (.baload, 1) := by decide +kernel
theorem d_Y_become_25 : decode (jyc Y_Y_become) 25 = .ok (.ifCond .ne 16, 3) := by decide +kernel
theorem d_Y_become_28 : decode (jyc Y_Y_become) 28 = .ok (.aload_n 0, 1) := by decide +kernel
theorem d_Y_become_29 : decode (jyc Y_Y_become) 29 = .ok (.getfield 12, 3) := by decide +kernel
theorem d_Y_become_32 : decode (jyc Y_Y_become) 32 = .ok (.aload_n 1, 1) := by decide +kernel
theorem d_Y_become_33 : decode (jyc Y_Y_become) 33 = .ok (.iload 4, 2) := by decide +kernel
theorem d_Y_become_35 : decode (jyc Y_Y_become) 35 = .ok (.invokevirtual 30, 3) := by decide +kernel
theorem d_Y_become_38 : decode (jyc Y_Y_become) 38 = .ok (.ifCond .ne 6, 3) := by decide +kernel
theorem d_Y_become_41 : decode (jyc Y_Y_become) 41 = .ok (.iinc 3 1, 3) := by decide +kernel
theorem d_Y_become_44 : decode (jyc Y_Y_become) 44 = .ok (.aload_n 0, 1) := by decide +kernel
theorem d_Y_become_45 : decode (jyc Y_Y_become) 45 = .ok (.getfield 18, 3) := by decide +kernel
theorem d_Y_become_48 : decode (jyc Y_Y_become) 48 = .ok (.iload 4, 2) := by decide +kernel
theorem d_Y_become_50 : decode (jyc Y_Y_become) 50 = .ok (.iconst 0, 1) := by decide +kernel
theorem d_Y_become_51 : decode (jyc Y_Y_become) 51 = .ok (.bastore, 1) := by decide +kernel
theorem d_Y_become_52 : decode (jyc Y_Y_become) 52 = .ok (.aload_n 0, 1) := by decide +kernel
theorem d_Y_become_53 : decode (jyc Y_Y_become) 53 = .ok (.getfield 12, 3) := by decide +kernel
theorem d_Y_become_56 : decode (jyc Y_Y_become) 56 = .ok (.aload_n 1, 1) := by decide +kernel
theorem d_Y_become_57 : decode (jyc Y_Y_become) 57 = .ok (.iload 4, 2) := by decide +kernel
theorem d_Y_become_59 : decode (jyc Y_Y_become) 59 = .ok (.invokevirtual 34, 3) := by decide +kernel
theorem d_Y_become_62 : decode (jyc Y_Y_become) 62 = .ok (.iinc 4 1, 3) := by decide +kernel
theorem d_Y_become_65 : decode (jyc Y_Y_become) 65 = .ok (.goto (-60), 3) := by decide +kernel
theorem d_Y_become_68 : decode (jyc Y_Y_become) 68 = .ok (.aload_n 0, 1) := by decide +kernel
theorem d_Y_become_69 : decode (jyc Y_Y_become) 69 = .ok (.iconst 1, 1) := by decide +kernel
theorem d_Y_become_70 : decode (jyc Y_Y_become) 70 = .ok (.putfield 26, 3) := by decide +kernel
theorem d_Y_become_73 : decode (jyc Y_Y_become) 73 = .ok (.iload_n 3, 1) := by decide +kernel
theorem d_Y_become_74 : decode (jyc Y_Y_become) 74 = .ok (.ireturn, 1) := by decide +kernel
theorem d_E_init_0 : decode (jyc Y_E_init) 0 = .ok (.aload_n 0, 1) := by decide +kernel
theorem d_E_init_1 : decode (jyc Y_E_init) 1 = .ok (.invokespecial 3, 3) := by decide +kernel
theorem d_E_init_4 : decode (jyc Y_E_init) 4 = .ok (.aload_n 0, 1) := by decide +kernel
theorem d_E_init_5 : decode (jyc Y_E_init) 5 = .ok (.iconst 4, 1) := by decide +kernel
theorem d_E_init_6 : decode (jyc Y_E_init) 6 = .ok (.newarray .int, 2) := by decide +kernel
theorem d_E_init_8 : decode (jyc Y_E_init) 8 = .ok (.putfield 9, 3) := by decide +kernel
theorem d_E_init_11 : decode (jyc Y_E_init) 11 = .ok (.aload_n 0, 1) := by decide +kernel
theorem d_E_init_12 : decode (jyc Y_E_init) 12 = .ok (.bipush 24, 2) := by decide +kernel
theorem d_E_init_14 : decode (jyc Y_E_init) 14 = .ok (.newarray .int, 2) := by decide +kernel
theorem d_E_init_16 : decode (jyc Y_E_init) 16 = .ok (.putfield 15, 3) := by decide +kernel
theorem d_E_init_19 : decode (jyc Y_E_init) 19 = .ok (.aload_n 0, 1) := by decide +kernel
theorem d_E_init_20 : decode (jyc Y_E_init) 20 = .ok (.new 18, 3) := by decide +kernel
theorem d_E_init_23 : decode (jyc Y_E_init) 23 = .ok (.dup, 1) := by decide +kernel
theorem d_E_init_24 : decode (jyc Y_E_init) 24 = .ok (.invokespecial 20, 3) := by decide +kernel
theorem d_E_init_27 : decode (jyc Y_E_init) 27 = .ok (.putfield 21, 3) := by decide +kernel
theorem d_E_init_30 : decode (jyc Y_E_init) 30 = .ok (.return_, 1) := by decide +kernel
theorem d_E_drawSecrets_0 : decode (jyc Y_E_drawSecrets) 0 = .ok (.iconst 0, 1) := by decide +kernel
theorem d_E_drawSecrets_1 : decode (jyc Y_E_drawSecrets) 1 = .ok (.istore 6, 2) := by decide +kernel
theorem d_E_drawSecrets_3 : decode (jyc Y_E_drawSecrets) 3 = .ok (.iload 6, 2) := by decide +kernel
theorem d_E_drawSecrets_5 : decode (jyc Y_E_drawSecrets) 5 = .ok (.iconst 4, 1) := by decide +kernel
theorem d_E_drawSecrets_6 : decode (jyc Y_E_drawSecrets) 6 = .ok (.if_icmp .ge 29, 3) := by decide +kernel
theorem d_E_drawSecrets_9 : decode (jyc Y_E_drawSecrets) 9 = .ok (.aload_n 0, 1) := by decide +kernel
theorem d_E_drawSecrets_10 : decode (jyc Y_E_drawSecrets) 10 = .ok (.getfield 9, 3) := by decide +kernel
theorem d_E_drawSecrets_13 : decode (jyc Y_E_drawSecrets) 13 = .ok (.iload 6, 2) := by decide +kernel
theorem d_E_drawSecrets_15 : decode (jyc Y_E_drawSecrets) 15 = .ok (.lload_n 1, 1) := by decide +kernel
theorem d_E_drawSecrets_16 : decode (jyc Y_E_drawSecrets) 16 = .ok (.lload_n 3, 1) := by decide +kernel
theorem d_E_drawSecrets_17 : decode (jyc Y_E_drawSecrets) 17 = .ok (.bipush 64, 2) := by decide +kernel
theorem d_E_drawSecrets_19 : decode (jyc Y_E_drawSecrets) 19 = .ok (.iload 5, 2) := by decide +kernel
theorem d_E_drawSecrets_21 : decode (jyc Y_E_drawSecrets) 21 = .ok (.imul, 1) := by decide +kernel
theorem d_E_drawSecrets_22 : decode (jyc Y_E_drawSecrets) 22 = .ok (.iload 6, 2) := by decide +kernel
theorem d_E_drawSecrets_24 : decode (jyc Y_E_drawSecrets) 24 = .ok (.iadd, 1) := by decide +kernel
theorem d_E_drawSecrets_25 : decode (jyc Y_E_drawSecrets) 25 = .ok (.invokestatic 25, 3) := by decide +kernel
theorem d_E_drawSecrets_28 : decode (jyc Y_E_drawSecrets) 28 = .ok (.iastore, 1) := by decide +kernel
theorem d_E_drawSecrets_29 : decode (jyc Y_E_drawSecrets) 29 = .ok (.iinc 6 1, 3) := by decide +kernel
theorem d_E_drawSecrets_32 : decode (jyc Y_E_drawSecrets) 32 = .ok (.goto (-29), 3) := by decide +kernel
theorem d_E_drawSecrets_35 : decode (jyc Y_E_drawSecrets) 35 = .ok (.iconst 0, 1) := by decide +kernel
theorem d_E_drawSecrets_36 : decode (jyc Y_E_drawSecrets) 36 = .ok (.istore 6, 2) := by decide +kernel
theorem d_E_drawSecrets_38 : decode (jyc Y_E_drawSecrets) 38 = .ok (.iload 6, 2) := by decide +kernel
theorem d_E_drawSecrets_40 : decode (jyc Y_E_drawSecrets) 40 = .ok (.bipush 24, 2) := by decide +kernel
theorem d_E_drawSecrets_42 : decode (jyc Y_E_drawSecrets) 42 = .ok (.if_icmp .ge 32, 3) := by decide +kernel
theorem d_E_drawSecrets_45 : decode (jyc Y_E_drawSecrets) 45 = .ok (.aload_n 0, 1) := by decide +kernel
theorem d_E_drawSecrets_46 : decode (jyc Y_E_drawSecrets) 46 = .ok (.getfield 15, 3) := by decide +kernel
theorem d_E_drawSecrets_49 : decode (jyc Y_E_drawSecrets) 49 = .ok (.iload 6, 2) := by decide +kernel
theorem d_E_drawSecrets_51 : decode (jyc Y_E_drawSecrets) 51 = .ok (.lload_n 1, 1) := by decide +kernel
theorem d_E_drawSecrets_52 : decode (jyc Y_E_drawSecrets) 52 = .ok (.lload_n 3, 1) := by decide +kernel
theorem d_E_drawSecrets_53 : decode (jyc Y_E_drawSecrets) 53 = .ok (.bipush 64, 2) := by decide +kernel
theorem d_E_drawSecrets_55 : decode (jyc Y_E_drawSecrets) 55 = .ok (.iload 5, 2) := by decide +kernel
theorem d_E_drawSecrets_57 : decode (jyc Y_E_drawSecrets) 57 = .ok (.imul, 1) := by decide +kernel
theorem d_E_drawSecrets_58 : decode (jyc Y_E_drawSecrets) 58 = .ok (.bipush 8, 2) := by decide +kernel
theorem d_E_drawSecrets_60 : decode (jyc Y_E_drawSecrets) 60 = .ok (.iadd, 1) := by decide +kernel
theorem d_E_drawSecrets_61 : decode (jyc Y_E_drawSecrets) 61 = .ok (.iload 6, 2) := by decide +kernel
theorem d_E_drawSecrets_63 : decode (jyc Y_E_drawSecrets) 63 = .ok (.iadd, 1) := by decide +kernel
theorem d_E_drawSecrets_64 : decode (jyc Y_E_drawSecrets) 64 = .ok (.invokestatic 25, 3) := by decide +kernel
theorem d_E_drawSecrets_67 : decode (jyc Y_E_drawSecrets) 67 = .ok (.iastore, 1) := by decide +kernel
theorem d_E_drawSecrets_68 : decode (jyc Y_E_drawSecrets) 68 = .ok (.iinc 6 1, 3) := by decide +kernel
theorem d_E_drawSecrets_71 : decode (jyc Y_E_drawSecrets) 71 = .ok (.goto (-33), 3) := by decide +kernel
theorem d_E_drawSecrets_74 : decode (jyc Y_E_drawSecrets) 74 = .ok (.return_, 1) := by decide +kernel
theorem d_E_make_0 : decode (jyc Y_E_make) 0 = .ok (.aload_n 0, 1) := by decide +kernel
theorem d_E_make_1 : decode (jyc Y_E_make) 1 = .ok (.iload_n 2, 1) := by decide +kernel
theorem d_E_make_2 : decode (jyc Y_E_make) 2 = .ok (.putfield 31, 3) := by decide +kernel
theorem d_E_make_5 : decode (jyc Y_E_make) 5 = .ok (.aload_n 0, 1) := by decide +kernel
theorem d_E_make_6 : decode (jyc Y_E_make) 6 = .ok (.iload_n 2, 1) := by decide +kernel
theorem d_E_make_7 : decode (jyc Y_E_make) 7 = .ok (.bipush 16, 2) := by decide +kernel
theorem d_E_make_9 : decode (jyc Y_E_make) 9 = .ok (.iadd, 1) := by decide +kernel
theorem d_E_make_10 : decode (jyc Y_E_make) 10 = .ok (.iconst 1, 1) := by decide +kernel
theorem d_E_make_11 : decode (jyc Y_E_make) 11 = .ok (.isub, 1) := by decide +kernel
theorem d_E_make_12 : decode (jyc Y_E_make) 12 = .ok (.bipush 16, 2) := by decide +kernel
theorem d_E_make_14 : decode (jyc Y_E_make) 14 = .ok (.idiv, 1) := by decide +kernel
theorem d_E_make_15 : decode (jyc Y_E_make) 15 = .ok (.bipush 6, 2) := by decide +kernel
theorem d_E_make_17 : decode (jyc Y_E_make) 17 = .ok (.imul, 1) := by decide +kernel
theorem d_E_make_18 : decode (jyc Y_E_make) 18 = .ok (.putfield 35, 3) := by decide +kernel
theorem d_E_make_21 : decode (jyc Y_E_make) 21 = .ok (.iconst 0, 1) := by decide +kernel
theorem d_E_make_22 : decode (jyc Y_E_make) 22 = .ok (.istore_n 3, 1) := by decide +kernel
theorem d_E_make_23 : decode (jyc Y_E_make) 23 = .ok (.iload_n 3, 1) := by decide +kernel
theorem d_E_make_24 : decode (jyc Y_E_make) 24 = .ok (.iload_n 2, 1) := by decide +kernel
theorem d_E_make_25 : decode (jyc Y_E_make) 25 = .ok (.if_icmp .ge 26, 3) := by decide +kernel
theorem d_E_make_28 : decode (jyc Y_E_make) 28 = .ok (.aload_n 0, 1) := by decide +kernel
theorem d_E_make_29 : decode (jyc Y_E_make) 29 = .ok (.getfield 21, 3) := by decide +kernel
theorem d_E_make_32 : decode (jyc Y_E_make) 32 = .ok (.iload_n 3, 1) := by decide +kernel
theorem d_E_make_33 : decode (jyc Y_E_make) 33 = .ok (.invokestatic 38, 3) := by decide +kernel
theorem d_E_make_36 : decode (jyc Y_E_make) 36 = .ok (.iload_n 3, 1) := by decide +kernel
theorem d_E_make_37 : decode (jyc Y_E_make) 37 = .ok (.iconst 4, 1) := by decide +kernel
theorem d_E_make_38 : decode (jyc Y_E_make) 38 = .ok (.irem, 1) := by decide +kernel
theorem d_E_make_39 : decode (jyc Y_E_make) 39 = .ok (.aload_n 1, 1) := by decide +kernel
theorem d_E_make_40 : decode (jyc Y_E_make) 40 = .ok (.iload_n 3, 1) := by decide +kernel
theorem d_E_make_41 : decode (jyc Y_E_make) 41 = .ok (.iaload, 1) := by decide +kernel
theorem d_E_make_42 : decode (jyc Y_E_make) 42 = .ok (.invokevirtual 42, 3) := by decide +kernel
theorem d_E_make_45 : decode (jyc Y_E_make) 45 = .ok (.iinc 3 1, 3) := by decide +kernel
theorem d_E_make_48 : decode (jyc Y_E_make) 48 = .ok (.goto (-25), 3) := by decide +kernel
theorem d_E_make_51 : decode (jyc Y_E_make) 51 = .ok (.aload_n 0, 1) := by decide +kernel
theorem d_E_make_52 : decode (jyc Y_E_make) 52 = .ok (.aload_n 0, 1) := by decide +kernel
theorem d_E_make_53 : decode (jyc Y_E_make) 53 = .ok (.getfield 21, 3) := by decide +kernel
theorem d_E_make_56 : decode (jyc Y_E_make) 56 = .ok (.invokevirtual 46, 3) := by decide +kernel
theorem d_E_make_59 : decode (jyc Y_E_make) 59 = .ok (.return_, 1) := by decide +kernel
theorem d_E_complete_0 : decode (jyc Y_E_complete) 0 = .ok (.iconst 0, 1) := by decide +kernel
theorem d_E_complete_1 : decode (jyc Y_E_complete) 1 = .ok (.istore_n 2, 1) := by decide +kernel
theorem d_E_complete_2 : decode (jyc Y_E_complete) 2 = .ok (.iload_n 2, 1) := by decide +kernel
theorem d_E_complete_3 : decode (jyc Y_E_complete) 3 = .ok (.aload_n 0, 1) := by decide +kernel
theorem d_E_complete_4 : decode (jyc Y_E_complete) 4 = .ok (.getfield 35, 3) := by decide +kernel
theorem d_E_complete_7 : decode (jyc Y_E_complete) 7 = .ok (.if_icmp .ge 14, 3) := by decide +kernel
theorem d_E_complete_10 : decode (jyc Y_E_complete) 10 = .ok (.aload_n 1, 1) := by decide +kernel
theorem d_E_complete_11 : decode (jyc Y_E_complete) 11 = .ok (.iload_n 2, 1) := by decide +kernel
theorem d_E_complete_12 : decode (jyc Y_E_complete) 12 = .ok (.invokevirtual 50, 3) := by decide +kernel
theorem d_E_complete_15 : decode (jyc Y_E_complete) 15 = .ok (.iinc 2 6, 3) := by decide +kernel
theorem d_E_complete_18 : decode (jyc Y_E_complete) 18 = .ok (.goto (-16), 3) := by decide +kernel
theorem d_E_complete_21 : decode (jyc Y_E_complete) 21 = .ok (.iconst 0, 1) := by decide +kernel
theorem d_E_complete_22 : decode (jyc Y_E_complete) 22 = .ok (.istore_n 2, 1) := by decide +kernel
theorem d_E_complete_23 : decode (jyc Y_E_complete) 23 = .ok (.iload_n 2, 1) := by decide +kernel
theorem d_E_complete_24 : decode (jyc Y_E_complete) 24 = .ok (.aload_n 0, 1) := by decide +kernel
theorem d_E_complete_25 : decode (jyc Y_E_complete) 25 = .ok (.getfield 35, 3) := by decide +kernel
theorem d_E_complete_28 : decode (jyc Y_E_complete) 28 = .ok (.if_icmp .ge 21, 3) := by decide +kernel
theorem d_E_complete_31 : decode (jyc Y_E_complete) 31 = .ok (.aload_n 1, 1) := by decide +kernel
theorem d_E_complete_32 : decode (jyc Y_E_complete) 32 = .ok (.iload_n 2, 1) := by decide +kernel
theorem d_E_complete_33 : decode (jyc Y_E_complete) 33 = .ok (.iconst 4, 1) := by decide +kernel
theorem d_E_complete_34 : decode (jyc Y_E_complete) 34 = .ok (.aload_n 0, 1) := by decide +kernel
theorem d_E_complete_35 : decode (jyc Y_E_complete) 35 = .ok (.aload_n 1, 1) := by decide +kernel
theorem d_E_complete_36 : decode (jyc Y_E_complete) 36 = .ok (.iload_n 2, 1) := by decide +kernel
theorem d_E_complete_37 : decode (jyc Y_E_complete) 37 = .ok (.invokevirtual 54, 3) := by decide +kernel
theorem d_E_complete_40 : decode (jyc Y_E_complete) 40 = .ok (.invokevirtual 42, 3) := by decide +kernel
theorem d_E_complete_43 : decode (jyc Y_E_complete) 43 = .ok (.iinc 2 1, 3) := by decide +kernel
theorem d_E_complete_46 : decode (jyc Y_E_complete) 46 = .ok (.goto (-23), 3) := by decide +kernel
theorem d_E_complete_49 : decode (jyc Y_E_complete) 49 = .ok (.return_, 1) := by decide +kernel
theorem d_E_tagOf_0 : decode (jyc Y_E_tagOf) 0 = .ok (.aload_n 0, 1) := by decide +kernel
theorem d_E_tagOf_1 : decode (jyc Y_E_tagOf) 1 = .ok (.getfield 15, 3) := by decide +kernel
theorem d_E_tagOf_4 : decode (jyc Y_E_tagOf) 4 = .ok (.iload_n 2, 1) := by decide +kernel
theorem d_E_tagOf_5 : decode (jyc Y_E_tagOf) 5 = .ok (.iaload, 1) := by decide +kernel
theorem d_E_tagOf_6 : decode (jyc Y_E_tagOf) 6 = .ok (.istore_n 3, 1) := by decide +kernel
theorem d_E_tagOf_7 : decode (jyc Y_E_tagOf) 7 = .ok (.iconst 0, 1) := by decide +kernel
theorem d_E_tagOf_8 : decode (jyc Y_E_tagOf) 8 = .ok (.istore 4, 2) := by decide +kernel
theorem d_E_tagOf_10 : decode (jyc Y_E_tagOf) 10 = .ok (.iload 4, 2) := by decide +kernel
theorem d_E_tagOf_12 : decode (jyc Y_E_tagOf) 12 = .ok (.iconst 4, 1) := by decide +kernel
theorem d_E_tagOf_13 : decode (jyc Y_E_tagOf) 13 = .ok (.if_icmp .ge 31, 3) := by decide +kernel
theorem d_E_tagOf_16 : decode (jyc Y_E_tagOf) 16 = .ok (.iload_n 3, 1) := by decide +kernel
theorem d_E_tagOf_17 : decode (jyc Y_E_tagOf) 17 = .ok (.aload_n 0, 1) := by decide +kernel
theorem d_E_tagOf_18 : decode (jyc Y_E_tagOf) 18 = .ok (.getfield 9, 3) := by decide +kernel
theorem d_E_tagOf_21 : decode (jyc Y_E_tagOf) 21 = .ok (.iload 4, 2) := by decide +kernel
theorem d_E_tagOf_23 : decode (jyc Y_E_tagOf) 23 = .ok (.iaload, 1) := by decide +kernel
theorem d_E_tagOf_24 : decode (jyc Y_E_tagOf) 24 = .ok (.aload_n 1, 1) := by decide +kernel
theorem d_E_tagOf_25 : decode (jyc Y_E_tagOf) 25 = .ok (.iload_n 2, 1) := by decide +kernel
theorem d_E_tagOf_26 : decode (jyc Y_E_tagOf) 26 = .ok (.iload 4, 2) := by decide +kernel
theorem d_E_tagOf_28 : decode (jyc Y_E_tagOf) 28 = .ok (.invokevirtual 58, 3) := by decide +kernel
theorem d_E_tagOf_31 : decode (jyc Y_E_tagOf) 31 = .ok (.invokestatic 62, 3) := by decide +kernel
theorem d_E_tagOf_34 : decode (jyc Y_E_tagOf) 34 = .ok (.invokestatic 65, 3) := by decide +kernel
theorem d_E_tagOf_37 : decode (jyc Y_E_tagOf) 37 = .ok (.istore_n 3, 1) := by decide +kernel
theorem d_E_tagOf_38 : decode (jyc Y_E_tagOf) 38 = .ok (.iinc 4 1, 3) := by decide +kernel
theorem d_E_tagOf_41 : decode (jyc Y_E_tagOf) 41 = .ok (.goto (-31), 3) := by decide +kernel
theorem d_E_tagOf_44 : decode (jyc Y_E_tagOf) 44 = .ok (.iload_n 3, 1) := by decide +kernel
theorem d_E_tagOf_45 : decode (jyc Y_E_tagOf) 45 = .ok (.ireturn, 1) := by decide +kernel
theorem d_F_has_0 : decode (jyc Y_F_has) 0 = .ok (.iload_n 0, 1) := by decide +kernel
theorem d_F_has_1 : decode (jyc Y_F_has) 1 = .ok (.ifCond .lt 13, 3) := by decide +kernel
theorem d_F_has_4 : decode (jyc Y_F_has) 4 = .ok (.iload_n 0, 1) := by decide +kernel
theorem d_F_has_5 : decode (jyc Y_F_has) 5 = .ok (.ldc 9, 2) := by decide +kernel
theorem d_F_has_7 : decode (jyc Y_F_has) 7 = .ok (.if_icmp .ge 7, 3) := by decide +kernel
theorem d_F_has_10 : decode (jyc Y_F_has) 10 = .ok (.iconst 1, 1) := by decide +kernel
theorem d_F_has_11 : decode (jyc Y_F_has) 11 = .ok (.goto 4, 3) := by decide +kernel
theorem d_F_has_14 : decode (jyc Y_F_has) 14 = .ok (.iconst 0, 1) := by decide +kernel
theorem d_F_has_15 : decode (jyc Y_F_has) 15 = .ok (.ireturn, 1) := by decide +kernel
theorem d_F_plus_0 : decode (jyc Y_F_plus) 0 = .ok (.iload_n 0, 1) := by decide +kernel
theorem d_F_plus_1 : decode (jyc Y_F_plus) 1 = .ok (.i2l, 1) := by decide +kernel
theorem d_F_plus_2 : decode (jyc Y_F_plus) 2 = .ok (.iload_n 1, 1) := by decide +kernel
theorem d_F_plus_3 : decode (jyc Y_F_plus) 3 = .ok (.i2l, 1) := by decide +kernel
theorem d_F_plus_4 : decode (jyc Y_F_plus) 4 = .ok (.ladd, 1) := by decide +kernel
theorem d_F_plus_5 : decode (jyc Y_F_plus) 5 = .ok (.ldc2_w 10, 3) := by decide +kernel
theorem d_F_plus_8 : decode (jyc Y_F_plus) 8 = .ok (.lrem, 1) := by decide +kernel
theorem d_F_plus_9 : decode (jyc Y_F_plus) 9 = .ok (.l2i, 1) := by decide +kernel
theorem d_F_plus_10 : decode (jyc Y_F_plus) 10 = .ok (.ireturn, 1) := by decide +kernel
theorem d_F_minus_0 : decode (jyc Y_F_minus) 0 = .ok (.iload_n 0, 1) := by decide +kernel
theorem d_F_minus_1 : decode (jyc Y_F_minus) 1 = .ok (.i2l, 1) := by decide +kernel
theorem d_F_minus_2 : decode (jyc Y_F_minus) 2 = .ok (.iload_n 1, 1) := by decide +kernel
theorem d_F_minus_3 : decode (jyc Y_F_minus) 3 = .ok (.i2l, 1) := by decide +kernel
theorem d_F_minus_4 : decode (jyc Y_F_minus) 4 = .ok (.lsub, 1) := by decide +kernel
theorem d_F_minus_5 : decode (jyc Y_F_minus) 5 = .ok (.ldc2_w 10, 3) := by decide +kernel
theorem d_F_minus_8 : decode (jyc Y_F_minus) 8 = .ok (.ladd, 1) := by decide +kernel
theorem d_F_minus_9 : decode (jyc Y_F_minus) 9 = .ok (.ldc2_w 10, 3) := by decide +kernel
theorem d_F_minus_12 : decode (jyc Y_F_minus) 12 = .ok (.lrem, 1) := by decide +kernel
theorem d_F_minus_13 : decode (jyc Y_F_minus) 13 = .ok (.l2i, 1) := by decide +kernel
theorem d_F_minus_14 : decode (jyc Y_F_minus) 14 = .ok (.ireturn, 1) := by decide +kernel
theorem d_F_times_0 : decode (jyc Y_F_times) 0 = .ok (.iload_n 0, 1) := by decide +kernel
theorem d_F_times_1 : decode (jyc Y_F_times) 1 = .ok (.i2l, 1) := by decide +kernel
theorem d_F_times_2 : decode (jyc Y_F_times) 2 = .ok (.iload_n 1, 1) := by decide +kernel
theorem d_F_times_3 : decode (jyc Y_F_times) 3 = .ok (.i2l, 1) := by decide +kernel
theorem d_F_times_4 : decode (jyc Y_F_times) 4 = .ok (.lmul, 1) := by decide +kernel
theorem d_F_times_5 : decode (jyc Y_F_times) 5 = .ok (.ldc2_w 10, 3) := by decide +kernel
theorem d_F_times_8 : decode (jyc Y_F_times) 8 = .ok (.lrem, 1) := by decide +kernel
theorem d_F_times_9 : decode (jyc Y_F_times) 9 = .ok (.l2i, 1) := by decide +kernel
theorem d_F_times_10 : decode (jyc Y_F_times) 10 = .ok (.ireturn, 1) := by decide +kernel
theorem d_F_secret_0 : decode (jyc Y_F_secret) 0 = .ok (.lload_n 0, 1) := by decide +kernel
theorem d_F_secret_1 : decode (jyc Y_F_secret) 1 = .ok (.iload 4, 2) := by decide +kernel
theorem d_F_secret_3 : decode (jyc Y_F_secret) 3 = .ok (.i2l, 1) := by decide +kernel
theorem d_F_secret_4 : decode (jyc Y_F_secret) 4 = .ok (.ldc2_w 12, 3) := by decide +kernel
theorem d_F_secret_7 : decode (jyc Y_F_secret) 7 = .ok (.lmul, 1) := by decide +kernel
theorem d_F_secret_8 : decode (jyc Y_F_secret) 8 = .ok (.ladd, 1) := by decide +kernel
theorem d_F_secret_9 : decode (jyc Y_F_secret) 9 = .ok (.lstore 5, 2) := by decide +kernel
theorem d_F_secret_11 : decode (jyc Y_F_secret) 11 = .ok (.iconst 0, 1) := by decide +kernel
theorem d_F_secret_12 : decode (jyc Y_F_secret) 12 = .ok (.istore 7, 2) := by decide +kernel
theorem d_F_secret_14 : decode (jyc Y_F_secret) 14 = .ok (.iload 7, 2) := by decide +kernel
theorem d_F_secret_16 : decode (jyc Y_F_secret) 16 = .ok (.iconst 4, 1) := by decide +kernel
theorem d_F_secret_17 : decode (jyc Y_F_secret) 17 = .ok (.if_icmp .ge 49, 3) := by decide +kernel
theorem d_F_secret_20 : decode (jyc Y_F_secret) 20 = .ok (.lload 5, 2) := by decide +kernel
theorem d_F_secret_22 : decode (jyc Y_F_secret) 22 = .ok (.lload 5, 2) := by decide +kernel
theorem d_F_secret_24 : decode (jyc Y_F_secret) 24 = .ok (.bipush 30, 2) := by decide +kernel
theorem d_F_secret_26 : decode (jyc Y_F_secret) 26 = .ok (.lushr, 1) := by decide +kernel
theorem d_F_secret_27 : decode (jyc Y_F_secret) 27 = .ok (.lxor, 1) := by decide +kernel
theorem d_F_secret_28 : decode (jyc Y_F_secret) 28 = .ok (.ldc2_w 14, 3) := by decide +kernel
theorem d_F_secret_31 : decode (jyc Y_F_secret) 31 = .ok (.lmul, 1) := by decide +kernel
theorem d_F_secret_32 : decode (jyc Y_F_secret) 32 = .ok (.lstore 5, 2) := by decide +kernel
theorem d_F_secret_34 : decode (jyc Y_F_secret) 34 = .ok (.lload 5, 2) := by decide +kernel
theorem d_F_secret_36 : decode (jyc Y_F_secret) 36 = .ok (.lload 5, 2) := by decide +kernel
theorem d_F_secret_38 : decode (jyc Y_F_secret) 38 = .ok (.bipush 27, 2) := by decide +kernel
theorem d_F_secret_40 : decode (jyc Y_F_secret) 40 = .ok (.lushr, 1) := by decide +kernel
theorem d_F_secret_41 : decode (jyc Y_F_secret) 41 = .ok (.lxor, 1) := by decide +kernel
theorem d_F_secret_42 : decode (jyc Y_F_secret) 42 = .ok (.ldc2_w 16, 3) := by decide +kernel
theorem d_F_secret_45 : decode (jyc Y_F_secret) 45 = .ok (.lmul, 1) := by decide +kernel
theorem d_F_secret_46 : decode (jyc Y_F_secret) 46 = .ok (.lstore 5, 2) := by decide +kernel
theorem d_F_secret_48 : decode (jyc Y_F_secret) 48 = .ok (.lload 5, 2) := by decide +kernel
theorem d_F_secret_50 : decode (jyc Y_F_secret) 50 = .ok (.lload 5, 2) := by decide +kernel
theorem d_F_secret_52 : decode (jyc Y_F_secret) 52 = .ok (.bipush 31, 2) := by decide +kernel
theorem d_F_secret_54 : decode (jyc Y_F_secret) 54 = .ok (.lushr, 1) := by decide +kernel
theorem d_F_secret_55 : decode (jyc Y_F_secret) 55 = .ok (.lxor, 1) := by decide +kernel
theorem d_F_secret_56 : decode (jyc Y_F_secret) 56 = .ok (.lload_n 2, 1) := by decide +kernel
theorem d_F_secret_57 : decode (jyc Y_F_secret) 57 = .ok (.ladd, 1) := by decide +kernel
theorem d_F_secret_58 : decode (jyc Y_F_secret) 58 = .ok (.lstore 5, 2) := by decide +kernel
theorem d_F_secret_60 : decode (jyc Y_F_secret) 60 = .ok (.iinc 7 1, 3) := by decide +kernel
theorem d_F_secret_63 : decode (jyc Y_F_secret) 63 = .ok (.goto (-49), 3) := by decide +kernel
theorem d_F_secret_66 : decode (jyc Y_F_secret) 66 = .ok (.lload 5, 2) := by decide +kernel
theorem d_F_secret_68 : decode (jyc Y_F_secret) 68 = .ok (.bipush 33, 2) := by decide +kernel
theorem d_F_secret_70 : decode (jyc Y_F_secret) 70 = .ok (.lushr, 1) := by decide +kernel
theorem d_F_secret_71 : decode (jyc Y_F_secret) 71 = .ok (.ldc2_w 10, 3) := by decide +kernel
theorem d_F_secret_74 : decode (jyc Y_F_secret) 74 = .ok (.lrem, 1) := by decide +kernel
theorem d_F_secret_75 : decode (jyc Y_F_secret) 75 = .ok (.l2i, 1) := by decide +kernel
theorem d_F_secret_76 : decode (jyc Y_F_secret) 76 = .ok (.ireturn, 1) := by decide +kernel
theorem d_K_init_0 : decode (jyc Y_K_init) 0 = .ok (.aload_n 0, 1) := by decide +kernel
theorem d_K_init_1 : decode (jyc Y_K_init) 1 = .ok (.invokespecial 3, 3) := by decide +kernel
theorem d_K_init_4 : decode (jyc Y_K_init) 4 = .ok (.aload_n 0, 1) := by decide +kernel
theorem d_K_init_5 : decode (jyc Y_K_init) 5 = .ok (.iconst 3, 1) := by decide +kernel
theorem d_K_init_6 : decode (jyc Y_K_init) 6 = .ok (.anewarray 9, 3) := by decide +kernel
theorem d_K_init_9 : decode (jyc Y_K_init) 9 = .ok (.putfield 11, 3) := by decide +kernel
theorem d_K_init_12 : decode (jyc Y_K_init) 12 = .ok (.iconst 0, 1) := by decide +kernel
theorem d_K_init_13 : decode (jyc Y_K_init) 13 = .ok (.istore_n 1, 1) := by decide +kernel
theorem d_K_init_14 : decode (jyc Y_K_init) 14 = .ok (.iload_n 1, 1) := by decide +kernel
theorem d_K_init_15 : decode (jyc Y_K_init) 15 = .ok (.iconst 3, 1) := by decide +kernel
theorem d_K_init_16 : decode (jyc Y_K_init) 16 = .ok (.if_icmp .ge 22, 3) := by decide +kernel
theorem d_K_init_19 : decode (jyc Y_K_init) 19 = .ok (.aload_n 0, 1) := by decide +kernel
theorem d_K_init_20 : decode (jyc Y_K_init) 20 = .ok (.getfield 11, 3) := by decide +kernel
theorem d_K_init_23 : decode (jyc Y_K_init) 23 = .ok (.iload_n 1, 1) := by decide +kernel
theorem d_K_init_24 : decode (jyc Y_K_init) 24 = .ok (.new 9, 3) := by decide +kernel
theorem d_K_init_27 : decode (jyc Y_K_init) 27 = .ok (.dup, 1) := by decide +kernel
theorem d_K_init_28 : decode (jyc Y_K_init) 28 = .ok (.invokespecial 17, 3) := by decide +kernel
theorem d_K_init_31 : decode (jyc Y_K_init) 31 = .ok (.aastore, 1) := by decide +kernel
theorem d_K_init_32 : decode (jyc Y_K_init) 32 = .ok (.iinc 1 1, 3) := by decide +kernel
theorem d_K_init_35 : decode (jyc Y_K_init) 35 = .ok (.goto (-21), 3) := by decide +kernel
theorem d_K_init_38 : decode (jyc Y_K_init) 38 = .ok (.return_, 1) := by decide +kernel
theorem d_K_tally_0 : decode (jyc Y_K_tally) 0 = .ok (.iload_n 1, 1) := by decide +kernel
theorem d_K_tally_1 : decode (jyc Y_K_tally) 1 = .ok (.tableswitch 42 0 2 #[27, 32, 37], 27) := by decide +kernel
theorem d_K_tally_28 : decode (jyc Y_K_tally) 28 = .ok (.aload_n 0, 1) := by decide +kernel
theorem d_K_tally_29 : decode (jyc Y_K_tally) 29 = .ok (.getfield 18, 3) := by decide +kernel
theorem d_K_tally_32 : decode (jyc Y_K_tally) 32 = .ok (.ireturn, 1) := by decide +kernel
theorem d_K_tally_33 : decode (jyc Y_K_tally) 33 = .ok (.aload_n 0, 1) := by decide +kernel
theorem d_K_tally_34 : decode (jyc Y_K_tally) 34 = .ok (.getfield 22, 3) := by decide +kernel
theorem d_K_tally_37 : decode (jyc Y_K_tally) 37 = .ok (.ireturn, 1) := by decide +kernel
theorem d_K_tally_38 : decode (jyc Y_K_tally) 38 = .ok (.aload_n 0, 1) := by decide +kernel
theorem d_K_tally_39 : decode (jyc Y_K_tally) 39 = .ok (.getfield 25, 3) := by decide +kernel
theorem d_K_tally_42 : decode (jyc Y_K_tally) 42 = .ok (.ireturn, 1) := by decide +kernel
theorem d_K_tally_43 : decode (jyc Y_K_tally) 43 = .ok (.iconst (-1), 1) := by decide +kernel
theorem d_K_tally_44 : decode (jyc Y_K_tally) 44 = .ok (.ireturn, 1) := by decide +kernel
theorem d_R_init_0 : decode (jyc Y_R_init) 0 = .ok (.aload_n 0, 1) := by decide +kernel
theorem d_R_init_1 : decode (jyc Y_R_init) 1 = .ok (.invokespecial 3, 3) := by decide +kernel
theorem d_R_init_4 : decode (jyc Y_R_init) 4 = .ok (.aload_n 0, 1) := by decide +kernel
theorem d_R_init_5 : decode (jyc Y_R_init) 5 = .ok (.bipush 120, 2) := by decide +kernel
theorem d_R_init_7 : decode (jyc Y_R_init) 7 = .ok (.newarray .int, 2) := by decide +kernel
theorem d_R_init_9 : decode (jyc Y_R_init) 9 = .ok (.putfield 9, 3) := by decide +kernel
theorem d_R_init_12 : decode (jyc Y_R_init) 12 = .ok (.return_, 1) := by decide +kernel
theorem d_R_rowOfWord_0 : decode (jyc Y_R_rowOfWord) 0 = .ok (.iload_n 0, 1) := by decide +kernel
theorem d_R_rowOfWord_1 : decode (jyc Y_R_rowOfWord) 1 = .ok (.bipush 16, 2) := by decide +kernel
theorem d_R_rowOfWord_3 : decode (jyc Y_R_rowOfWord) 3 = .ok (.idiv, 1) := by decide +kernel
theorem d_R_rowOfWord_4 : decode (jyc Y_R_rowOfWord) 4 = .ok (.bipush 6, 2) := by decide +kernel
theorem d_R_rowOfWord_6 : decode (jyc Y_R_rowOfWord) 6 = .ok (.imul, 1) := by decide +kernel
theorem d_R_rowOfWord_7 : decode (jyc Y_R_rowOfWord) 7 = .ok (.iload_n 0, 1) := by decide +kernel
theorem d_R_rowOfWord_8 : decode (jyc Y_R_rowOfWord) 8 = .ok (.bipush 16, 2) := by decide +kernel
theorem d_R_rowOfWord_10 : decode (jyc Y_R_rowOfWord) 10 = .ok (.irem, 1) := by decide +kernel
theorem d_R_rowOfWord_11 : decode (jyc Y_R_rowOfWord) 11 = .ok (.iconst 4, 1) := by decide +kernel
theorem d_R_rowOfWord_12 : decode (jyc Y_R_rowOfWord) 12 = .ok (.idiv, 1) := by decide +kernel
theorem d_R_rowOfWord_13 : decode (jyc Y_R_rowOfWord) 13 = .ok (.iadd, 1) := by decide +kernel
theorem d_R_rowOfWord_14 : decode (jyc Y_R_rowOfWord) 14 = .ok (.ireturn, 1) := by decide +kernel
theorem d_R_get_0 : decode (jyc Y_R_get) 0 = .ok (.aload_n 0, 1) := by decide +kernel
theorem d_R_get_1 : decode (jyc Y_R_get) 1 = .ok (.getfield 9, 3) := by decide +kernel
theorem d_R_get_4 : decode (jyc Y_R_get) 4 = .ok (.iload_n 1, 1) := by decide +kernel
theorem d_R_get_5 : decode (jyc Y_R_get) 5 = .ok (.iconst 5, 1) := by decide +kernel
theorem d_R_get_6 : decode (jyc Y_R_get) 6 = .ok (.imul, 1) := by decide +kernel
theorem d_R_get_7 : decode (jyc Y_R_get) 7 = .ok (.iload_n 2, 1) := by decide +kernel
theorem d_R_get_8 : decode (jyc Y_R_get) 8 = .ok (.iadd, 1) := by decide +kernel
theorem d_R_get_9 : decode (jyc Y_R_get) 9 = .ok (.iaload, 1) := by decide +kernel
theorem d_R_get_10 : decode (jyc Y_R_get) 10 = .ok (.ireturn, 1) := by decide +kernel
theorem d_R_set_0 : decode (jyc Y_R_set) 0 = .ok (.aload_n 0, 1) := by decide +kernel
theorem d_R_set_1 : decode (jyc Y_R_set) 1 = .ok (.getfield 9, 3) := by decide +kernel
theorem d_R_set_4 : decode (jyc Y_R_set) 4 = .ok (.iload_n 1, 1) := by decide +kernel
theorem d_R_set_5 : decode (jyc Y_R_set) 5 = .ok (.iconst 5, 1) := by decide +kernel
theorem d_R_set_6 : decode (jyc Y_R_set) 6 = .ok (.imul, 1) := by decide +kernel
theorem d_R_set_7 : decode (jyc Y_R_set) 7 = .ok (.iload_n 2, 1) := by decide +kernel
theorem d_R_set_8 : decode (jyc Y_R_set) 8 = .ok (.iadd, 1) := by decide +kernel
theorem d_R_set_9 : decode (jyc Y_R_set) 9 = .ok (.iload_n 3, 1) := by decide +kernel
theorem d_R_set_10 : decode (jyc Y_R_set) 10 = .ok (.iastore, 1) := by decide +kernel
theorem d_R_set_11 : decode (jyc Y_R_set) 11 = .ok (.return_, 1) := by decide +kernel
theorem d_R_takeRow_0 : decode (jyc Y_R_takeRow) 0 = .ok (.aload_n 1, 1) := by decide +kernel
theorem d_R_takeRow_1 : decode (jyc Y_R_takeRow) 1 = .ok (.getfield 9, 3) := by decide +kernel
theorem d_R_takeRow_4 : decode (jyc Y_R_takeRow) 4 = .ok (.iload_n 2, 1) := by decide +kernel
theorem d_R_takeRow_5 : decode (jyc Y_R_takeRow) 5 = .ok (.iconst 5, 1) := by decide +kernel
theorem d_R_takeRow_6 : decode (jyc Y_R_takeRow) 6 = .ok (.imul, 1) := by decide +kernel
theorem d_R_takeRow_7 : decode (jyc Y_R_takeRow) 7 = .ok (.aload_n 0, 1) := by decide +kernel
theorem d_R_takeRow_8 : decode (jyc Y_R_takeRow) 8 = .ok (.getfield 9, 3) := by decide +kernel
theorem d_R_takeRow_11 : decode (jyc Y_R_takeRow) 11 = .ok (.iload_n 2, 1) := by decide +kernel
theorem d_R_takeRow_12 : decode (jyc Y_R_takeRow) 12 = .ok (.iconst 5, 1) := by decide +kernel
theorem d_R_takeRow_13 : decode (jyc Y_R_takeRow) 13 = .ok (.imul, 1) := by decide +kernel
theorem d_R_takeRow_14 : decode (jyc Y_R_takeRow) 14 = .ok (.iconst 5, 1) := by decide +kernel
theorem d_R_takeRow_15 : decode (jyc Y_R_takeRow) 15 = .ok (.invokestatic 15, 3) := by decide +kernel
theorem d_R_takeRow_18 : decode (jyc Y_R_takeRow) 18 = .ok (.return_, 1) := by decide +kernel
theorem d_R_clearRow_0 : decode (jyc Y_R_clearRow) 0 = .ok (.iconst 0, 1) := by decide +kernel
theorem d_R_clearRow_1 : decode (jyc Y_R_clearRow) 1 = .ok (.istore_n 2, 1) := by decide +kernel
theorem d_R_clearRow_2 : decode (jyc Y_R_clearRow) 2 = .ok (.iload_n 2, 1) := by decide +kernel
theorem d_R_clearRow_3 : decode (jyc Y_R_clearRow) 3 = .ok (.iconst 5, 1) := by decide +kernel
theorem d_R_clearRow_4 : decode (jyc Y_R_clearRow) 4 = .ok (.if_icmp .ge 16, 3) := by decide +kernel
theorem d_R_clearRow_7 : decode (jyc Y_R_clearRow) 7 = .ok (.aload_n 0, 1) := by decide +kernel
theorem d_R_clearRow_8 : decode (jyc Y_R_clearRow) 8 = .ok (.iload_n 1, 1) := by decide +kernel
theorem d_R_clearRow_9 : decode (jyc Y_R_clearRow) 9 = .ok (.iload_n 2, 1) := by decide +kernel
theorem d_R_clearRow_10 : decode (jyc Y_R_clearRow) 10 = .ok (.iconst 0, 1) := by decide +kernel
theorem d_R_clearRow_11 : decode (jyc Y_R_clearRow) 11 = .ok (.invokevirtual 21, 3) := by decide +kernel
theorem d_R_clearRow_14 : decode (jyc Y_R_clearRow) 14 = .ok (.iinc 2 1, 3) := by decide +kernel
theorem d_R_clearRow_17 : decode (jyc Y_R_clearRow) 17 = .ok (.goto (-15), 3) := by decide +kernel
theorem d_R_clearRow_20 : decode (jyc Y_R_clearRow) 20 = .ok (.return_, 1) := by decide +kernel
theorem d_R_sameRow_0 : decode (jyc Y_R_sameRow) 0 = .ok (.iconst 0, 1) := by decide +kernel
theorem d_R_sameRow_1 : decode (jyc Y_R_sameRow) 1 = .ok (.istore_n 3, 1) := by decide +kernel
theorem d_R_sameRow_2 : decode (jyc Y_R_sameRow) 2 = .ok (.iload_n 3, 1) := by decide +kernel
theorem d_R_sameRow_3 : decode (jyc Y_R_sameRow) 3 = .ok (.iconst 5, 1) := by decide +kernel
theorem d_R_sameRow_4 : decode (jyc Y_R_sameRow) 4 = .ok (.if_icmp .ge 26, 3) := by decide +kernel
theorem d_R_sameRow_7 : decode (jyc Y_R_sameRow) 7 = .ok (.aload_n 0, 1) := by decide +kernel
theorem d_R_sameRow_8 : decode (jyc Y_R_sameRow) 8 = .ok (.iload_n 2, 1) := by decide +kernel
theorem d_R_sameRow_9 : decode (jyc Y_R_sameRow) 9 = .ok (.iload_n 3, 1) := by decide +kernel
theorem d_R_sameRow_10 : decode (jyc Y_R_sameRow) 10 = .ok (.invokevirtual 25, 3) := by decide +kernel
theorem d_R_sameRow_13 : decode (jyc Y_R_sameRow) 13 = .ok (.aload_n 1, 1) := by decide +kernel
theorem d_R_sameRow_14 : decode (jyc Y_R_sameRow) 14 = .ok (.iload_n 2, 1) := by decide +kernel
theorem d_R_sameRow_15 : decode (jyc Y_R_sameRow) 15 = .ok (.iload_n 3, 1) := by decide +kernel
theorem d_R_sameRow_16 : decode (jyc Y_R_sameRow) 16 = .ok (.invokevirtual 25, 3) := by decide +kernel
theorem d_R_sameRow_19 : decode (jyc Y_R_sameRow) 19 = .ok (.if_icmp .eq 5, 3) := by decide +kernel
theorem d_R_sameRow_22 : decode (jyc Y_R_sameRow) 22 = .ok (.iconst 0, 1) := by decide +kernel
theorem d_R_sameRow_23 : decode (jyc Y_R_sameRow) 23 = .ok (.ireturn, 1) := by decide +kernel
theorem d_R_sameRow_24 : decode (jyc Y_R_sameRow) 24 = .ok (.iinc 3 1, 3) := by decide +kernel
theorem d_R_sameRow_27 : decode (jyc Y_R_sameRow) 27 = .ok (.goto (-25), 3) := by decide +kernel
theorem d_R_sameRow_30 : decode (jyc Y_R_sameRow) 30 = .ok (.iconst 1, 1) := by decide +kernel
theorem d_R_sameRow_31 : decode (jyc Y_R_sameRow) 31 = .ok (.ireturn, 1) := by decide +kernel
theorem d_R_spread_0 : decode (jyc Y_R_spread) 0 = .ok (.iconst 0, 1) := by decide +kernel
theorem d_R_spread_1 : decode (jyc Y_R_spread) 1 = .ok (.istore_n 2, 1) := by decide +kernel
theorem d_R_spread_2 : decode (jyc Y_R_spread) 2 = .ok (.iload_n 2, 1) := by decide +kernel
theorem d_R_spread_3 : decode (jyc Y_R_spread) 3 = .ok (.iconst 2, 1) := by decide +kernel
theorem d_R_spread_4 : decode (jyc Y_R_spread) 4 = .ok (.if_icmp .ge 39, 3) := by decide +kernel
theorem d_R_spread_7 : decode (jyc Y_R_spread) 7 = .ok (.iconst 0, 1) := by decide +kernel
theorem d_R_spread_8 : decode (jyc Y_R_spread) 8 = .ok (.istore_n 3, 1) := by decide +kernel
theorem d_R_spread_9 : decode (jyc Y_R_spread) 9 = .ok (.iload_n 3, 1) := by decide +kernel
theorem d_R_spread_10 : decode (jyc Y_R_spread) 10 = .ok (.iconst 4, 1) := by decide +kernel
theorem d_R_spread_11 : decode (jyc Y_R_spread) 11 = .ok (.if_icmp .ge 26, 3) := by decide +kernel
theorem d_R_spread_14 : decode (jyc Y_R_spread) 14 = .ok (.aload_n 0, 1) := by decide +kernel
theorem d_R_spread_15 : decode (jyc Y_R_spread) 15 = .ok (.iload_n 1, 1) := by decide +kernel
theorem d_R_spread_16 : decode (jyc Y_R_spread) 16 = .ok (.iconst 4, 1) := by decide +kernel
theorem d_R_spread_17 : decode (jyc Y_R_spread) 17 = .ok (.iadd, 1) := by decide +kernel
theorem d_R_spread_18 : decode (jyc Y_R_spread) 18 = .ok (.iload_n 2, 1) := by decide +kernel
theorem d_R_spread_19 : decode (jyc Y_R_spread) 19 = .ok (.iadd, 1) := by decide +kernel
theorem d_R_spread_20 : decode (jyc Y_R_spread) 20 = .ok (.iload_n 3, 1) := by decide +kernel
theorem d_R_spread_21 : decode (jyc Y_R_spread) 21 = .ok (.aload_n 0, 1) := by decide +kernel
theorem d_R_spread_22 : decode (jyc Y_R_spread) 22 = .ok (.iload_n 1, 1) := by decide +kernel
theorem d_R_spread_23 : decode (jyc Y_R_spread) 23 = .ok (.iload_n 2, 1) := by decide +kernel
theorem d_R_spread_24 : decode (jyc Y_R_spread) 24 = .ok (.iload_n 3, 1) := by decide +kernel
theorem d_R_spread_25 : decode (jyc Y_R_spread) 25 = .ok (.invokevirtual 29, 3) := by decide +kernel
theorem d_R_spread_28 : decode (jyc Y_R_spread) 28 = .ok (.invokevirtual 21, 3) := by decide +kernel
theorem d_R_spread_31 : decode (jyc Y_R_spread) 31 = .ok (.iinc 3 1, 3) := by decide +kernel
theorem d_R_spread_34 : decode (jyc Y_R_spread) 34 = .ok (.goto (-25), 3) := by decide +kernel
theorem d_R_spread_37 : decode (jyc Y_R_spread) 37 = .ok (.iinc 2 1, 3) := by decide +kernel
theorem d_R_spread_40 : decode (jyc Y_R_spread) 40 = .ok (.goto (-38), 3) := by decide +kernel
theorem d_R_spread_43 : decode (jyc Y_R_spread) 43 = .ok (.return_, 1) := by decide +kernel
theorem d_R_codedWord_0 : decode (jyc Y_R_codedWord) 0 = .ok (.iconst 0, 1) := by decide +kernel
theorem d_R_codedWord_1 : decode (jyc Y_R_codedWord) 1 = .ok (.istore 4, 2) := by decide +kernel
theorem d_R_codedWord_3 : decode (jyc Y_R_codedWord) 3 = .ok (.iconst 0, 1) := by decide +kernel
theorem d_R_codedWord_4 : decode (jyc Y_R_codedWord) 4 = .ok (.istore 5, 2) := by decide +kernel
theorem d_R_codedWord_6 : decode (jyc Y_R_codedWord) 6 = .ok (.iload 5, 2) := by decide +kernel
theorem d_R_codedWord_8 : decode (jyc Y_R_codedWord) 8 = .ok (.iconst 4, 1) := by decide +kernel
theorem d_R_codedWord_9 : decode (jyc Y_R_codedWord) 9 = .ok (.if_icmp .ge 38, 3) := by decide +kernel
theorem d_R_codedWord_12 : decode (jyc Y_R_codedWord) 12 = .ok (.iload 4, 2) := by decide +kernel
theorem d_R_codedWord_14 : decode (jyc Y_R_codedWord) 14 = .ok (.aload_n 0, 1) := by decide +kernel
theorem d_R_codedWord_15 : decode (jyc Y_R_codedWord) 15 = .ok (.iload_n 1, 1) := by decide +kernel
theorem d_R_codedWord_16 : decode (jyc Y_R_codedWord) 16 = .ok (.iload 5, 2) := by decide +kernel
theorem d_R_codedWord_18 : decode (jyc Y_R_codedWord) 18 = .ok (.iadd, 1) := by decide +kernel
theorem d_R_codedWord_19 : decode (jyc Y_R_codedWord) 19 = .ok (.iload_n 3, 1) := by decide +kernel
theorem d_R_codedWord_20 : decode (jyc Y_R_codedWord) 20 = .ok (.invokevirtual 25, 3) := by decide +kernel
theorem d_R_codedWord_23 : decode (jyc Y_R_codedWord) 23 = .ok (.getstatic 33, 3) := by decide +kernel
theorem d_R_codedWord_26 : decode (jyc Y_R_codedWord) 26 = .ok (.iconst 4, 1) := by decide +kernel
theorem d_R_codedWord_27 : decode (jyc Y_R_codedWord) 27 = .ok (.iload_n 2, 1) := by decide +kernel
theorem d_R_codedWord_28 : decode (jyc Y_R_codedWord) 28 = .ok (.iadd, 1) := by decide +kernel
theorem d_R_codedWord_29 : decode (jyc Y_R_codedWord) 29 = .ok (.iload 5, 2) := by decide +kernel
theorem d_R_codedWord_31 : decode (jyc Y_R_codedWord) 31 = .ok (.isub, 1) := by decide +kernel
theorem d_R_codedWord_32 : decode (jyc Y_R_codedWord) 32 = .ok (.iaload, 1) := by decide +kernel
theorem d_R_codedWord_33 : decode (jyc Y_R_codedWord) 33 = .ok (.invokestatic 38, 3) := by decide +kernel
theorem d_R_codedWord_36 : decode (jyc Y_R_codedWord) 36 = .ok (.invokestatic 41, 3) := by decide +kernel
theorem d_R_codedWord_39 : decode (jyc Y_R_codedWord) 39 = .ok (.istore 4, 2) := by decide +kernel
theorem d_R_codedWord_41 : decode (jyc Y_R_codedWord) 41 = .ok (.iinc 5 1, 3) := by decide +kernel
theorem d_R_codedWord_44 : decode (jyc Y_R_codedWord) 44 = .ok (.goto (-38), 3) := by decide +kernel
theorem d_R_codedWord_47 : decode (jyc Y_R_codedWord) 47 = .ok (.iload 4, 2) := by decide +kernel
theorem d_R_codedWord_49 : decode (jyc Y_R_codedWord) 49 = .ok (.ireturn, 1) := by decide +kernel
theorem d_R_recover_0 : decode (jyc Y_R_recover) 0 = .ok (.aload_n 2, 1) := by decide +kernel
theorem d_R_recover_1 : decode (jyc Y_R_recover) 1 = .ok (.iconst 0, 1) := by decide +kernel
theorem d_R_recover_2 : decode (jyc Y_R_recover) 2 = .ok (.invokestatic 44, 3) := by decide +kernel
theorem d_R_recover_5 : decode (jyc Y_R_recover) 5 = .ok (.istore_n 3, 1) := by decide +kernel
theorem d_R_recover_6 : decode (jyc Y_R_recover) 6 = .ok (.iload_n 3, 1) := by decide +kernel
theorem d_R_recover_7 : decode (jyc Y_R_recover) 7 = .ok (.iconst 4, 1) := by decide +kernel
theorem d_R_recover_8 : decode (jyc Y_R_recover) 8 = .ok (.if_icmp .ne 4, 3) := by decide +kernel
theorem d_R_recover_11 : decode (jyc Y_R_recover) 11 = .ok (.return_, 1) := by decide +kernel
theorem d_R_recover_12 : decode (jyc Y_R_recover) 12 = .ok (.aload_n 0, 1) := by decide +kernel
theorem d_R_recover_13 : decode (jyc Y_R_recover) 13 = .ok (.iload_n 1, 1) := by decide +kernel
theorem d_R_recover_14 : decode (jyc Y_R_recover) 14 = .ok (.iload_n 3, 1) := by decide +kernel
theorem d_R_recover_15 : decode (jyc Y_R_recover) 15 = .ok (.iadd, 1) := by decide +kernel
theorem d_R_recover_16 : decode (jyc Y_R_recover) 16 = .ok (.invokevirtual 48, 3) := by decide +kernel
theorem d_R_recover_19 : decode (jyc Y_R_recover) 19 = .ok (.aload_n 2, 1) := by decide +kernel
theorem d_R_recover_20 : decode (jyc Y_R_recover) 20 = .ok (.iload_n 3, 1) := by decide +kernel
theorem d_R_recover_21 : decode (jyc Y_R_recover) 21 = .ok (.iconst 1, 1) := by decide +kernel
theorem d_R_recover_22 : decode (jyc Y_R_recover) 22 = .ok (.iadd, 1) := by decide +kernel
theorem d_R_recover_23 : decode (jyc Y_R_recover) 23 = .ok (.invokestatic 44, 3) := by decide +kernel
theorem d_R_recover_26 : decode (jyc Y_R_recover) 26 = .ok (.istore 4, 2) := by decide +kernel
theorem d_R_recover_28 : decode (jyc Y_R_recover) 28 = .ok (.iload 4, 2) := by decide +kernel
theorem d_R_recover_30 : decode (jyc Y_R_recover) 30 = .ok (.iconst 4, 1) := by decide +kernel
theorem d_R_recover_31 : decode (jyc Y_R_recover) 31 = .ok (.if_icmp .ne 23, 3) := by decide +kernel
theorem d_R_recover_34 : decode (jyc Y_R_recover) 34 = .ok (.aload_n 0, 1) := by decide +kernel
theorem d_R_recover_35 : decode (jyc Y_R_recover) 35 = .ok (.iload_n 1, 1) := by decide +kernel
theorem d_R_recover_36 : decode (jyc Y_R_recover) 36 = .ok (.iload_n 3, 1) := by decide +kernel
theorem d_R_recover_37 : decode (jyc Y_R_recover) 37 = .ok (.aload_n 2, 1) := by decide +kernel
theorem d_R_recover_38 : decode (jyc Y_R_recover) 38 = .ok (.iconst 4, 1) := by decide +kernel
theorem d_R_recover_39 : decode (jyc Y_R_recover) 39 = .ok (.baload, 1) := by decide +kernel
