theorem dX7_add_0 : decode cX7_add 0 = .ok (.iload_n 2, 1) := by decide +kernel
theorem dX7_add_1 : decode cX7_add 1 = .ok (.bipush 11, 2) := by decide +kernel
theorem dX7_add_3 : decode cX7_add 3 = .ok (.if_icmp .ne 16, 3) := by decide +kernel
theorem dX7_add_6 : decode cX7_add 6 = .ok (.aload_n 0, 1) := by decide +kernel
theorem dX7_add_7 : decode cX7_add 7 = .ok (.getfield 55, 3) := by decide +kernel
theorem dX7_add_10 : decode cX7_add 10 = .ok (.iload_n 1, 1) := by decide +kernel
theorem dX7_add_11 : decode cX7_add 11 = .ok (.dup2, 1) := by decide +kernel
theorem dX7_add_12 : decode cX7_add 12 = .ok (.iaload, 1) := by decide +kernel
theorem dX7_add_13 : decode cX7_add 13 = .ok (.iconst 1, 1) := by decide +kernel
theorem dX7_add_14 : decode cX7_add 14 = .ok (.isub, 1) := by decide +kernel
theorem dX7_add_15 : decode cX7_add 15 = .ok (.iastore, 1) := by decide +kernel
theorem dX7_add_16 : decode cX7_add 16 = .ok (.goto 42, 3) := by decide +kernel
theorem dX7_add_19 : decode cX7_add 19 = .ok (.iload_n 2, 1) := by decide +kernel
theorem dX7_add_20 : decode cX7_add 20 = .ok (.bipush 10, 2) := by decide +kernel
theorem dX7_add_22 : decode cX7_add 22 = .ok (.if_icmp .ne 17, 3) := by decide +kernel
theorem dX7_add_25 : decode cX7_add 25 = .ok (.aload_n 0, 1) := by decide +kernel
theorem dX7_add_26 : decode cX7_add 26 = .ok (.getfield 52, 3) := by decide +kernel
theorem dX7_add_29 : decode cX7_add 29 = .ok (.aload_n 0, 1) := by decide +kernel
theorem dX7_add_30 : decode cX7_add 30 = .ok (.iload_n 1, 1) := by decide +kernel
theorem dX7_add_31 : decode cX7_add 31 = .ok (.invokevirtual 85, 3) := by decide +kernel
theorem dX7_add_34 : decode cX7_add 34 = .ok (.iconst 1, 1) := by decide +kernel
theorem dX7_add_35 : decode cX7_add 35 = .ok (.bastore, 1) := by decide +kernel
theorem dX7_add_36 : decode cX7_add 36 = .ok (.goto 22, 3) := by decide +kernel
theorem dX7_add_39 : decode cX7_add 39 = .ok (.aload_n 0, 1) := by decide +kernel
theorem dX7_add_40 : decode cX7_add 40 = .ok (.iload_n 1, 1) := by decide +kernel
theorem dX7_add_41 : decode cX7_add 41 = .ok (.invokevirtual 89, 3) := by decide +kernel
theorem dX7_add_44 : decode cX7_add 44 = .ok (.ifCond .eq 14, 3) := by decide +kernel
theorem dX7_add_47 : decode cX7_add 47 = .ok (.aload_n 0, 1) := by decide +kernel
theorem dX7_add_48 : decode cX7_add 48 = .ok (.getfield 52, 3) := by decide +kernel
theorem dX7_add_51 : decode cX7_add 51 = .ok (.aload_n 0, 1) := by decide +kernel
theorem dX7_add_52 : decode cX7_add 52 = .ok (.iload_n 1, 1) := by decide +kernel
theorem dX7_add_53 : decode cX7_add 53 = .ok (.invokevirtual 85, 3) := by decide +kernel
theorem dX7_add_56 : decode cX7_add 56 = .ok (.iconst 0, 1) := by decide +kernel
theorem dX7_add_57 : decode cX7_add 57 = .ok (.bastore, 1) := by decide +kernel
theorem dX7_add_58 : decode cX7_add 58 = .ok (.sipush 1500, 3) := by decide +kernel
theorem dX7_add_61 : decode cX7_add 61 = .ok (.iload_n 1, 1) := by decide +kernel
theorem dX7_add_62 : decode cX7_add 62 = .ok (.imul, 1) := by decide +kernel
theorem dX7_add_63 : decode cX7_add 63 = .ok (.aload_n 0, 1) := by decide +kernel
theorem dX7_add_64 : decode cX7_add 64 = .ok (.getfield 42, 3) := by decide +kernel
theorem dX7_add_67 : decode cX7_add 67 = .ok (.iload_n 1, 1) := by decide +kernel
theorem dX7_add_68 : decode cX7_add 68 = .ok (.iaload, 1) := by decide +kernel
theorem dX7_add_69 : decode cX7_add 69 = .ok (.iadd, 1) := by decide +kernel
theorem dX7_add_70 : decode cX7_add 70 = .ok (.istore 6, 2) := by decide +kernel
theorem dX7_add_72 : decode cX7_add 72 = .ok (.aload_n 0, 1) := by decide +kernel
theorem dX7_add_73 : decode cX7_add 73 = .ok (.getfield 22, 3) := by decide +kernel
theorem dX7_add_76 : decode cX7_add 76 = .ok (.iload 6, 2) := by decide +kernel
theorem dX7_add_78 : decode cX7_add 78 = .ok (.iload_n 2, 1) := by decide +kernel
theorem dX7_add_79 : decode cX7_add 79 = .ok (.iastore, 1) := by decide +kernel
theorem dX7_add_80 : decode cX7_add 80 = .ok (.aload_n 0, 1) := by decide +kernel
theorem dX7_add_81 : decode cX7_add 81 = .ok (.getfield 26, 3) := by decide +kernel
theorem dX7_add_84 : decode cX7_add 84 = .ok (.iload 6, 2) := by decide +kernel
theorem dX7_add_86 : decode cX7_add 86 = .ok (.lload_n 3, 1) := by decide +kernel
theorem dX7_add_87 : decode cX7_add 87 = .ok (.lastore, 1) := by decide +kernel
theorem dX7_add_88 : decode cX7_add 88 = .ok (.aload_n 0, 1) := by decide +kernel
theorem dX7_add_89 : decode cX7_add 89 = .ok (.getfield 30, 3) := by decide +kernel
theorem dX7_add_92 : decode cX7_add 92 = .ok (.iload 6, 2) := by decide +kernel
theorem dX7_add_94 : decode cX7_add 94 = .ok (.sipush 5000, 3) := by decide +kernel
theorem dX7_add_97 : decode cX7_add 97 = .ok (.iload_n 1, 1) := by decide +kernel
theorem dX7_add_98 : decode cX7_add 98 = .ok (.imul, 1) := by decide +kernel
theorem dX7_add_99 : decode cX7_add 99 = .ok (.aload_n 0, 1) := by decide +kernel
theorem dX7_add_100 : decode cX7_add 100 = .ok (.getfield 45, 3) := by decide +kernel
theorem dX7_add_103 : decode cX7_add 103 = .ok (.iload_n 1, 1) := by decide +kernel
theorem dX7_add_104 : decode cX7_add 104 = .ok (.iaload, 1) := by decide +kernel
theorem dX7_add_105 : decode cX7_add 105 = .ok (.iadd, 1) := by decide +kernel
theorem dX7_add_106 : decode cX7_add 106 = .ok (.iastore, 1) := by decide +kernel
theorem dX7_add_107 : decode cX7_add 107 = .ok (.aload_n 0, 1) := by decide +kernel
theorem dX7_add_108 : decode cX7_add 108 = .ok (.getfield 33, 3) := by decide +kernel
theorem dX7_add_111 : decode cX7_add 111 = .ok (.iload 6, 2) := by decide +kernel
theorem dX7_add_113 : decode cX7_add 113 = .ok (.iload 5, 2) := by decide +kernel
theorem dX7_add_115 : decode cX7_add 115 = .ok (.iastore, 1) := by decide +kernel
theorem dX7_add_116 : decode cX7_add 116 = .ok (.aload_n 0, 1) := by decide +kernel
theorem dX7_add_117 : decode cX7_add 117 = .ok (.getfield 36, 3) := by decide +kernel
theorem dX7_add_120 : decode cX7_add 120 = .ok (.iload 6, 2) := by decide +kernel
theorem dX7_add_122 : decode cX7_add 122 = .ok (.aload_n 0, 1) := by decide +kernel
theorem dX7_add_123 : decode cX7_add 123 = .ok (.getfield 55, 3) := by decide +kernel
theorem dX7_add_126 : decode cX7_add 126 = .ok (.iload_n 1, 1) := by decide +kernel
theorem dX7_add_127 : decode cX7_add 127 = .ok (.iaload, 1) := by decide +kernel
theorem dX7_add_128 : decode cX7_add 128 = .ok (.iastore, 1) := by decide +kernel
theorem dX7_add_129 : decode cX7_add 129 = .ok (.aload_n 0, 1) := by decide +kernel
theorem dX7_add_130 : decode cX7_add 130 = .ok (.getfield 42, 3) := by decide +kernel
theorem dX7_add_133 : decode cX7_add 133 = .ok (.iload_n 1, 1) := by decide +kernel
theorem dX7_add_134 : decode cX7_add 134 = .ok (.dup2, 1) := by decide +kernel
theorem dX7_add_135 : decode cX7_add 135 = .ok (.iaload, 1) := by decide +kernel
theorem dX7_add_136 : decode cX7_add 136 = .ok (.iconst 1, 1) := by decide +kernel
theorem dX7_add_137 : decode cX7_add 137 = .ok (.iadd, 1) := by decide +kernel
theorem dX7_add_138 : decode cX7_add 138 = .ok (.iastore, 1) := by decide +kernel
theorem dX7_add_139 : decode cX7_add 139 = .ok (.aload_n 0, 1) := by decide +kernel
theorem dX7_add_140 : decode cX7_add 140 = .ok (.getfield 45, 3) := by decide +kernel
theorem dX7_add_143 : decode cX7_add 143 = .ok (.iload_n 1, 1) := by decide +kernel
theorem dX7_add_144 : decode cX7_add 144 = .ok (.dup2, 1) := by decide +kernel
theorem dX7_add_145 : decode cX7_add 145 = .ok (.iaload, 1) := by decide +kernel
theorem dX7_add_146 : decode cX7_add 146 = .ok (.iload 5, 2) := by decide +kernel
theorem dX7_add_148 : decode cX7_add 148 = .ok (.iadd, 1) := by decide +kernel
theorem dX7_add_149 : decode cX7_add 149 = .ok (.iastore, 1) := by decide +kernel
theorem dX7_add_150 : decode cX7_add 150 = .ok (.iload_n 2, 1) := by decide +kernel
theorem dX7_add_151 : decode cX7_add 151 = .ok (.iconst 5, 1) := by decide +kernel
theorem dX7_add_152 : decode cX7_add 152 = .ok (.if_icmp .eq 9, 3) := by decide +kernel
theorem dX7_add_155 : decode cX7_add 155 = .ok (.iload_n 2, 1) := by decide +kernel
theorem dX7_add_156 : decode cX7_add 156 = .ok (.bipush 6, 2) := by decide +kernel
theorem dX7_add_158 : decode cX7_add 158 = .ok (.if_icmp .ne 45, 3) := by decide +kernel
theorem dX7_add_161 : decode cX7_add 161 = .ok (.aload_n 0, 1) := by decide +kernel
theorem dX7_add_162 : decode cX7_add 162 = .ok (.getfield 55, 3) := by decide +kernel
theorem dX7_add_165 : decode cX7_add 165 = .ok (.iload_n 1, 1) := by decide +kernel
theorem dX7_add_166 : decode cX7_add 166 = .ok (.dup2, 1) := by decide +kernel
theorem dX7_add_167 : decode cX7_add 167 = .ok (.iaload, 1) := by decide +kernel
theorem dX7_add_168 : decode cX7_add 168 = .ok (.iconst 1, 1) := by decide +kernel
theorem dX7_add_169 : decode cX7_add 169 = .ok (.iadd, 1) := by decide +kernel
theorem dX7_add_170 : decode cX7_add 170 = .ok (.iastore, 1) := by decide +kernel
theorem dX7_add_171 : decode cX7_add 171 = .ok (.aload_n 0, 1) := by decide +kernel
theorem dX7_add_172 : decode cX7_add 172 = .ok (.getfield 48, 3) := by decide +kernel
theorem dX7_add_175 : decode cX7_add 175 = .ok (.aload_n 0, 1) := by decide +kernel
theorem dX7_add_176 : decode cX7_add 176 = .ok (.iload_n 1, 1) := by decide +kernel
theorem dX7_add_177 : decode cX7_add 177 = .ok (.invokevirtual 85, 3) := by decide +kernel
theorem dX7_add_180 : decode cX7_add 180 = .ok (.iload_n 2, 1) := by decide +kernel
theorem dX7_add_181 : decode cX7_add 181 = .ok (.bipush 6, 2) := by decide +kernel
theorem dX7_add_183 : decode cX7_add 183 = .ok (.if_icmp .ne 7, 3) := by decide +kernel
theorem dX7_add_186 : decode cX7_add 186 = .ok (.iconst 1, 1) := by decide +kernel
theorem dX7_add_187 : decode cX7_add 187 = .ok (.goto 4, 3) := by decide +kernel
theorem dX7_add_190 : decode cX7_add 190 = .ok (.iconst 0, 1) := by decide +kernel
theorem dX7_add_191 : decode cX7_add 191 = .ok (.bastore, 1) := by decide +kernel
theorem dX7_add_192 : decode cX7_add 192 = .ok (.aload_n 0, 1) := by decide +kernel
theorem dX7_add_193 : decode cX7_add 193 = .ok (.getfield 52, 3) := by decide +kernel
theorem dX7_add_196 : decode cX7_add 196 = .ok (.aload_n 0, 1) := by decide +kernel
theorem dX7_add_197 : decode cX7_add 197 = .ok (.iload_n 1, 1) := by decide +kernel
theorem dX7_add_198 : decode cX7_add 198 = .ok (.invokevirtual 85, 3) := by decide +kernel
theorem dX7_add_201 : decode cX7_add 201 = .ok (.iconst 0, 1) := by decide +kernel
theorem dX7_add_202 : decode cX7_add 202 = .ok (.bastore, 1) := by decide +kernel
theorem dX7_add_203 : decode cX7_add 203 = .ok (.return_, 1) := by decide +kernel
theorem dX7_addGot_0 : decode cX7_addGot 0 = .ok (.aload_n 0, 1) := by decide +kernel
theorem dX7_addGot_1 : decode cX7_addGot 1 = .ok (.getfield 190, 3) := by decide +kernel
theorem dX7_addGot_4 : decode cX7_addGot 4 = .ok (.ifCond .le 4, 3) := by decide +kernel
theorem dX7_addGot_7 : decode cX7_addGot 7 = .ok (.return_, 1) := by decide +kernel
theorem dX7_addGot_8 : decode cX7_addGot 8 = .ok (.iload_n 2, 1) := by decide +kernel
theorem dX7_addGot_9 : decode cX7_addGot 9 = .ok (.ifCond .eq 47, 3) := by decide +kernel
theorem dX7_addGot_12 : decode cX7_addGot 12 = .ok (.iload_n 3, 1) := by decide +kernel
theorem dX7_addGot_13 : decode cX7_addGot 13 = .ok (.ifCond .eq 20, 3) := by decide +kernel
theorem dX7_addGot_16 : decode cX7_addGot 16 = .ok (.aload_n 0, 1) := by decide +kernel
theorem dX7_addGot_17 : decode cX7_addGot 17 = .ok (.sipush 10000, 3) := by decide +kernel
theorem dX7_addGot_20 : decode cX7_addGot 20 = .ok (.aload_n 0, 1) := by decide +kernel
theorem dX7_addGot_21 : decode cX7_addGot 21 = .ok (.getfield 206, 3) := by decide +kernel
theorem dX7_addGot_24 : decode cX7_addGot 24 = .ok (.invokevirtual 156, 3) := by decide +kernel
theorem dX7_addGot_27 : decode cX7_addGot 27 = .ok (.ifCond .ne 29, 3) := by decide +kernel
theorem dX7_addGot_30 : decode cX7_addGot 30 = .ok (.goto 17, 3) := by decide +kernel
theorem dX7_addGot_33 : decode cX7_addGot 33 = .ok (.aload_n 0, 1) := by decide +kernel
theorem dX7_addGot_34 : decode cX7_addGot 34 = .ok (.sipush 10000, 3) := by decide +kernel
theorem dX7_addGot_37 : decode cX7_addGot 37 = .ok (.aload_n 0, 1) := by decide +kernel
theorem dX7_addGot_38 : decode cX7_addGot 38 = .ok (.getfield 206, 3) := by decide +kernel
theorem dX7_addGot_41 : decode cX7_addGot 41 = .ok (.invokevirtual 110, 3) := by decide +kernel
theorem dX7_addGot_44 : decode cX7_addGot 44 = .ok (.ifCond .ne 12, 3) := by decide +kernel
theorem dX7_addGot_47 : decode cX7_addGot 47 = .ok (.aload_n 0, 1) := by decide +kernel
theorem dX7_addGot_48 : decode cX7_addGot 48 = .ok (.iconst 4, 1) := by decide +kernel
theorem dX7_addGot_49 : decode cX7_addGot 49 = .ok (.aload_n 0, 1) := by decide +kernel
theorem dX7_addGot_50 : decode cX7_addGot 50 = .ok (.getfield 203, 3) := by decide +kernel
theorem dX7_addGot_53 : decode cX7_addGot 53 = .ok (.invokevirtual 196, 3) := by decide +kernel
theorem dX7_addGot_56 : decode cX7_addGot 56 = .ok (.aload_n 0, 1) := by decide +kernel
theorem dX7_addGot_57 : decode cX7_addGot 57 = .ok (.iconst 1, 1) := by decide +kernel
theorem dX7_addGot_58 : decode cX7_addGot 58 = .ok (.aload_n 0, 1) := by decide +kernel
theorem dX7_addGot_59 : decode cX7_addGot 59 = .ok (.getfield 206, 3) := by decide +kernel
theorem dX7_addGot_62 : decode cX7_addGot 62 = .ok (.iconst 0, 1) := by decide +kernel
theorem dX7_addGot_63 : decode cX7_addGot 63 = .ok (.invokevirtual 103, 3) := by decide +kernel
theorem dX7_addGot_66 : decode cX7_addGot 66 = .ok (.ifCond .ne 13, 3) := by decide +kernel
theorem dX7_addGot_69 : decode cX7_addGot 69 = .ok (.aload_n 0, 1) := by decide +kernel
theorem dX7_addGot_70 : decode cX7_addGot 70 = .ok (.bipush 7, 2) := by decide +kernel
theorem dX7_addGot_72 : decode cX7_addGot 72 = .ok (.aload_n 0, 1) := by decide +kernel
theorem dX7_addGot_73 : decode cX7_addGot 73 = .ok (.getfield 203, 3) := by decide +kernel
theorem dX7_addGot_76 : decode cX7_addGot 76 = .ok (.invokevirtual 196, 3) := by decide +kernel
theorem dX7_addGot_79 : decode cX7_addGot 79 = .ok (.aload_n 0, 1) := by decide +kernel
theorem dX7_addGot_80 : decode cX7_addGot 80 = .ok (.getfield 190, 3) := by decide +kernel
theorem dX7_addGot_83 : decode cX7_addGot 83 = .ok (.ifCond .ne 43, 3) := by decide +kernel
theorem dX7_addGot_86 : decode cX7_addGot 86 = .ok (.aload_n 0, 1) := by decide +kernel
theorem dX7_addGot_87 : decode cX7_addGot 87 = .ok (.iload_n 1, 1) := by decide +kernel
theorem dX7_addGot_88 : decode cX7_addGot 88 = .ok (.invokevirtual 216, 3) := by decide +kernel
theorem dX7_addGot_91 : decode cX7_addGot 91 = .ok (.iload_n 2, 1) := by decide +kernel
theorem dX7_addGot_92 : decode cX7_addGot 92 = .ok (.ifCond .eq 34, 3) := by decide +kernel
theorem dX7_addGot_95 : decode cX7_addGot 95 = .ok (.aload_n 0, 1) := by decide +kernel
theorem dX7_addGot_96 : decode cX7_addGot 96 = .ok (.iload_n 1, 1) := by decide +kernel
theorem dX7_addGot_97 : decode cX7_addGot 97 = .ok (.bipush 10, 2) := by decide +kernel
theorem dX7_addGot_99 : decode cX7_addGot 99 = .ok (.if_icmp .ne 7, 3) := by decide +kernel
theorem dX7_addGot_102 : decode cX7_addGot 102 = .ok (.iconst 0, 1) := by decide +kernel
theorem dX7_addGot_103 : decode cX7_addGot 103 = .ok (.goto 4, 3) := by decide +kernel
theorem dX7_addGot_106 : decode cX7_addGot 106 = .ok (.iconst 1, 1) := by decide +kernel
theorem dX7_addGot_107 : decode cX7_addGot 107 = .ok (.aload_n 0, 1) := by decide +kernel
theorem dX7_addGot_108 : decode cX7_addGot 108 = .ok (.getfield 219, 3) := by decide +kernel
theorem dX7_addGot_111 : decode cX7_addGot 111 = .ok (.sipush 1500, 3) := by decide +kernel
theorem dX7_addGot_114 : decode cX7_addGot 114 = .ok (.aload_n 0, 1) := by decide +kernel
theorem dX7_addGot_115 : decode cX7_addGot 115 = .ok (.getfield 42, 3) := by decide +kernel
theorem dX7_addGot_118 : decode cX7_addGot 118 = .ok (.iconst 1, 1) := by decide +kernel
theorem dX7_addGot_119 : decode cX7_addGot 119 = .ok (.iaload, 1) := by decide +kernel
theorem dX7_addGot_120 : decode cX7_addGot 120 = .ok (.iadd, 1) := by decide +kernel
theorem dX7_addGot_121 : decode cX7_addGot 121 = .ok (.iconst 1, 1) := by decide +kernel
theorem dX7_addGot_122 : decode cX7_addGot 122 = .ok (.isub, 1) := by decide +kernel
theorem dX7_addGot_123 : decode cX7_addGot 123 = .ok (.invokevirtual 162, 3) := by decide +kernel
theorem dX7_addGot_126 : decode cX7_addGot 126 = .ok (.return_, 1) := by decide +kernel
theorem dX7_addPlaced_0 : decode cX7_addPlaced 0 = .ok (.aload_n 0, 1) := by decide +kernel
theorem dX7_addPlaced_1 : decode cX7_addPlaced 1 = .ok (.getfield 190, 3) := by decide +kernel
theorem dX7_addPlaced_4 : decode cX7_addPlaced 4 = .ok (.ifCond .le 4, 3) := by decide +kernel
theorem dX7_addPlaced_7 : decode cX7_addPlaced 7 = .ok (.return_, 1) := by decide +kernel
theorem dX7_addPlaced_8 : decode cX7_addPlaced 8 = .ok (.iload_n 3, 1) := by decide +kernel
theorem dX7_addPlaced_9 : decode cX7_addPlaced 9 = .ok (.aload_n 0, 1) := by decide +kernel
theorem dX7_addPlaced_10 : decode cX7_addPlaced 10 = .ok (.getfield 61, 3) := by decide +kernel
theorem dX7_addPlaced_13 : decode cX7_addPlaced 13 = .ok (.iload_n 2, 1) := by decide +kernel
theorem dX7_addPlaced_14 : decode cX7_addPlaced 14 = .ok (.iaload, 1) := by decide +kernel
theorem dX7_addPlaced_15 : decode cX7_addPlaced 15 = .ok (.if_icmp .ge 14, 3) := by decide +kernel
theorem dX7_addPlaced_18 : decode cX7_addPlaced 18 = .ok (.iload_n 3, 1) := by decide +kernel
theorem dX7_addPlaced_19 : decode cX7_addPlaced 19 = .ok (.sipush 255, 3) := by decide +kernel
theorem dX7_addPlaced_22 : decode cX7_addPlaced 22 = .ok (.iand, 1) := by decide +kernel
theorem dX7_addPlaced_23 : decode cX7_addPlaced 23 = .ok (.sipush 254, 3) := by decide +kernel
theorem dX7_addPlaced_26 : decode cX7_addPlaced 26 = .ok (.if_icmp .lt 13, 3) := by decide +kernel
theorem dX7_addPlaced_29 : decode cX7_addPlaced 29 = .ok (.aload_n 0, 1) := by decide +kernel
theorem dX7_addPlaced_30 : decode cX7_addPlaced 30 = .ok (.iconst 5, 1) := by decide +kernel
theorem dX7_addPlaced_31 : decode cX7_addPlaced 31 = .ok (.aload_n 0, 1) := by decide +kernel
theorem dX7_addPlaced_32 : decode cX7_addPlaced 32 = .ok (.getfield 203, 3) := by decide +kernel
theorem dX7_addPlaced_35 : decode cX7_addPlaced 35 = .ok (.invokevirtual 196, 3) := by decide +kernel
theorem dX7_addPlaced_38 : decode cX7_addPlaced 38 = .ok (.return_, 1) := by decide +kernel
theorem dX7_addPlaced_39 : decode cX7_addPlaced 39 = .ok (.aload_n 0, 1) := by decide +kernel
theorem dX7_addPlaced_40 : decode cX7_addPlaced 40 = .ok (.getfield 58, 3) := by decide +kernel
theorem dX7_addPlaced_43 : decode cX7_addPlaced 43 = .ok (.sipush 1024, 3) := by decide +kernel
theorem dX7_addPlaced_46 : decode cX7_addPlaced 46 = .ok (.iload_n 2, 1) := by decide +kernel
theorem dX7_addPlaced_47 : decode cX7_addPlaced 47 = .ok (.imul, 1) := by decide +kernel
theorem dX7_addPlaced_48 : decode cX7_addPlaced 48 = .ok (.iload_n 3, 1) := by decide +kernel
theorem dX7_addPlaced_49 : decode cX7_addPlaced 49 = .ok (.iadd, 1) := by decide +kernel
theorem dX7_addPlaced_50 : decode cX7_addPlaced 50 = .ok (.iaload, 1) := by decide +kernel
theorem dX7_addPlaced_51 : decode cX7_addPlaced 51 = .ok (.istore 4, 2) := by decide +kernel
theorem dX7_addPlaced_53 : decode cX7_addPlaced 53 = .ok (.iconst 0, 1) := by decide +kernel
theorem dX7_addPlaced_54 : decode cX7_addPlaced 54 = .ok (.istore 5, 2) := by decide +kernel
theorem dX7_addPlaced_56 : decode cX7_addPlaced 56 = .ok (.iload 5, 2) := by decide +kernel
theorem dX7_addPlaced_58 : decode cX7_addPlaced 58 = .ok (.aload_n 0, 1) := by decide +kernel
theorem dX7_addPlaced_59 : decode cX7_addPlaced 59 = .ok (.getfield 33, 3) := by decide +kernel
theorem dX7_addPlaced_62 : decode cX7_addPlaced 62 = .ok (.iload 4, 2) := by decide +kernel
theorem dX7_addPlaced_64 : decode cX7_addPlaced 64 = .ok (.iaload, 1) := by decide +kernel
theorem dX7_addPlaced_65 : decode cX7_addPlaced 65 = .ok (.if_icmp .ge 28, 3) := by decide +kernel
theorem dX7_addPlaced_68 : decode cX7_addPlaced 68 = .ok (.aload_n 0, 1) := by decide +kernel
theorem dX7_addPlaced_69 : decode cX7_addPlaced 69 = .ok (.aload_n 0, 1) := by decide +kernel
theorem dX7_addPlaced_70 : decode cX7_addPlaced 70 = .ok (.getfield 39, 3) := by decide +kernel
theorem dX7_addPlaced_73 : decode cX7_addPlaced 73 = .ok (.aload_n 0, 1) := by decide +kernel
theorem dX7_addPlaced_74 : decode cX7_addPlaced 74 = .ok (.getfield 30, 3) := by decide +kernel
theorem dX7_addPlaced_77 : decode cX7_addPlaced 77 = .ok (.iload 4, 2) := by decide +kernel
theorem dX7_addPlaced_79 : decode cX7_addPlaced 79 = .ok (.iaload, 1) := by decide +kernel
theorem dX7_addPlaced_80 : decode cX7_addPlaced 80 = .ok (.iload 5, 2) := by decide +kernel
theorem dX7_addPlaced_82 : decode cX7_addPlaced 82 = .ok (.iadd, 1) := by decide +kernel
theorem dX7_addPlaced_83 : decode cX7_addPlaced 83 = .ok (.baload, 1) := by decide +kernel
theorem dX7_addPlaced_84 : decode cX7_addPlaced 84 = .ok (.invokevirtual 209, 3) := by decide +kernel
theorem dX7_addPlaced_87 : decode cX7_addPlaced 87 = .ok (.iinc 5 1, 3) := by decide +kernel
theorem dX7_addPlaced_90 : decode cX7_addPlaced 90 = .ok (.goto (-34), 3) := by decide +kernel
theorem dX7_addPlaced_93 : decode cX7_addPlaced 93 = .ok (.aload_n 0, 1) := by decide +kernel
theorem dX7_addPlaced_94 : decode cX7_addPlaced 94 = .ok (.iconst 1, 1) := by decide +kernel
theorem dX7_addPlaced_95 : decode cX7_addPlaced 95 = .ok (.aload_n 0, 1) := by decide +kernel
theorem dX7_addPlaced_96 : decode cX7_addPlaced 96 = .ok (.getfield 206, 3) := by decide +kernel
theorem dX7_addPlaced_99 : decode cX7_addPlaced 99 = .ok (.iconst 0, 1) := by decide +kernel
theorem dX7_addPlaced_100 : decode cX7_addPlaced 100 = .ok (.invokevirtual 103, 3) := by decide +kernel
theorem dX7_addPlaced_103 : decode cX7_addPlaced 103 = .ok (.ifCond .ne 16, 3) := by decide +kernel
theorem dX7_addPlaced_106 : decode cX7_addPlaced 106 = .ok (.aload_n 0, 1) := by decide +kernel
theorem dX7_addPlaced_107 : decode cX7_addPlaced 107 = .ok (.bipush 7, 2) := by decide +kernel
theorem dX7_addPlaced_109 : decode cX7_addPlaced 109 = .ok (.aload_n 0, 1) := by decide +kernel
theorem dX7_addPlaced_110 : decode cX7_addPlaced 110 = .ok (.getfield 203, 3) := by decide +kernel
theorem dX7_addPlaced_113 : decode cX7_addPlaced 113 = .ok (.invokevirtual 196, 3) := by decide +kernel
theorem dX7_addPlaced_116 : decode cX7_addPlaced 116 = .ok (.goto 8, 3) := by decide +kernel
theorem dX7_addPlaced_119 : decode cX7_addPlaced 119 = .ok (.aload_n 0, 1) := by decide +kernel
theorem dX7_addPlaced_120 : decode cX7_addPlaced 120 = .ok (.iload_n 1, 1) := by decide +kernel
theorem dX7_addPlaced_121 : decode cX7_addPlaced 121 = .ok (.invokevirtual 216, 3) := by decide +kernel
theorem dX7_addPlaced_124 : decode cX7_addPlaced 124 = .ok (.return_, 1) := by decide +kernel
theorem dX7_addPlain_0 : decode cX7_addPlain 0 = .ok (.aload_n 0, 1) := by decide +kernel
theorem dX7_addPlain_1 : decode cX7_addPlain 1 = .ok (.getfield 190, 3) := by decide +kernel
theorem dX7_addPlain_4 : decode cX7_addPlain 4 = .ok (.ifCond .ne 24, 3) := by decide +kernel
theorem dX7_addPlain_7 : decode cX7_addPlain 7 = .ok (.aload_n 0, 1) := by decide +kernel
theorem dX7_addPlain_8 : decode cX7_addPlain 8 = .ok (.iconst 1, 1) := by decide +kernel
theorem dX7_addPlain_9 : decode cX7_addPlain 9 = .ok (.iconst 0, 1) := by decide +kernel
theorem dX7_addPlain_10 : decode cX7_addPlain 10 = .ok (.iload 4, 2) := by decide +kernel
theorem dX7_addPlain_12 : decode cX7_addPlain 12 = .ok (.invokevirtual 103, 3) := by decide +kernel
theorem dX7_addPlain_15 : decode cX7_addPlain 15 = .ok (.ifCond .ne 13, 3) := by decide +kernel
theorem dX7_addPlain_18 : decode cX7_addPlain 18 = .ok (.aload_n 0, 1) := by decide +kernel
theorem dX7_addPlain_19 : decode cX7_addPlain 19 = .ok (.bipush 7, 2) := by decide +kernel
theorem dX7_addPlain_21 : decode cX7_addPlain 21 = .ok (.aload_n 0, 1) := by decide +kernel
theorem dX7_addPlain_22 : decode cX7_addPlain 22 = .ok (.getfield 203, 3) := by decide +kernel
theorem dX7_addPlain_25 : decode cX7_addPlain 25 = .ok (.invokevirtual 196, 3) := by decide +kernel
theorem dX7_addPlain_28 : decode cX7_addPlain 28 = .ok (.aload_n 0, 1) := by decide +kernel
theorem dX7_addPlain_29 : decode cX7_addPlain 29 = .ok (.getfield 190, 3) := by decide +kernel
theorem dX7_addPlain_32 : decode cX7_addPlain 32 = .ok (.ifCond .ne 11, 3) := by decide +kernel
theorem dX7_addPlain_35 : decode cX7_addPlain 35 = .ok (.aload_n 0, 1) := by decide +kernel
theorem dX7_addPlain_36 : decode cX7_addPlain 36 = .ok (.iconst 1, 1) := by decide +kernel
theorem dX7_addPlain_37 : decode cX7_addPlain 37 = .ok (.iload_n 1, 1) := by decide +kernel
theorem dX7_addPlain_38 : decode cX7_addPlain 38 = .ok (.lload_n 2, 1) := by decide +kernel
theorem dX7_addPlain_39 : decode cX7_addPlain 39 = .ok (.iconst 0, 1) := by decide +kernel
theorem dX7_addPlain_40 : decode cX7_addPlain 40 = .ok (.invokevirtual 114, 3) := by decide +kernel
theorem dX7_addPlain_43 : decode cX7_addPlain 43 = .ok (.return_, 1) := by decide +kernel
theorem dX7_addTaken_0 : decode cX7_addTaken 0 = .ok (.iconst 0, 1) := by decide +kernel
theorem dX7_addTaken_1 : decode cX7_addTaken 1 = .ok (.istore_n 2, 1) := by decide +kernel
theorem dX7_addTaken_2 : decode cX7_addTaken 2 = .ok (.iload_n 2, 1) := by decide +kernel
theorem dX7_addTaken_3 : decode cX7_addTaken 3 = .ok (.aload_n 0, 1) := by decide +kernel
theorem dX7_addTaken_4 : decode cX7_addTaken 4 = .ok (.getfield 206, 3) := by decide +kernel
theorem dX7_addTaken_7 : decode cX7_addTaken 7 = .ok (.if_icmp .ge 36, 3) := by decide +kernel
theorem dX7_addTaken_10 : decode cX7_addTaken 10 = .ok (.aload_n 0, 1) := by decide +kernel
theorem dX7_addTaken_11 : decode cX7_addTaken 11 = .ok (.getfield 39, 3) := by decide +kernel
theorem dX7_addTaken_14 : decode cX7_addTaken 14 = .ok (.sipush 5000, 3) := by decide +kernel
theorem dX7_addTaken_17 : decode cX7_addTaken 17 = .ok (.aload_n 0, 1) := by decide +kernel
theorem dX7_addTaken_18 : decode cX7_addTaken 18 = .ok (.getfield 45, 3) := by decide +kernel
theorem dX7_addTaken_21 : decode cX7_addTaken 21 = .ok (.iconst 1, 1) := by decide +kernel
theorem dX7_addTaken_22 : decode cX7_addTaken 22 = .ok (.iaload, 1) := by decide +kernel
theorem dX7_addTaken_23 : decode cX7_addTaken 23 = .ok (.iadd, 1) := by decide +kernel
theorem dX7_addTaken_24 : decode cX7_addTaken 24 = .ok (.iload_n 2, 1) := by decide +kernel
theorem dX7_addTaken_25 : decode cX7_addTaken 25 = .ok (.iadd, 1) := by decide +kernel
theorem dX7_addTaken_26 : decode cX7_addTaken 26 = .ok (.aload_n 0, 1) := by decide +kernel
theorem dX7_addTaken_27 : decode cX7_addTaken 27 = .ok (.getfield 39, 3) := by decide +kernel
theorem dX7_addTaken_30 : decode cX7_addTaken 30 = .ok (.sipush 10000, 3) := by decide +kernel
theorem dX7_addTaken_33 : decode cX7_addTaken 33 = .ok (.iload_n 2, 1) := by decide +kernel
theorem dX7_addTaken_34 : decode cX7_addTaken 34 = .ok (.iadd, 1) := by decide +kernel
theorem dX7_addTaken_35 : decode cX7_addTaken 35 = .ok (.baload, 1) := by decide +kernel
theorem dX7_addTaken_36 : decode cX7_addTaken 36 = .ok (.bastore, 1) := by decide +kernel
theorem dX7_addTaken_37 : decode cX7_addTaken 37 = .ok (.iinc 2 1, 3) := by decide +kernel
theorem dX7_addTaken_40 : decode cX7_addTaken 40 = .ok (.goto (-38), 3) := by decide +kernel
theorem dX7_addTaken_43 : decode cX7_addTaken 43 = .ok (.aload_n 0, 1) := by decide +kernel
theorem dX7_addTaken_44 : decode cX7_addTaken 44 = .ok (.iconst 1, 1) := by decide +kernel
theorem dX7_addTaken_45 : decode cX7_addTaken 45 = .ok (.iload_n 1, 1) := by decide +kernel
theorem dX7_addTaken_46 : decode cX7_addTaken 46 = .ok (.lconst 0, 1) := by decide +kernel
theorem dX7_addTaken_47 : decode cX7_addTaken 47 = .ok (.aload_n 0, 1) := by decide +kernel
theorem dX7_addTaken_48 : decode cX7_addTaken 48 = .ok (.getfield 206, 3) := by decide +kernel
theorem dX7_addTaken_51 : decode cX7_addTaken 51 = .ok (.invokevirtual 114, 3) := by decide +kernel
theorem dX7_addTaken_54 : decode cX7_addTaken 54 = .ok (.return_, 1) := by decide +kernel
theorem dX7_byteOf_0 : decode cX7_byteOf 0 = .ok (.aload_n 0, 1) := by decide +kernel
theorem dX7_byteOf_1 : decode cX7_byteOf 1 = .ok (.iload_n 1, 1) := by decide +kernel
theorem dX7_byteOf_2 : decode cX7_byteOf 2 = .ok (.invokevirtual 271, 3) := by decide +kernel
theorem dX7_byteOf_5 : decode cX7_byteOf 5 = .ok (.ifCond .eq 37, 3) := by decide +kernel
theorem dX7_byteOf_8 : decode cX7_byteOf 8 = .ok (.iload_n 2, 1) := by decide +kernel
theorem dX7_byteOf_9 : decode cX7_byteOf 9 = .ok (.ifCond .lt 33, 3) := by decide +kernel
theorem dX7_byteOf_12 : decode cX7_byteOf 12 = .ok (.iload_n 2, 1) := by decide +kernel
theorem dX7_byteOf_13 : decode cX7_byteOf 13 = .ok (.aload_n 0, 1) := by decide +kernel
theorem dX7_byteOf_14 : decode cX7_byteOf 14 = .ok (.getfield 33, 3) := by decide +kernel
theorem dX7_byteOf_17 : decode cX7_byteOf 17 = .ok (.iload_n 1, 1) := by decide +kernel
theorem dX7_byteOf_18 : decode cX7_byteOf 18 = .ok (.iaload, 1) := by decide +kernel
theorem dX7_byteOf_19 : decode cX7_byteOf 19 = .ok (.if_icmp .ge 23, 3) := by decide +kernel
theorem dX7_byteOf_22 : decode cX7_byteOf 22 = .ok (.aload_n 0, 1) := by decide +kernel
theorem dX7_byteOf_23 : decode cX7_byteOf 23 = .ok (.getfield 39, 3) := by decide +kernel
theorem dX7_byteOf_26 : decode cX7_byteOf 26 = .ok (.aload_n 0, 1) := by decide +kernel
theorem dX7_byteOf_27 : decode cX7_byteOf 27 = .ok (.getfield 30, 3) := by decide +kernel
theorem dX7_byteOf_30 : decode cX7_byteOf 30 = .ok (.iload_n 1, 1) := by decide +kernel
theorem dX7_byteOf_31 : decode cX7_byteOf 31 = .ok (.iaload, 1) := by decide +kernel
theorem dX7_byteOf_32 : decode cX7_byteOf 32 = .ok (.iload_n 2, 1) := by decide +kernel
theorem dX7_byteOf_33 : decode cX7_byteOf 33 = .ok (.iadd, 1) := by decide +kernel
theorem dX7_byteOf_34 : decode cX7_byteOf 34 = .ok (.baload, 1) := by decide +kernel
theorem dX7_byteOf_35 : decode cX7_byteOf 35 = .ok (.sipush 255, 3) := by decide +kernel
theorem dX7_byteOf_38 : decode cX7_byteOf 38 = .ok (.iand, 1) := by decide +kernel
theorem dX7_byteOf_39 : decode cX7_byteOf 39 = .ok (.goto 4, 3) := by decide +kernel
theorem dX7_byteOf_42 : decode cX7_byteOf 42 = .ok (.iconst (-1), 1) := by decide +kernel
theorem dX7_byteOf_43 : decode cX7_byteOf 43 = .ok (.ireturn, 1) := by decide +kernel
theorem dX7_character_0 : decode cX7_character 0 = .ok (.aload_n 0, 1) := by decide +kernel
theorem dX7_character_1 : decode cX7_character 1 = .ok (.getfield 39, 3) := by decide +kernel
theorem dX7_character_4 : decode cX7_character 4 = .ok (.iload_n 1, 1) := by decide +kernel
theorem dX7_character_5 : decode cX7_character 5 = .ok (.baload, 1) := by decide +kernel
theorem dX7_character_6 : decode cX7_character 6 = .ok (.sipush 255, 3) := by decide +kernel
theorem dX7_character_9 : decode cX7_character 9 = .ok (.iand, 1) := by decide +kernel
theorem dX7_character_10 : decode cX7_character 10 = .ok (.istore_n 3, 1) := by decide +kernel
theorem dX7_character_11 : decode cX7_character 11 = .ok (.iload_n 3, 1) := by decide +kernel
theorem dX7_character_12 : decode cX7_character 12 = .ok (.sipush 128, 3) := by decide +kernel
theorem dX7_character_15 : decode cX7_character 15 = .ok (.if_icmp .ge 7, 3) := by decide +kernel
theorem dX7_character_18 : decode cX7_character 18 = .ok (.iconst 1, 1) := by decide +kernel
theorem dX7_character_19 : decode cX7_character 19 = .ok (.goto 48, 3) := by decide +kernel
theorem dX7_character_22 : decode cX7_character 22 = .ok (.iload_n 3, 1) := by decide +kernel
theorem dX7_character_23 : decode cX7_character 23 = .ok (.sipush 192, 3) := by decide +kernel
theorem dX7_character_26 : decode cX7_character 26 = .ok (.if_icmp .ge 7, 3) := by decide +kernel
theorem dX7_character_29 : decode cX7_character 29 = .ok (.iconst 0, 1) := by decide +kernel
theorem dX7_character_30 : decode cX7_character 30 = .ok (.goto 37, 3) := by decide +kernel
theorem dX7_character_33 : decode cX7_character 33 = .ok (.iload_n 3, 1) := by decide +kernel
theorem dX7_character_34 : decode cX7_character 34 = .ok (.sipush 224, 3) := by decide +kernel
theorem dX7_character_37 : decode cX7_character 37 = .ok (.if_icmp .ge 7, 3) := by decide +kernel
theorem dX7_character_40 : decode cX7_character 40 = .ok (.iconst 2, 1) := by decide +kernel
theorem dX7_character_41 : decode cX7_character 41 = .ok (.goto 26, 3) := by decide +kernel
theorem dX7_character_44 : decode cX7_character 44 = .ok (.iload_n 3, 1) := by decide +kernel
theorem dX7_character_45 : decode cX7_character 45 = .ok (.sipush 240, 3) := by decide +kernel
theorem dX7_character_48 : decode cX7_character 48 = .ok (.if_icmp .ge 7, 3) := by decide +kernel
theorem dX7_character_51 : decode cX7_character 51 = .ok (.iconst 3, 1) := by decide +kernel
theorem dX7_character_52 : decode cX7_character 52 = .ok (.goto 15, 3) := by decide +kernel
theorem dX7_character_55 : decode cX7_character 55 = .ok (.iload_n 3, 1) := by decide +kernel
theorem dX7_character_56 : decode cX7_character 56 = .ok (.sipush 248, 3) := by decide +kernel
theorem dX7_character_59 : decode cX7_character 59 = .ok (.if_icmp .ge 7, 3) := by decide +kernel
theorem dX7_character_62 : decode cX7_character 62 = .ok (.iconst 4, 1) := by decide +kernel
theorem dX7_character_63 : decode cX7_character 63 = .ok (.goto 4, 3) := by decide +kernel
theorem dX7_character_66 : decode cX7_character 66 = .ok (.iconst 0, 1) := by decide +kernel
theorem dX7_character_67 : decode cX7_character 67 = .ok (.istore 4, 2) := by decide +kernel
theorem dX7_character_69 : decode cX7_character 69 = .ok (.iload 4, 2) := by decide +kernel
theorem dX7_character_71 : decode cX7_character 71 = .ok (.ifCond .eq 11, 3) := by decide +kernel
theorem dX7_character_74 : decode cX7_character 74 = .ok (.iload_n 1, 1) := by decide +kernel
theorem dX7_character_75 : decode cX7_character 75 = .ok (.iload 4, 2) := by decide +kernel
theorem dX7_character_77 : decode cX7_character 77 = .ok (.iadd, 1) := by decide +kernel
theorem dX7_character_78 : decode cX7_character 78 = .ok (.iload_n 2, 1) := by decide +kernel
theorem dX7_character_79 : decode cX7_character 79 = .ok (.if_icmp .le 5, 3) := by decide +kernel
theorem dX7_character_82 : decode cX7_character 82 = .ok (.iconst 0, 1) := by decide +kernel
theorem dX7_character_83 : decode cX7_character 83 = .ok (.ireturn, 1) := by decide +kernel
theorem dX7_character_84 : decode cX7_character 84 = .ok (.iload 4, 2) := by decide +kernel
theorem dX7_character_86 : decode cX7_character 86 = .ok (.iconst 1, 1) := by decide +kernel
theorem dX7_character_87 : decode cX7_character 87 = .ok (.if_icmp .ne 7, 3) := by decide +kernel
theorem dX7_character_90 : decode cX7_character 90 = .ok (.iload_n 3, 1) := by decide +kernel
theorem dX7_character_91 : decode cX7_character 91 = .ok (.goto 33, 3) := by decide +kernel
theorem dX7_character_94 : decode cX7_character 94 = .ok (.iload 4, 2) := by decide +kernel
theorem dX7_character_96 : decode cX7_character 96 = .ok (.iconst 2, 1) := by decide +kernel
theorem dX7_character_97 : decode cX7_character 97 = .ok (.if_icmp .ne 10, 3) := by decide +kernel
theorem dX7_character_100 : decode cX7_character 100 = .ok (.iload_n 3, 1) := by decide +kernel
theorem dX7_character_101 : decode cX7_character 101 = .ok (.bipush 31, 2) := by decide +kernel
theorem dX7_character_103 : decode cX7_character 103 = .ok (.iand, 1) := by decide +kernel
theorem dX7_character_104 : decode cX7_character 104 = .ok (.goto 20, 3) := by decide +kernel
theorem dX7_character_107 : decode cX7_character 107 = .ok (.iload 4, 2) := by decide +kernel
theorem dX7_character_109 : decode cX7_character 109 = .ok (.iconst 3, 1) := by decide +kernel
theorem dX7_character_110 : decode cX7_character 110 = .ok (.if_icmp .ne 10, 3) := by decide +kernel
theorem dX7_character_113 : decode cX7_character 113 = .ok (.iload_n 3, 1) := by decide +kernel
theorem dX7_character_114 : decode cX7_character 114 = .ok (.bipush 15, 2) := by decide +kernel
theorem dX7_character_116 : decode cX7_character 116 = .ok (.iand, 1) := by decide +kernel
theorem dX7_character_117 : decode cX7_character 117 = .ok (.goto 7, 3) := by decide +kernel
theorem dX7_character_120 : decode cX7_character 120 = .ok (.iload_n 3, 1) := by decide +kernel
theorem dX7_character_121 : decode cX7_character 121 = .ok (.bipush 7, 2) := by decide +kernel
theorem dX7_character_123 : decode cX7_character 123 = .ok (.iand, 1) := by decide +kernel
theorem dX7_character_124 : decode cX7_character 124 = .ok (.istore 5, 2) := by decide +kernel
theorem dX7_character_126 : decode cX7_character 126 = .ok (.iconst 1, 1) := by decide +kernel
theorem dX7_character_127 : decode cX7_character 127 = .ok (.istore 6, 2) := by decide +kernel
theorem dX7_character_129 : decode cX7_character 129 = .ok (.iload 6, 2) := by decide +kernel
theorem dX7_character_131 : decode cX7_character 131 = .ok (.iload 4, 2) := by decide +kernel
theorem dX7_character_133 : decode cX7_character 133 = .ok (.if_icmp .ge 55, 3) := by decide +kernel
theorem dX7_character_136 : decode cX7_character 136 = .ok (.aload_n 0, 1) := by decide +kernel
theorem dX7_character_137 : decode cX7_character 137 = .ok (.getfield 39, 3) := by decide +kernel
theorem dX7_character_140 : decode cX7_character 140 = .ok (.iload_n 1, 1) := by decide +kernel
theorem dX7_character_141 : decode cX7_character 141 = .ok (.iload 6, 2) := by decide +kernel
theorem dX7_character_143 : decode cX7_character 143 = .ok (.iadd, 1) := by decide +kernel
theorem dX7_character_144 : decode cX7_character 144 = .ok (.baload, 1) := by decide +kernel
theorem dX7_character_145 : decode cX7_character 145 = .ok (.sipush 255, 3) := by decide +kernel
theorem dX7_character_148 : decode cX7_character 148 = .ok (.iand, 1) := by decide +kernel
theorem dX7_character_149 : decode cX7_character 149 = .ok (.istore 7, 2) := by decide +kernel
theorem dX7_character_151 : decode cX7_character 151 = .ok (.iload 7, 2) := by decide +kernel
theorem dX7_character_153 : decode cX7_character 153 = .ok (.sipush 128, 3) := by decide +kernel
theorem dX7_character_156 : decode cX7_character 156 = .ok (.if_icmp .lt 11, 3) := by decide +kernel
theorem dX7_character_159 : decode cX7_character 159 = .ok (.iload 7, 2) := by decide +kernel
theorem dX7_character_161 : decode cX7_character 161 = .ok (.sipush 191, 3) := by decide +kernel
theorem dX7_character_164 : decode cX7_character 164 = .ok (.if_icmp .le 5, 3) := by decide +kernel
theorem dX7_character_167 : decode cX7_character 167 = .ok (.iconst 0, 1) := by decide +kernel
theorem dX7_character_168 : decode cX7_character 168 = .ok (.ireturn, 1) := by decide +kernel
theorem dX7_character_169 : decode cX7_character 169 = .ok (.bipush 64, 2) := by decide +kernel
theorem dX7_character_171 : decode cX7_character 171 = .ok (.iload 5, 2) := by decide +kernel
theorem dX7_character_173 : decode cX7_character 173 = .ok (.imul, 1) := by decide +kernel
theorem dX7_character_174 : decode cX7_character 174 = .ok (.iload 7, 2) := by decide +kernel
theorem dX7_character_176 : decode cX7_character 176 = .ok (.bipush 63, 2) := by decide +kernel
theorem dX7_character_178 : decode cX7_character 178 = .ok (.iand, 1) := by decide +kernel
theorem dX7_character_179 : decode cX7_character 179 = .ok (.iadd, 1) := by decide +kernel
theorem dX7_character_180 : decode cX7_character 180 = .ok (.istore 5, 2) := by decide +kernel
theorem dX7_character_182 : decode cX7_character 182 = .ok (.iinc 6 1, 3) := by decide +kernel
theorem dX7_character_185 : decode cX7_character 185 = .ok (.goto (-56), 3) := by decide +kernel
theorem dX7_character_188 : decode cX7_character 188 = .ok (.iload 4, 2) := by decide +kernel
theorem dX7_character_190 : decode cX7_character 190 = .ok (.iconst 1, 1) := by decide +kernel
theorem dX7_character_191 : decode cX7_character 191 = .ok (.if_icmp .ne 7, 3) := by decide +kernel
theorem dX7_character_194 : decode cX7_character 194 = .ok (.iconst 0, 1) := by decide +kernel
theorem dX7_character_195 : decode cX7_character 195 = .ok (.goto 29, 3) := by decide +kernel
theorem dX7_character_198 : decode cX7_character 198 = .ok (.iload 4, 2) := by decide +kernel
theorem dX7_character_200 : decode cX7_character 200 = .ok (.iconst 2, 1) := by decide +kernel
theorem dX7_character_201 : decode cX7_character 201 = .ok (.if_icmp .ne 9, 3) := by decide +kernel
theorem dX7_character_204 : decode cX7_character 204 = .ok (.sipush 128, 3) := by decide +kernel
theorem dX7_character_207 : decode cX7_character 207 = .ok (.goto 17, 3) := by decide +kernel
theorem dX7_character_210 : decode cX7_character 210 = .ok (.iload 4, 2) := by decide +kernel
theorem dX7_character_212 : decode cX7_character 212 = .ok (.iconst 3, 1) := by decide +kernel
theorem dX7_character_213 : decode cX7_character 213 = .ok (.if_icmp .ne 9, 3) := by decide +kernel
theorem dX7_character_216 : decode cX7_character 216 = .ok (.sipush 2048, 3) := by decide +kernel
theorem dX7_character_219 : decode cX7_character 219 = .ok (.goto 5, 3) := by decide +kernel
theorem dX7_character_222 : decode cX7_character 222 = .ok (.ldc 77, 2) := by decide +kernel
theorem dX7_character_224 : decode cX7_character 224 = .ok (.istore 6, 2) := by decide +kernel
theorem dX7_character_226 : decode cX7_character 226 = .ok (.iload 5, 2) := by decide +kernel
theorem dX7_character_228 : decode cX7_character 228 = .ok (.iload 6, 2) := by decide +kernel
theorem dX7_character_230 : decode cX7_character 230 = .ok (.if_icmp .lt 24, 3) := by decide +kernel
theorem dX7_character_233 : decode cX7_character 233 = .ok (.iload 5, 2) := by decide +kernel
theorem dX7_character_235 : decode cX7_character 235 = .ok (.ldc 78, 2) := by decide +kernel
theorem dX7_character_237 : decode cX7_character 237 = .ok (.if_icmp .gt 17, 3) := by decide +kernel
theorem dX7_character_240 : decode cX7_character 240 = .ok (.iload 5, 2) := by decide +kernel
theorem dX7_character_242 : decode cX7_character 242 = .ok (.ldc 79, 2) := by decide +kernel
theorem dX7_character_244 : decode cX7_character 244 = .ok (.if_icmp .lt 14, 3) := by decide +kernel
theorem dX7_character_247 : decode cX7_character 247 = .ok (.iload 5, 2) := by decide +kernel
theorem dX7_character_249 : decode cX7_character 249 = .ok (.ldc 80, 2) := by decide +kernel
theorem dX7_character_251 : decode cX7_character 251 = .ok (.if_icmp .gt 7, 3) := by decide +kernel
theorem dX7_character_254 : decode cX7_character 254 = .ok (.iconst 0, 1) := by decide +kernel
theorem dX7_character_255 : decode cX7_character 255 = .ok (.goto 5, 3) := by decide +kernel
theorem dX7_character_258 : decode cX7_character 258 = .ok (.iload 4, 2) := by decide +kernel
theorem dX7_character_260 : decode cX7_character 260 = .ok (.ireturn, 1) := by decide +kernel
theorem dX7_check_0 : decode cX7_check 0 = .ok (.iconst 1, 1) := by decide +kernel
theorem dX7_check_1 : decode cX7_check 1 = .ok (.ireturn, 1) := by decide +kernel
theorem dX7_clear_0 : decode cX7_clear 0 = .ok (.aload_n 0, 1) := by decide +kernel
theorem dX7_clear_1 : decode cX7_clear 1 = .ok (.getfield 42, 3) := by decide +kernel
theorem dX7_clear_4 : decode cX7_clear 4 = .ok (.iload_n 1, 1) := by decide +kernel
theorem dX7_clear_5 : decode cX7_clear 5 = .ok (.iconst 0, 1) := by decide +kernel
theorem dX7_clear_6 : decode cX7_clear 6 = .ok (.iastore, 1) := by decide +kernel
theorem dX7_clear_7 : decode cX7_clear 7 = .ok (.aload_n 0, 1) := by decide +kernel
theorem dX7_clear_8 : decode cX7_clear 8 = .ok (.getfield 45, 3) := by decide +kernel
theorem dX7_clear_11 : decode cX7_clear 11 = .ok (.iload_n 1, 1) := by decide +kernel
theorem dX7_clear_12 : decode cX7_clear 12 = .ok (.iconst 0, 1) := by decide +kernel
theorem dX7_clear_13 : decode cX7_clear 13 = .ok (.iastore, 1) := by decide +kernel
theorem dX7_clear_14 : decode cX7_clear 14 = .ok (.aload_n 0, 1) := by decide +kernel
theorem dX7_clear_15 : decode cX7_clear 15 = .ok (.getfield 55, 3) := by decide +kernel
theorem dX7_clear_18 : decode cX7_clear 18 = .ok (.iload_n 1, 1) := by decide +kernel
theorem dX7_clear_19 : decode cX7_clear 19 = .ok (.iconst 0, 1) := by decide +kernel
theorem dX7_clear_20 : decode cX7_clear 20 = .ok (.iastore, 1) := by decide +kernel
theorem dX7_clear_21 : decode cX7_clear 21 = .ok (.return_, 1) := by decide +kernel
theorem dX7_count_0 : decode cX7_count 0 = .ok (.iload_n 1, 1) := by decide +kernel
theorem dX7_count_1 : decode cX7_count 1 = .ok (.tableswitch 82 0 5 #[39, 46, 60, 67, 72, 77], 39) := by decide +kernel
theorem dX7_count_40 : decode cX7_count 40 = .ok (.aload_n 0, 1) := by decide +kernel
theorem dX7_count_41 : decode cX7_count 41 = .ok (.getfield 42, 3) := by decide +kernel
theorem dX7_count_44 : decode cX7_count 44 = .ok (.iconst 0, 1) := by decide +kernel
theorem dX7_count_45 : decode cX7_count 45 = .ok (.iaload, 1) := by decide +kernel
theorem dX7_count_46 : decode cX7_count 46 = .ok (.ireturn, 1) := by decide +kernel
theorem dX7_count_47 : decode cX7_count 47 = .ok (.aload_n 0, 1) := by decide +kernel
theorem dX7_count_48 : decode cX7_count 48 = .ok (.iconst 0, 1) := by decide +kernel
theorem dX7_count_49 : decode cX7_count 49 = .ok (.invokevirtual 93, 3) := by decide +kernel
theorem dX7_count_52 : decode cX7_count 52 = .ok (.ifCond .eq 7, 3) := by decide +kernel
theorem dX7_count_55 : decode cX7_count 55 = .ok (.iconst 1, 1) := by decide +kernel
theorem dX7_count_56 : decode cX7_count 56 = .ok (.goto 4, 3) := by decide +kernel
theorem dX7_count_59 : decode cX7_count 59 = .ok (.iconst 0, 1) := by decide +kernel
theorem dX7_count_60 : decode cX7_count 60 = .ok (.ireturn, 1) := by decide +kernel
theorem dX7_count_61 : decode cX7_count 61 = .ok (.aload_n 0, 1) := by decide +kernel
theorem dX7_count_62 : decode cX7_count 62 = .ok (.getfield 45, 3) := by decide +kernel
theorem dX7_count_65 : decode cX7_count 65 = .ok (.iconst 0, 1) := by decide +kernel
theorem dX7_count_66 : decode cX7_count 66 = .ok (.iaload, 1) := by decide +kernel
theorem dX7_count_67 : decode cX7_count 67 = .ok (.ireturn, 1) := by decide +kernel
theorem dX7_count_68 : decode cX7_count 68 = .ok (.aload_n 0, 1) := by decide +kernel
theorem dX7_count_69 : decode cX7_count 69 = .ok (.getfield 71, 3) := by decide +kernel
theorem dX7_count_72 : decode cX7_count 72 = .ok (.ireturn, 1) := by decide +kernel
theorem dX7_count_73 : decode cX7_count 73 = .ok (.aload_n 0, 1) := by decide +kernel
theorem dX7_count_74 : decode cX7_count 74 = .ok (.getfield 74, 3) := by decide +kernel
theorem dX7_count_77 : decode cX7_count 77 = .ok (.ireturn, 1) := by decide +kernel
theorem dX7_count_78 : decode cX7_count 78 = .ok (.aload_n 0, 1) := by decide +kernel
theorem dX7_count_79 : decode cX7_count 79 = .ok (.getfield 187, 3) := by decide +kernel
theorem dX7_count_82 : decode cX7_count 82 = .ok (.ireturn, 1) := by decide +kernel
theorem dX7_count_83 : decode cX7_count 83 = .ok (.iconst (-1), 1) := by decide +kernel
theorem dX7_count_84 : decode cX7_count 84 = .ok (.ireturn, 1) := by decide +kernel
theorem dX7_drop_0 : decode cX7_drop 0 = .ok (.aload_n 0, 1) := by decide +kernel
theorem dX7_drop_1 : decode cX7_drop 1 = .ok (.getfield 42, 3) := by decide +kernel
theorem dX7_drop_4 : decode cX7_drop 4 = .ok (.iconst 0, 1) := by decide +kernel
theorem dX7_drop_5 : decode cX7_drop 5 = .ok (.iaload, 1) := by decide +kernel
theorem dX7_drop_6 : decode cX7_drop 6 = .ok (.istore_n 1, 1) := by decide +kernel
theorem dX7_drop_7 : decode cX7_drop 7 = .ok (.aload_n 0, 1) := by decide +kernel
theorem dX7_drop_8 : decode cX7_drop 8 = .ok (.iconst 0, 1) := by decide +kernel
theorem dX7_drop_9 : decode cX7_drop 9 = .ok (.invokevirtual 120, 3) := by decide +kernel
theorem dX7_drop_12 : decode cX7_drop 12 = .ok (.iload_n 1, 1) := by decide +kernel
theorem dX7_drop_13 : decode cX7_drop 13 = .ok (.ireturn, 1) := by decide +kernel
theorem dX7_end_0 : decode cX7_end 0 = .ok (.aload_n 0, 1) := by decide +kernel
theorem dX7_end_1 : decode cX7_end 1 = .ok (.getfield 55, 3) := by decide +kernel
theorem dX7_end_4 : decode cX7_end 4 = .ok (.iconst 0, 1) := by decide +kernel
theorem dX7_end_5 : decode cX7_end 5 = .ok (.iaload, 1) := by decide +kernel
theorem dX7_end_6 : decode cX7_end 6 = .ok (.ifCond .eq 34, 3) := by decide +kernel
theorem dX7_end_9 : decode cX7_end 9 = .ok (.aload_n 0, 1) := by decide +kernel
theorem dX7_end_10 : decode cX7_end 10 = .ok (.iconst 0, 1) := by decide +kernel
theorem dX7_end_11 : decode cX7_end 11 = .ok (.invokevirtual 89, 3) := by decide +kernel
theorem dX7_end_14 : decode cX7_end 14 = .ok (.ifCond .eq 16, 3) := by decide +kernel
theorem dX7_end_17 : decode cX7_end 17 = .ok (.aload_n 0, 1) := by decide +kernel
theorem dX7_end_18 : decode cX7_end 18 = .ok (.getfield 52, 3) := by decide +kernel
theorem dX7_end_21 : decode cX7_end 21 = .ok (.aload_n 0, 1) := by decide +kernel
theorem dX7_end_22 : decode cX7_end 22 = .ok (.iconst 0, 1) := by decide +kernel
theorem dX7_end_23 : decode cX7_end 23 = .ok (.invokevirtual 85, 3) := by decide +kernel
theorem dX7_end_26 : decode cX7_end 26 = .ok (.baload, 1) := by decide +kernel
theorem dX7_end_27 : decode cX7_end 27 = .ok (.ifCond .ne 13, 3) := by decide +kernel
theorem dX7_end_30 : decode cX7_end 30 = .ok (.aload_n 0, 1) := by decide +kernel
theorem dX7_end_31 : decode cX7_end 31 = .ok (.iconst 0, 1) := by decide +kernel
theorem dX7_end_32 : decode cX7_end 32 = .ok (.iconst 0, 1) := by decide +kernel
theorem dX7_end_33 : decode cX7_end 33 = .ok (.iconst 0, 1) := by decide +kernel
theorem dX7_end_34 : decode cX7_end 34 = .ok (.invokevirtual 103, 3) := by decide +kernel
theorem dX7_end_37 : decode cX7_end 37 = .ok (.ifCond .ne 5, 3) := by decide +kernel
theorem dX7_end_40 : decode cX7_end 40 = .ok (.iconst (-1), 1) := by decide +kernel
theorem dX7_end_41 : decode cX7_end 41 = .ok (.ireturn, 1) := by decide +kernel
theorem dX7_end_42 : decode cX7_end 42 = .ok (.aload_n 0, 1) := by decide +kernel
theorem dX7_end_43 : decode cX7_end 43 = .ok (.iconst 0, 1) := by decide +kernel
theorem dX7_end_44 : decode cX7_end 44 = .ok (.bipush 11, 2) := by decide +kernel
theorem dX7_end_46 : decode cX7_end 46 = .ok (.lconst 0, 1) := by decide +kernel
theorem dX7_end_47 : decode cX7_end 47 = .ok (.iconst 0, 1) := by decide +kernel
theorem dX7_end_48 : decode cX7_end 48 = .ok (.invokevirtual 114, 3) := by decide +kernel
theorem dX7_end_51 : decode cX7_end 51 = .ok (.aload_n 0, 1) := by decide +kernel
theorem dX7_end_52 : decode cX7_end 52 = .ok (.getfield 42, 3) := by decide +kernel
theorem dX7_end_55 : decode cX7_end 55 = .ok (.iconst 0, 1) := by decide +kernel
theorem dX7_end_56 : decode cX7_end 56 = .ok (.iaload, 1) := by decide +kernel
theorem dX7_end_57 : decode cX7_end 57 = .ok (.ireturn, 1) := by decide +kernel
theorem dX7_fail_0 : decode cX7_fail 0 = .ok (.aload_n 0, 1) := by decide +kernel
theorem dX7_fail_1 : decode cX7_fail 1 = .ok (.getfield 190, 3) := by decide +kernel
theorem dX7_fail_4 : decode cX7_fail 4 = .ok (.ifCond .ne 13, 3) := by decide +kernel
theorem dX7_fail_7 : decode cX7_fail 7 = .ok (.aload_n 0, 1) := by decide +kernel
theorem dX7_fail_8 : decode cX7_fail 8 = .ok (.iload_n 1, 1) := by decide +kernel
theorem dX7_fail_9 : decode cX7_fail 9 = .ok (.putfield 190, 3) := by decide +kernel
theorem dX7_fail_12 : decode cX7_fail 12 = .ok (.aload_n 0, 1) := by decide +kernel
theorem dX7_fail_13 : decode cX7_fail 13 = .ok (.iload_n 2, 1) := by decide +kernel
theorem dX7_fail_14 : decode cX7_fail 14 = .ok (.putfield 64, 3) := by decide +kernel
theorem dX7_fail_17 : decode cX7_fail 17 = .ok (.return_, 1) := by decide +kernel
theorem dX7_find_0 : decode cX7_find 0 = .ok (.iconst 0, 1) := by decide +kernel
theorem dX7_find_1 : decode cX7_find 1 = .ok (.istore_n 3, 1) := by decide +kernel
theorem dX7_find_2 : decode cX7_find 2 = .ok (.iload_n 3, 1) := by decide +kernel
theorem dX7_find_3 : decode cX7_find 3 = .ok (.aload_n 0, 1) := by decide +kernel
theorem dX7_find_4 : decode cX7_find 4 = .ok (.getfield 61, 3) := by decide +kernel
theorem dX7_find_7 : decode cX7_find 7 = .ok (.iload_n 1, 1) := by decide +kernel
theorem dX7_find_8 : decode cX7_find 8 = .ok (.iaload, 1) := by decide +kernel
theorem dX7_find_9 : decode cX7_find 9 = .ok (.if_icmp .ge 42, 3) := by decide +kernel
theorem dX7_find_12 : decode cX7_find 12 = .ok (.iload_n 3, 1) := by decide +kernel
theorem dX7_find_13 : decode cX7_find 13 = .ok (.sipush 255, 3) := by decide +kernel
theorem dX7_find_16 : decode cX7_find 16 = .ok (.iand, 1) := by decide +kernel
theorem dX7_find_17 : decode cX7_find 17 = .ok (.sipush 254, 3) := by decide +kernel
theorem dX7_find_20 : decode cX7_find 20 = .ok (.if_icmp .ge 25, 3) := by decide +kernel
theorem dX7_find_23 : decode cX7_find 23 = .ok (.aload_n 0, 1) := by decide +kernel
theorem dX7_find_24 : decode cX7_find 24 = .ok (.aload_n 0, 1) := by decide +kernel
theorem dX7_find_25 : decode cX7_find 25 = .ok (.getfield 58, 3) := by decide +kernel
theorem dX7_find_28 : decode cX7_find 28 = .ok (.sipush 1024, 3) := by decide +kernel
theorem dX7_find_31 : decode cX7_find 31 = .ok (.iload_n 1, 1) := by decide +kernel
theorem dX7_find_32 : decode cX7_find 32 = .ok (.imul, 1) := by decide +kernel
theorem dX7_find_33 : decode cX7_find 33 = .ok (.iload_n 3, 1) := by decide +kernel
theorem dX7_find_34 : decode cX7_find 34 = .ok (.iadd, 1) := by decide +kernel
theorem dX7_find_35 : decode cX7_find 35 = .ok (.iaload, 1) := by decide +kernel
theorem dX7_find_36 : decode cX7_find 36 = .ok (.iload_n 2, 1) := by decide +kernel
theorem dX7_find_37 : decode cX7_find 37 = .ok (.invokevirtual 124, 3) := by decide +kernel
theorem dX7_find_40 : decode cX7_find 40 = .ok (.ifCond .eq 5, 3) := by decide +kernel
theorem dX7_find_43 : decode cX7_find 43 = .ok (.iload_n 3, 1) := by decide +kernel
theorem dX7_find_44 : decode cX7_find 44 = .ok (.ireturn, 1) := by decide +kernel
theorem dX7_find_45 : decode cX7_find 45 = .ok (.iinc 3 1, 3) := by decide +kernel
theorem dX7_find_48 : decode cX7_find 48 = .ok (.goto (-46), 3) := by decide +kernel
theorem dX7_find_51 : decode cX7_find 51 = .ok (.iconst (-1), 1) := by decide +kernel
theorem dX7_find_52 : decode cX7_find 52 = .ok (.ireturn, 1) := by decide +kernel
theorem dX7_holdRead_0 : decode cX7_holdRead 0 = .ok (.aload_n 0, 1) := by decide +kernel
theorem dX7_holdRead_1 : decode cX7_holdRead 1 = .ok (.getfield 42, 3) := by decide +kernel
theorem dX7_holdRead_4 : decode cX7_holdRead 4 = .ok (.iconst 0, 1) := by decide +kernel
theorem dX7_holdRead_5 : decode cX7_holdRead 5 = .ok (.aload_n 0, 1) := by decide +kernel
theorem dX7_holdRead_6 : decode cX7_holdRead 6 = .ok (.getfield 42, 3) := by decide +kernel
theorem dX7_holdRead_9 : decode cX7_holdRead 9 = .ok (.iconst 1, 1) := by decide +kernel
theorem dX7_holdRead_10 : decode cX7_holdRead 10 = .ok (.iaload, 1) := by decide +kernel
theorem dX7_holdRead_11 : decode cX7_holdRead 11 = .ok (.iastore, 1) := by decide +kernel
theorem dX7_holdRead_12 : decode cX7_holdRead 12 = .ok (.aload_n 0, 1) := by decide +kernel
theorem dX7_holdRead_13 : decode cX7_holdRead 13 = .ok (.getfield 45, 3) := by decide +kernel
theorem dX7_holdRead_16 : decode cX7_holdRead 16 = .ok (.iconst 0, 1) := by decide +kernel
theorem dX7_holdRead_17 : decode cX7_holdRead 17 = .ok (.aload_n 0, 1) := by decide +kernel
theorem dX7_holdRead_18 : decode cX7_holdRead 18 = .ok (.getfield 45, 3) := by decide +kernel
theorem dX7_holdRead_21 : decode cX7_holdRead 21 = .ok (.iconst 1, 1) := by decide +kernel
theorem dX7_holdRead_22 : decode cX7_holdRead 22 = .ok (.iaload, 1) := by decide +kernel
theorem dX7_holdRead_23 : decode cX7_holdRead 23 = .ok (.iastore, 1) := by decide +kernel
theorem dX7_holdRead_24 : decode cX7_holdRead 24 = .ok (.aload_n 0, 1) := by decide +kernel
theorem dX7_holdRead_25 : decode cX7_holdRead 25 = .ok (.getfield 55, 3) := by decide +kernel
theorem dX7_holdRead_28 : decode cX7_holdRead 28 = .ok (.iconst 0, 1) := by decide +kernel
theorem dX7_holdRead_29 : decode cX7_holdRead 29 = .ok (.iconst 0, 1) := by decide +kernel
theorem dX7_holdRead_30 : decode cX7_holdRead 30 = .ok (.iastore, 1) := by decide +kernel
theorem dX7_holdRead_31 : decode cX7_holdRead 31 = .ok (.iconst 0, 1) := by decide +kernel
theorem dX7_holdRead_32 : decode cX7_holdRead 32 = .ok (.istore_n 1, 1) := by decide +kernel
theorem dX7_holdRead_33 : decode cX7_holdRead 33 = .ok (.iload_n 1, 1) := by decide +kernel
theorem dX7_holdRead_34 : decode cX7_holdRead 34 = .ok (.aload_n 0, 1) := by decide +kernel
theorem dX7_holdRead_35 : decode cX7_holdRead 35 = .ok (.getfield 42, 3) := by decide +kernel
theorem dX7_holdRead_38 : decode cX7_holdRead 38 = .ok (.iconst 0, 1) := by decide +kernel
theorem dX7_holdRead_39 : decode cX7_holdRead 39 = .ok (.iaload, 1) := by decide +kernel
theorem dX7_holdRead_40 : decode cX7_holdRead 40 = .ok (.if_icmp .ge 93, 3) := by decide +kernel
theorem dX7_holdRead_43 : decode cX7_holdRead 43 = .ok (.aload_n 0, 1) := by decide +kernel
theorem dX7_holdRead_44 : decode cX7_holdRead 44 = .ok (.getfield 22, 3) := by decide +kernel
theorem dX7_holdRead_47 : decode cX7_holdRead 47 = .ok (.iload_n 1, 1) := by decide +kernel
theorem dX7_holdRead_48 : decode cX7_holdRead 48 = .ok (.aload_n 0, 1) := by decide +kernel
theorem dX7_holdRead_49 : decode cX7_holdRead 49 = .ok (.getfield 22, 3) := by decide +kernel
theorem dX7_holdRead_52 : decode cX7_holdRead 52 = .ok (.sipush 1500, 3) := by decide +kernel
theorem dX7_holdRead_55 : decode cX7_holdRead 55 = .ok (.iload_n 1, 1) := by decide +kernel
theorem dX7_holdRead_56 : decode cX7_holdRead 56 = .ok (.iadd, 1) := by decide +kernel
theorem dX7_holdRead_57 : decode cX7_holdRead 57 = .ok (.iaload, 1) := by decide +kernel
theorem dX7_holdRead_58 : decode cX7_holdRead 58 = .ok (.iastore, 1) := by decide +kernel
theorem dX7_holdRead_59 : decode cX7_holdRead 59 = .ok (.aload_n 0, 1) := by decide +kernel
theorem dX7_holdRead_60 : decode cX7_holdRead 60 = .ok (.getfield 26, 3) := by decide +kernel
theorem dX7_holdRead_63 : decode cX7_holdRead 63 = .ok (.iload_n 1, 1) := by decide +kernel
theorem dX7_holdRead_64 : decode cX7_holdRead 64 = .ok (.aload_n 0, 1) := by decide +kernel
theorem dX7_holdRead_65 : decode cX7_holdRead 65 = .ok (.getfield 26, 3) := by decide +kernel
theorem dX7_holdRead_68 : decode cX7_holdRead 68 = .ok (.sipush 1500, 3) := by decide +kernel
theorem dX7_holdRead_71 : decode cX7_holdRead 71 = .ok (.iload_n 1, 1) := by decide +kernel
theorem dX7_holdRead_72 : decode cX7_holdRead 72 = .ok (.iadd, 1) := by decide +kernel
theorem dX7_holdRead_73 : decode cX7_holdRead 73 = .ok (.laload, 1) := by decide +kernel
theorem dX7_holdRead_74 : decode cX7_holdRead 74 = .ok (.lastore, 1) := by decide +kernel
theorem dX7_holdRead_75 : decode cX7_holdRead 75 = .ok (.aload_n 0, 1) := by decide +kernel
theorem dX7_holdRead_76 : decode cX7_holdRead 76 = .ok (.getfield 30, 3) := by decide +kernel
theorem dX7_holdRead_79 : decode cX7_holdRead 79 = .ok (.iload_n 1, 1) := by decide +kernel
theorem dX7_holdRead_80 : decode cX7_holdRead 80 = .ok (.aload_n 0, 1) := by decide +kernel
theorem dX7_holdRead_81 : decode cX7_holdRead 81 = .ok (.getfield 30, 3) := by decide +kernel
theorem dX7_holdRead_84 : decode cX7_holdRead 84 = .ok (.sipush 1500, 3) := by decide +kernel
theorem dX7_holdRead_87 : decode cX7_holdRead 87 = .ok (.iload_n 1, 1) := by decide +kernel
theorem dX7_holdRead_88 : decode cX7_holdRead 88 = .ok (.iadd, 1) := by decide +kernel
theorem dX7_holdRead_89 : decode cX7_holdRead 89 = .ok (.iaload, 1) := by decide +kernel
theorem dX7_holdRead_90 : decode cX7_holdRead 90 = .ok (.sipush 5000, 3) := by decide +kernel
theorem dX7_holdRead_93 : decode cX7_holdRead 93 = .ok (.isub, 1) := by decide +kernel
theorem dX7_holdRead_94 : decode cX7_holdRead 94 = .ok (.iastore, 1) := by decide +kernel
theorem dX7_holdRead_95 : decode cX7_holdRead 95 = .ok (.aload_n 0, 1) := by decide +kernel
theorem dX7_holdRead_96 : decode cX7_holdRead 96 = .ok (.getfield 33, 3) := by decide +kernel
theorem dX7_holdRead_99 : decode cX7_holdRead 99 = .ok (.iload_n 1, 1) := by decide +kernel
theorem dX7_holdRead_100 : decode cX7_holdRead 100 = .ok (.aload_n 0, 1) := by decide +kernel
theorem dX7_holdRead_101 : decode cX7_holdRead 101 = .ok (.getfield 33, 3) := by decide +kernel
theorem dX7_holdRead_104 : decode cX7_holdRead 104 = .ok (.sipush 1500, 3) := by decide +kernel
theorem dX7_holdRead_107 : decode cX7_holdRead 107 = .ok (.iload_n 1, 1) := by decide +kernel
theorem dX7_holdRead_108 : decode cX7_holdRead 108 = .ok (.iadd, 1) := by decide +kernel
theorem dX7_holdRead_109 : decode cX7_holdRead 109 = .ok (.iaload, 1) := by decide +kernel
theorem dX7_holdRead_110 : decode cX7_holdRead 110 = .ok (.iastore, 1) := by decide +kernel
theorem dX7_holdRead_111 : decode cX7_holdRead 111 = .ok (.aload_n 0, 1) := by decide +kernel
theorem dX7_holdRead_112 : decode cX7_holdRead 112 = .ok (.getfield 36, 3) := by decide +kernel
theorem dX7_holdRead_115 : decode cX7_holdRead 115 = .ok (.iload_n 1, 1) := by decide +kernel
theorem dX7_holdRead_116 : decode cX7_holdRead 116 = .ok (.aload_n 0, 1) := by decide +kernel
theorem dX7_holdRead_117 : decode cX7_holdRead 117 = .ok (.getfield 36, 3) := by decide +kernel
theorem dX7_holdRead_120 : decode cX7_holdRead 120 = .ok (.sipush 1500, 3) := by decide +kernel
theorem dX7_holdRead_123 : decode cX7_holdRead 123 = .ok (.iload_n 1, 1) := by decide +kernel
theorem dX7_holdRead_124 : decode cX7_holdRead 124 = .ok (.iadd, 1) := by decide +kernel
theorem dX7_holdRead_125 : decode cX7_holdRead 125 = .ok (.iaload, 1) := by decide +kernel
theorem dX7_holdRead_126 : decode cX7_holdRead 126 = .ok (.iastore, 1) := by decide +kernel
theorem dX7_holdRead_127 : decode cX7_holdRead 127 = .ok (.iinc 1 1, 3) := by decide +kernel
theorem dX7_holdRead_130 : decode cX7_holdRead 130 = .ok (.goto (-97), 3) := by decide +kernel
theorem dX7_holdRead_133 : decode cX7_holdRead 133 = .ok (.iconst 0, 1) := by decide +kernel
theorem dX7_holdRead_134 : decode cX7_holdRead 134 = .ok (.istore_n 1, 1) := by decide +kernel
theorem dX7_holdRead_135 : decode cX7_holdRead 135 = .ok (.iload_n 1, 1) := by decide +kernel
theorem dX7_holdRead_136 : decode cX7_holdRead 136 = .ok (.aload_n 0, 1) := by decide +kernel
theorem dX7_holdRead_137 : decode cX7_holdRead 137 = .ok (.getfield 45, 3) := by decide +kernel
theorem dX7_holdRead_140 : decode cX7_holdRead 140 = .ok (.iconst 0, 1) := by decide +kernel
theorem dX7_holdRead_141 : decode cX7_holdRead 141 = .ok (.iaload, 1) := by decide +kernel
theorem dX7_holdRead_142 : decode cX7_holdRead 142 = .ok (.if_icmp .ge 25, 3) := by decide +kernel
theorem dX7_holdRead_145 : decode cX7_holdRead 145 = .ok (.aload_n 0, 1) := by decide +kernel
theorem dX7_holdRead_146 : decode cX7_holdRead 146 = .ok (.getfield 39, 3) := by decide +kernel
theorem dX7_holdRead_149 : decode cX7_holdRead 149 = .ok (.iload_n 1, 1) := by decide +kernel
theorem dX7_holdRead_150 : decode cX7_holdRead 150 = .ok (.aload_n 0, 1) := by decide +kernel
theorem dX7_holdRead_151 : decode cX7_holdRead 151 = .ok (.getfield 39, 3) := by decide +kernel
theorem dX7_holdRead_154 : decode cX7_holdRead 154 = .ok (.sipush 5000, 3) := by decide +kernel
theorem dX7_holdRead_157 : decode cX7_holdRead 157 = .ok (.iload_n 1, 1) := by decide +kernel
theorem dX7_holdRead_158 : decode cX7_holdRead 158 = .ok (.iadd, 1) := by decide +kernel
theorem dX7_holdRead_159 : decode cX7_holdRead 159 = .ok (.baload, 1) := by decide +kernel
theorem dX7_holdRead_160 : decode cX7_holdRead 160 = .ok (.bastore, 1) := by decide +kernel
theorem dX7_holdRead_161 : decode cX7_holdRead 161 = .ok (.iinc 1 1, 3) := by decide +kernel
theorem dX7_holdRead_164 : decode cX7_holdRead 164 = .ok (.goto (-29), 3) := by decide +kernel
theorem dX7_holdRead_167 : decode cX7_holdRead 167 = .ok (.return_, 1) := by decide +kernel
theorem dX7_inObject_0 : decode cX7_inObject 0 = .ok (.aload_n 0, 1) := by decide +kernel
theorem dX7_inObject_1 : decode cX7_inObject 1 = .ok (.getfield 55, 3) := by decide +kernel
theorem dX7_inObject_4 : decode cX7_inObject 4 = .ok (.iload_n 1, 1) := by decide +kernel
theorem dX7_inObject_5 : decode cX7_inObject 5 = .ok (.iaload, 1) := by decide +kernel
theorem dX7_inObject_6 : decode cX7_inObject 6 = .ok (.ifCond .le 20, 3) := by decide +kernel
theorem dX7_inObject_9 : decode cX7_inObject 9 = .ok (.aload_n 0, 1) := by decide +kernel
theorem dX7_inObject_10 : decode cX7_inObject 10 = .ok (.getfield 48, 3) := by decide +kernel
theorem dX7_inObject_13 : decode cX7_inObject 13 = .ok (.aload_n 0, 1) := by decide +kernel
theorem dX7_inObject_14 : decode cX7_inObject 14 = .ok (.iload_n 1, 1) := by decide +kernel
theorem dX7_inObject_15 : decode cX7_inObject 15 = .ok (.invokevirtual 85, 3) := by decide +kernel
theorem dX7_inObject_18 : decode cX7_inObject 18 = .ok (.baload, 1) := by decide +kernel
theorem dX7_inObject_19 : decode cX7_inObject 19 = .ok (.ifCond .eq 7, 3) := by decide +kernel
theorem dX7_inObject_22 : decode cX7_inObject 22 = .ok (.iconst 1, 1) := by decide +kernel
theorem dX7_inObject_23 : decode cX7_inObject 23 = .ok (.goto 4, 3) := by decide +kernel
theorem dX7_inObject_26 : decode cX7_inObject 26 = .ok (.iconst 0, 1) := by decide +kernel
theorem dX7_inObject_27 : decode cX7_inObject 27 = .ok (.ireturn, 1) := by decide +kernel
theorem dX7_integer_0 : decode cX7_integer 0 = .ok (.aload_n 0, 1) := by decide +kernel
theorem dX7_integer_1 : decode cX7_integer 1 = .ok (.invokevirtual 99, 3) := by decide +kernel
theorem dX7_integer_4 : decode cX7_integer 4 = .ok (.ifCond .eq 13, 3) := by decide +kernel
theorem dX7_integer_7 : decode cX7_integer 7 = .ok (.aload_n 0, 1) := by decide +kernel
theorem dX7_integer_8 : decode cX7_integer 8 = .ok (.iconst 0, 1) := by decide +kernel
theorem dX7_integer_9 : decode cX7_integer 9 = .ok (.iconst 0, 1) := by decide +kernel
theorem dX7_integer_10 : decode cX7_integer 10 = .ok (.iconst 0, 1) := by decide +kernel
theorem dX7_integer_11 : decode cX7_integer 11 = .ok (.invokevirtual 103, 3) := by decide +kernel
theorem dX7_integer_14 : decode cX7_integer 14 = .ok (.ifCond .ne 5, 3) := by decide +kernel
theorem dX7_integer_17 : decode cX7_integer 17 = .ok (.iconst (-1), 1) := by decide +kernel
theorem dX7_integer_18 : decode cX7_integer 18 = .ok (.ireturn, 1) := by decide +kernel
theorem dX7_integer_19 : decode cX7_integer 19 = .ok (.aload_n 0, 1) := by decide +kernel
theorem dX7_integer_20 : decode cX7_integer 20 = .ok (.iconst 0, 1) := by decide +kernel
theorem dX7_integer_21 : decode cX7_integer 21 = .ok (.bipush 7, 2) := by decide +kernel
theorem dX7_integer_23 : decode cX7_integer 23 = .ok (.lload_n 1, 1) := by decide +kernel
theorem dX7_integer_24 : decode cX7_integer 24 = .ok (.iconst 0, 1) := by decide +kernel
theorem dX7_integer_25 : decode cX7_integer 25 = .ok (.invokevirtual 114, 3) := by decide +kernel
theorem dX7_integer_28 : decode cX7_integer 28 = .ok (.aload_n 0, 1) := by decide +kernel
theorem dX7_integer_29 : decode cX7_integer 29 = .ok (.getfield 42, 3) := by decide +kernel
theorem dX7_integer_32 : decode cX7_integer 32 = .ok (.iconst 0, 1) := by decide +kernel
theorem dX7_integer_33 : decode cX7_integer 33 = .ok (.iaload, 1) := by decide +kernel
theorem dX7_integer_34 : decode cX7_integer 34 = .ok (.ireturn, 1) := by decide +kernel
theorem dX7_isAscii_0 : decode cX7_isAscii 0 = .ok (.iconst 1, 1) := by decide +kernel
theorem dX7_isAscii_1 : decode cX7_isAscii 1 = .ok (.istore_n 3, 1) := by decide +kernel
theorem dX7_isAscii_2 : decode cX7_isAscii 2 = .ok (.iload_n 1, 1) := by decide +kernel
theorem dX7_isAscii_3 : decode cX7_isAscii 3 = .ok (.istore 4, 2) := by decide +kernel
theorem dX7_isAscii_5 : decode cX7_isAscii 5 = .ok (.iload 4, 2) := by decide +kernel
theorem dX7_isAscii_7 : decode cX7_isAscii 7 = .ok (.iload_n 1, 1) := by decide +kernel
theorem dX7_isAscii_8 : decode cX7_isAscii 8 = .ok (.iload_n 2, 1) := by decide +kernel
theorem dX7_isAscii_9 : decode cX7_isAscii 9 = .ok (.iadd, 1) := by decide +kernel
theorem dX7_isAscii_10 : decode cX7_isAscii 10 = .ok (.if_icmp .ge 29, 3) := by decide +kernel
theorem dX7_isAscii_13 : decode cX7_isAscii 13 = .ok (.iload_n 3, 1) := by decide +kernel
theorem dX7_isAscii_14 : decode cX7_isAscii 14 = .ok (.ifCond .eq 17, 3) := by decide +kernel
theorem dX7_isAscii_17 : decode cX7_isAscii 17 = .ok (.aload_n 0, 1) := by decide +kernel
theorem dX7_isAscii_18 : decode cX7_isAscii 18 = .ok (.getfield 39, 3) := by decide +kernel
theorem dX7_isAscii_21 : decode cX7_isAscii 21 = .ok (.iload 4, 2) := by decide +kernel
theorem dX7_isAscii_23 : decode cX7_isAscii 23 = .ok (.baload, 1) := by decide +kernel
theorem dX7_isAscii_24 : decode cX7_isAscii 24 = .ok (.ifCond .lt 7, 3) := by decide +kernel
theorem dX7_isAscii_27 : decode cX7_isAscii 27 = .ok (.iconst 1, 1) := by decide +kernel
theorem dX7_isAscii_28 : decode cX7_isAscii 28 = .ok (.goto 4, 3) := by decide +kernel
theorem dX7_isAscii_31 : decode cX7_isAscii 31 = .ok (.iconst 0, 1) := by decide +kernel
theorem dX7_isAscii_32 : decode cX7_isAscii 32 = .ok (.istore_n 3, 1) := by decide +kernel
theorem dX7_isAscii_33 : decode cX7_isAscii 33 = .ok (.iinc 4 1, 3) := by decide +kernel
theorem dX7_isAscii_36 : decode cX7_isAscii 36 = .ok (.goto (-31), 3) := by decide +kernel
theorem dX7_isAscii_39 : decode cX7_isAscii 39 = .ok (.iload_n 3, 1) := by decide +kernel
theorem dX7_isAscii_40 : decode cX7_isAscii 40 = .ok (.ireturn, 1) := by decide +kernel
theorem dX7_isItem_0 : decode cX7_isItem 0 = .ok (.iload_n 1, 1) := by decide +kernel
theorem dX7_isItem_1 : decode cX7_isItem 1 = .ok (.ifCond .lt 17, 3) := by decide +kernel
theorem dX7_isItem_4 : decode cX7_isItem 4 = .ok (.iload_n 1, 1) := by decide +kernel
theorem dX7_isItem_5 : decode cX7_isItem 5 = .ok (.aload_n 0, 1) := by decide +kernel
theorem dX7_isItem_6 : decode cX7_isItem 6 = .ok (.getfield 42, 3) := by decide +kernel
theorem dX7_isItem_9 : decode cX7_isItem 9 = .ok (.iconst 0, 1) := by decide +kernel
theorem dX7_isItem_10 : decode cX7_isItem 10 = .ok (.iaload, 1) := by decide +kernel
theorem dX7_isItem_11 : decode cX7_isItem 11 = .ok (.if_icmp .ge 7, 3) := by decide +kernel
theorem dX7_isItem_14 : decode cX7_isItem 14 = .ok (.iconst 1, 1) := by decide +kernel
theorem dX7_isItem_15 : decode cX7_isItem 15 = .ok (.goto 4, 3) := by decide +kernel
theorem dX7_isItem_18 : decode cX7_isItem 18 = .ok (.iconst 0, 1) := by decide +kernel
theorem dX7_isItem_19 : decode cX7_isItem 19 = .ok (.ireturn, 1) := by decide +kernel
theorem dX7_isSame_0 : decode cX7_isSame 0 = .ok (.aload_n 0, 1) := by decide +kernel
theorem dX7_isSame_1 : decode cX7_isSame 1 = .ok (.getfield 33, 3) := by decide +kernel
theorem dX7_isSame_4 : decode cX7_isSame 4 = .ok (.iload_n 1, 1) := by decide +kernel
theorem dX7_isSame_5 : decode cX7_isSame 5 = .ok (.iaload, 1) := by decide +kernel
theorem dX7_isSame_6 : decode cX7_isSame 6 = .ok (.aload_n 0, 1) := by decide +kernel
theorem dX7_isSame_7 : decode cX7_isSame 7 = .ok (.getfield 33, 3) := by decide +kernel
theorem dX7_isSame_10 : decode cX7_isSame 10 = .ok (.iload_n 2, 1) := by decide +kernel
theorem dX7_isSame_11 : decode cX7_isSame 11 = .ok (.iaload, 1) := by decide +kernel
theorem dX7_isSame_12 : decode cX7_isSame 12 = .ok (.if_icmp .ne 7, 3) := by decide +kernel
theorem dX7_isSame_15 : decode cX7_isSame 15 = .ok (.iconst 1, 1) := by decide +kernel
theorem dX7_isSame_16 : decode cX7_isSame 16 = .ok (.goto 4, 3) := by decide +kernel
theorem dX7_isSame_19 : decode cX7_isSame 19 = .ok (.iconst 0, 1) := by decide +kernel
theorem dX7_isSame_20 : decode cX7_isSame 20 = .ok (.istore_n 3, 1) := by decide +kernel
theorem dX7_isSame_21 : decode cX7_isSame 21 = .ok (.iconst 0, 1) := by decide +kernel
theorem dX7_isSame_22 : decode cX7_isSame 22 = .ok (.istore 4, 2) := by decide +kernel
theorem dX7_isSame_24 : decode cX7_isSame 24 = .ok (.iload 4, 2) := by decide +kernel
theorem dX7_isSame_26 : decode cX7_isSame 26 = .ok (.aload_n 0, 1) := by decide +kernel
theorem dX7_isSame_27 : decode cX7_isSame 27 = .ok (.getfield 33, 3) := by decide +kernel
theorem dX7_isSame_30 : decode cX7_isSame 30 = .ok (.iload_n 1, 1) := by decide +kernel
theorem dX7_isSame_31 : decode cX7_isSame 31 = .ok (.iaload, 1) := by decide +kernel
theorem dX7_isSame_32 : decode cX7_isSame 32 = .ok (.if_icmp .ge 50, 3) := by decide +kernel
theorem dX7_isSame_35 : decode cX7_isSame 35 = .ok (.iload_n 3, 1) := by decide +kernel
theorem dX7_isSame_36 : decode cX7_isSame 36 = .ok (.ifCond .eq 46, 3) := by decide +kernel
theorem dX7_isSame_39 : decode cX7_isSame 39 = .ok (.aload_n 0, 1) := by decide +kernel
theorem dX7_isSame_40 : decode cX7_isSame 40 = .ok (.getfield 39, 3) := by decide +kernel
theorem dX7_isSame_43 : decode cX7_isSame 43 = .ok (.aload_n 0, 1) := by decide +kernel
theorem dX7_isSame_44 : decode cX7_isSame 44 = .ok (.getfield 30, 3) := by decide +kernel
theorem dX7_isSame_47 : decode cX7_isSame 47 = .ok (.iload_n 1, 1) := by decide +kernel
theorem dX7_isSame_48 : decode cX7_isSame 48 = .ok (.iaload, 1) := by decide +kernel
theorem dX7_isSame_49 : decode cX7_isSame 49 = .ok (.iload 4, 2) := by decide +kernel
theorem dX7_isSame_51 : decode cX7_isSame 51 = .ok (.iadd, 1) := by decide +kernel
theorem dX7_isSame_52 : decode cX7_isSame 52 = .ok (.baload, 1) := by decide +kernel
theorem dX7_isSame_53 : decode cX7_isSame 53 = .ok (.aload_n 0, 1) := by decide +kernel
theorem dX7_isSame_54 : decode cX7_isSame 54 = .ok (.getfield 39, 3) := by decide +kernel
theorem dX7_isSame_57 : decode cX7_isSame 57 = .ok (.aload_n 0, 1) := by decide +kernel
theorem dX7_isSame_58 : decode cX7_isSame 58 = .ok (.getfield 30, 3) := by decide +kernel
theorem dX7_isSame_61 : decode cX7_isSame 61 = .ok (.iload_n 2, 1) := by decide +kernel
theorem dX7_isSame_62 : decode cX7_isSame 62 = .ok (.iaload, 1) := by decide +kernel
theorem dX7_isSame_63 : decode cX7_isSame 63 = .ok (.iload 4, 2) := by decide +kernel
theorem dX7_isSame_65 : decode cX7_isSame 65 = .ok (.iadd, 1) := by decide +kernel
theorem dX7_isSame_66 : decode cX7_isSame 66 = .ok (.baload, 1) := by decide +kernel
theorem dX7_isSame_67 : decode cX7_isSame 67 = .ok (.if_icmp .ne 7, 3) := by decide +kernel
theorem dX7_isSame_70 : decode cX7_isSame 70 = .ok (.iconst 1, 1) := by decide +kernel
theorem dX7_isSame_71 : decode cX7_isSame 71 = .ok (.goto 4, 3) := by decide +kernel
theorem dX7_isSame_74 : decode cX7_isSame 74 = .ok (.iconst 0, 1) := by decide +kernel
theorem dX7_isSame_75 : decode cX7_isSame 75 = .ok (.istore_n 3, 1) := by decide +kernel
theorem dX7_isSame_76 : decode cX7_isSame 76 = .ok (.iinc 4 1, 3) := by decide +kernel
theorem dX7_isSame_79 : decode cX7_isSame 79 = .ok (.goto (-55), 3) := by decide +kernel
theorem dX7_isSame_82 : decode cX7_isSame 82 = .ok (.iload_n 3, 1) := by decide +kernel
theorem dX7_isSame_83 : decode cX7_isSame 83 = .ok (.ireturn, 1) := by decide +kernel
theorem dX7_isText_0 : decode cX7_isText 0 = .ok (.iload_n 1, 1) := by decide +kernel
theorem dX7_isText_1 : decode cX7_isText 1 = .ok (.istore_n 3, 1) := by decide +kernel
theorem dX7_isText_2 : decode cX7_isText 2 = .ok (.iload_n 3, 1) := by decide +kernel
theorem dX7_isText_3 : decode cX7_isText 3 = .ok (.iload_n 1, 1) := by decide +kernel
theorem dX7_isText_4 : decode cX7_isText 4 = .ok (.iload_n 2, 1) := by decide +kernel
theorem dX7_isText_5 : decode cX7_isText 5 = .ok (.iadd, 1) := by decide +kernel
theorem dX7_isText_6 : decode cX7_isText 6 = .ok (.if_icmp .ge 28, 3) := by decide +kernel
theorem dX7_isText_9 : decode cX7_isText 9 = .ok (.aload_n 0, 1) := by decide +kernel
theorem dX7_isText_10 : decode cX7_isText 10 = .ok (.iload_n 3, 1) := by decide +kernel
theorem dX7_isText_11 : decode cX7_isText 11 = .ok (.iload_n 1, 1) := by decide +kernel
theorem dX7_isText_12 : decode cX7_isText 12 = .ok (.iload_n 2, 1) := by decide +kernel
theorem dX7_isText_13 : decode cX7_isText 13 = .ok (.iadd, 1) := by decide +kernel
theorem dX7_isText_14 : decode cX7_isText 14 = .ok (.invokevirtual 81, 3) := by decide +kernel
theorem dX7_isText_17 : decode cX7_isText 17 = .ok (.istore 4, 2) := by decide +kernel
theorem dX7_isText_19 : decode cX7_isText 19 = .ok (.iload 4, 2) := by decide +kernel
theorem dX7_isText_21 : decode cX7_isText 21 = .ok (.ifCond .ne 5, 3) := by decide +kernel
theorem dX7_isText_24 : decode cX7_isText 24 = .ok (.iconst 0, 1) := by decide +kernel
theorem dX7_isText_25 : decode cX7_isText 25 = .ok (.ireturn, 1) := by decide +kernel
theorem dX7_isText_26 : decode cX7_isText 26 = .ok (.iload_n 3, 1) := by decide +kernel
theorem dX7_isText_27 : decode cX7_isText 27 = .ok (.iload 4, 2) := by decide +kernel
theorem dX7_isText_29 : decode cX7_isText 29 = .ok (.iadd, 1) := by decide +kernel
theorem dX7_isText_30 : decode cX7_isText 30 = .ok (.istore_n 3, 1) := by decide +kernel
theorem dX7_isText_31 : decode cX7_isText 31 = .ok (.goto (-29), 3) := by decide +kernel
theorem dX7_isText_34 : decode cX7_isText 34 = .ok (.iconst 1, 1) := by decide +kernel
theorem dX7_isText_35 : decode cX7_isText 35 = .ok (.ireturn, 1) := by decide +kernel
theorem dX7_isWhole_0 : decode cX7_isWhole 0 = .ok (.aload_n 0, 1) := by decide +kernel
theorem dX7_isWhole_1 : decode cX7_isWhole 1 = .ok (.getfield 42, 3) := by decide +kernel
theorem dX7_isWhole_4 : decode cX7_isWhole 4 = .ok (.iload_n 1, 1) := by decide +kernel
theorem dX7_isWhole_5 : decode cX7_isWhole 5 = .ok (.iaload, 1) := by decide +kernel
theorem dX7_isWhole_6 : decode cX7_isWhole 6 = .ok (.ifCond .le 16, 3) := by decide +kernel
theorem dX7_isWhole_9 : decode cX7_isWhole 9 = .ok (.aload_n 0, 1) := by decide +kernel
theorem dX7_isWhole_10 : decode cX7_isWhole 10 = .ok (.getfield 55, 3) := by decide +kernel
theorem dX7_isWhole_13 : decode cX7_isWhole 13 = .ok (.iload_n 1, 1) := by decide +kernel
theorem dX7_isWhole_14 : decode cX7_isWhole 14 = .ok (.iaload, 1) := by decide +kernel
theorem dX7_isWhole_15 : decode cX7_isWhole 15 = .ok (.ifCond .ne 7, 3) := by decide +kernel
theorem dX7_isWhole_18 : decode cX7_isWhole 18 = .ok (.iconst 1, 1) := by decide +kernel
theorem dX7_isWhole_19 : decode cX7_isWhole 19 = .ok (.goto 4, 3) := by decide +kernel
theorem dX7_isWhole_22 : decode cX7_isWhole 22 = .ok (.iconst 0, 1) := by decide +kernel
theorem dX7_isWhole_23 : decode cX7_isWhole 23 = .ok (.ireturn, 1) := by decide +kernel
theorem dX7_item_0 : decode cX7_item 0 = .ok (.aload_n 0, 1) := by decide +kernel
theorem dX7_item_1 : decode cX7_item 1 = .ok (.iload_n 1, 1) := by decide +kernel
theorem dX7_item_2 : decode cX7_item 2 = .ok (.invokevirtual 271, 3) := by decide +kernel
theorem dX7_item_5 : decode cX7_item 5 = .ok (.ifCond .eq 12, 3) := by decide +kernel
theorem dX7_item_8 : decode cX7_item 8 = .ok (.iload_n 2, 1) := by decide +kernel
theorem dX7_item_9 : decode cX7_item 9 = .ok (.ifCond .lt 8, 3) := by decide +kernel
theorem dX7_item_12 : decode cX7_item 12 = .ok (.iload_n 2, 1) := by decide +kernel
theorem dX7_item_13 : decode cX7_item 13 = .ok (.iconst 2, 1) := by decide +kernel
theorem dX7_item_14 : decode cX7_item 14 = .ok (.if_icmp .le 5, 3) := by decide +kernel
theorem dX7_item_17 : decode cX7_item 17 = .ok (.iconst (-1), 1) := by decide +kernel
theorem dX7_item_18 : decode cX7_item 18 = .ok (.ireturn, 1) := by decide +kernel
theorem dX7_item_19 : decode cX7_item 19 = .ok (.iload_n 2, 1) := by decide +kernel
theorem dX7_item_20 : decode cX7_item 20 = .ok (.ifCond .ne 12, 3) := by decide +kernel
theorem dX7_item_23 : decode cX7_item 23 = .ok (.aload_n 0, 1) := by decide +kernel
theorem dX7_item_24 : decode cX7_item 24 = .ok (.getfield 22, 3) := by decide +kernel
theorem dX7_item_27 : decode cX7_item 27 = .ok (.iload_n 1, 1) := by decide +kernel
theorem dX7_item_28 : decode cX7_item 28 = .ok (.iaload, 1) := by decide +kernel
theorem dX7_item_29 : decode cX7_item 29 = .ok (.goto 23, 3) := by decide +kernel
theorem dX7_item_32 : decode cX7_item 32 = .ok (.iload_n 2, 1) := by decide +kernel
theorem dX7_item_33 : decode cX7_item 33 = .ok (.iconst 1, 1) := by decide +kernel
theorem dX7_item_34 : decode cX7_item 34 = .ok (.if_icmp .ne 12, 3) := by decide +kernel
theorem dX7_item_37 : decode cX7_item 37 = .ok (.aload_n 0, 1) := by decide +kernel
theorem dX7_item_38 : decode cX7_item 38 = .ok (.getfield 33, 3) := by decide +kernel
theorem dX7_item_41 : decode cX7_item 41 = .ok (.iload_n 1, 1) := by decide +kernel
theorem dX7_item_42 : decode cX7_item 42 = .ok (.iaload, 1) := by decide +kernel
theorem dX7_item_43 : decode cX7_item 43 = .ok (.goto 9, 3) := by decide +kernel
theorem dX7_item_46 : decode cX7_item 46 = .ok (.aload_n 0, 1) := by decide +kernel
theorem dX7_item_47 : decode cX7_item 47 = .ok (.getfield 36, 3) := by decide +kernel
theorem dX7_item_50 : decode cX7_item 50 = .ok (.iload_n 1, 1) := by decide +kernel
theorem dX7_item_51 : decode cX7_item 51 = .ok (.iaload, 1) := by decide +kernel
theorem dX7_item_52 : decode cX7_item 52 = .ok (.ireturn, 1) := by decide +kernel
theorem dX7_keep_0 : decode cX7_keep 0 = .ok (.iload_n 2, 1) := by decide +kernel
theorem dX7_keep_1 : decode cX7_keep 1 = .ok (.iload_n 1, 1) := by decide +kernel
theorem dX7_keep_2 : decode cX7_keep 2 = .ok (.ishr, 1) := by decide +kernel
theorem dX7_keep_3 : decode cX7_keep 3 = .ok (.iconst 1, 1) := by decide +kernel
theorem dX7_keep_4 : decode cX7_keep 4 = .ok (.iand, 1) := by decide +kernel
theorem dX7_keep_5 : decode cX7_keep 5 = .ok (.iconst 1, 1) := by decide +kernel
theorem dX7_keep_6 : decode cX7_keep 6 = .ok (.if_icmp .ne 80, 3) := by decide +kernel
theorem dX7_keep_9 : decode cX7_keep 9 = .ok (.aload_n 0, 1) := by decide +kernel
theorem dX7_keep_10 : decode cX7_keep 10 = .ok (.getfield 33, 3) := by decide +kernel
theorem dX7_keep_13 : decode cX7_keep 13 = .ok (.iload_n 3, 1) := by decide +kernel
theorem dX7_keep_14 : decode cX7_keep 14 = .ok (.iaload, 1) := by decide +kernel
theorem dX7_keep_15 : decode cX7_keep 15 = .ok (.iconst 1, 1) := by decide +kernel
theorem dX7_keep_16 : decode cX7_keep 16 = .ok (.if_icmp .lt 70, 3) := by decide +kernel
theorem dX7_keep_19 : decode cX7_keep 19 = .ok (.aload_n 0, 1) := by decide +kernel
theorem dX7_keep_20 : decode cX7_keep 20 = .ok (.getfield 33, 3) := by decide +kernel
theorem dX7_keep_23 : decode cX7_keep 23 = .ok (.iload_n 3, 1) := by decide +kernel
theorem dX7_keep_24 : decode cX7_keep 24 = .ok (.iaload, 1) := by decide +kernel
theorem dX7_keep_25 : decode cX7_keep 25 = .ok (.bipush 64, 2) := by decide +kernel
theorem dX7_keep_27 : decode cX7_keep 27 = .ok (.if_icmp .gt 59, 3) := by decide +kernel
theorem dX7_keep_30 : decode cX7_keep 30 = .ok (.aload_n 0, 1) := by decide +kernel
theorem dX7_keep_31 : decode cX7_keep 31 = .ok (.getfield 61, 3) := by decide +kernel
theorem dX7_keep_34 : decode cX7_keep 34 = .ok (.iload_n 1, 1) := by decide +kernel
theorem dX7_keep_35 : decode cX7_keep 35 = .ok (.aload_n 0, 1) := by decide +kernel
theorem dX7_keep_36 : decode cX7_keep 36 = .ok (.getfield 61, 3) := by decide +kernel
theorem dX7_keep_39 : decode cX7_keep 39 = .ok (.iload_n 1, 1) := by decide +kernel
theorem dX7_keep_40 : decode cX7_keep 40 = .ok (.iaload, 1) := by decide +kernel
theorem dX7_keep_41 : decode cX7_keep 41 = .ok (.sipush 1024, 3) := by decide +kernel
theorem dX7_keep_44 : decode cX7_keep 44 = .ok (.if_icmp .ne 7, 3) := by decide +kernel
theorem dX7_keep_47 : decode cX7_keep 47 = .ok (.iconst 0, 1) := by decide +kernel
theorem dX7_keep_48 : decode cX7_keep 48 = .ok (.goto 9, 3) := by decide +kernel
theorem dX7_keep_51 : decode cX7_keep 51 = .ok (.aload_n 0, 1) := by decide +kernel
theorem dX7_keep_52 : decode cX7_keep 52 = .ok (.getfield 61, 3) := by decide +kernel
theorem dX7_keep_55 : decode cX7_keep 55 = .ok (.iload_n 1, 1) := by decide +kernel
theorem dX7_keep_56 : decode cX7_keep 56 = .ok (.iaload, 1) := by decide +kernel
theorem dX7_keep_57 : decode cX7_keep 57 = .ok (.iastore, 1) := by decide +kernel
theorem dX7_keep_58 : decode cX7_keep 58 = .ok (.aload_n 0, 1) := by decide +kernel
theorem dX7_keep_59 : decode cX7_keep 59 = .ok (.getfield 58, 3) := by decide +kernel
theorem dX7_keep_62 : decode cX7_keep 62 = .ok (.sipush 1024, 3) := by decide +kernel
theorem dX7_keep_65 : decode cX7_keep 65 = .ok (.iload_n 1, 1) := by decide +kernel
theorem dX7_keep_66 : decode cX7_keep 66 = .ok (.imul, 1) := by decide +kernel
theorem dX7_keep_67 : decode cX7_keep 67 = .ok (.aload_n 0, 1) := by decide +kernel
theorem dX7_keep_68 : decode cX7_keep 68 = .ok (.getfield 61, 3) := by decide +kernel
theorem dX7_keep_71 : decode cX7_keep 71 = .ok (.iload_n 1, 1) := by decide +kernel
theorem dX7_keep_72 : decode cX7_keep 72 = .ok (.iaload, 1) := by decide +kernel
theorem dX7_keep_73 : decode cX7_keep 73 = .ok (.iadd, 1) := by decide +kernel
theorem dX7_keep_74 : decode cX7_keep 74 = .ok (.iload_n 3, 1) := by decide +kernel
theorem dX7_keep_75 : decode cX7_keep 75 = .ok (.iastore, 1) := by decide +kernel
theorem dX7_keep_76 : decode cX7_keep 76 = .ok (.aload_n 0, 1) := by decide +kernel
theorem dX7_keep_77 : decode cX7_keep 77 = .ok (.getfield 61, 3) := by decide +kernel
theorem dX7_keep_80 : decode cX7_keep 80 = .ok (.iload_n 1, 1) := by decide +kernel
theorem dX7_keep_81 : decode cX7_keep 81 = .ok (.dup2, 1) := by decide +kernel
theorem dX7_keep_82 : decode cX7_keep 82 = .ok (.iaload, 1) := by decide +kernel
theorem dX7_keep_83 : decode cX7_keep 83 = .ok (.iconst 1, 1) := by decide +kernel
theorem dX7_keep_84 : decode cX7_keep 84 = .ok (.iadd, 1) := by decide +kernel
theorem dX7_keep_85 : decode cX7_keep 85 = .ok (.iastore, 1) := by decide +kernel
theorem dX7_keep_86 : decode cX7_keep 86 = .ok (.return_, 1) := by decide +kernel
theorem dX7_load_0 : decode cX7_load 0 = .ok (.iload_n 3, 1) := by decide +kernel
theorem dX7_load_1 : decode cX7_load 1 = .ok (.iconst 1, 1) := by decide +kernel
theorem dX7_load_2 : decode cX7_load 2 = .ok (.if_icmp .lt 21, 3) := by decide +kernel
theorem dX7_load_5 : decode cX7_load 5 = .ok (.iload_n 3, 1) := by decide +kernel
theorem dX7_load_6 : decode cX7_load 6 = .ok (.bipush 8, 2) := by decide +kernel
theorem dX7_load_8 : decode cX7_load 8 = .ok (.if_icmp .gt 15, 3) := by decide +kernel
theorem dX7_load_11 : decode cX7_load 11 = .ok (.aload_n 0, 1) := by decide +kernel
theorem dX7_load_12 : decode cX7_load 12 = .ok (.getfield 74, 3) := by decide +kernel
theorem dX7_load_15 : decode cX7_load 15 = .ok (.iload_n 3, 1) := by decide +kernel
theorem dX7_load_16 : decode cX7_load 16 = .ok (.iadd, 1) := by decide +kernel
theorem dX7_load_17 : decode cX7_load 17 = .ok (.sipush 6000, 3) := by decide +kernel
theorem dX7_load_20 : decode cX7_load 20 = .ok (.if_icmp .le 5, 3) := by decide +kernel
theorem dX7_load_23 : decode cX7_load 23 = .ok (.iconst (-1), 1) := by decide +kernel
theorem dX7_load_24 : decode cX7_load 24 = .ok (.ireturn, 1) := by decide +kernel
theorem dX7_load_25 : decode cX7_load 25 = .ok (.iload_n 3, 1) := by decide +kernel
theorem dX7_load_26 : decode cX7_load 26 = .ok (.iconst 1, 1) := by decide +kernel
theorem dX7_load_27 : decode cX7_load 27 = .ok (.isub, 1) := by decide +kernel
theorem dX7_load_28 : decode cX7_load 28 = .ok (.istore 4, 2) := by decide +kernel
theorem dX7_load_30 : decode cX7_load 30 = .ok (.iload 4, 2) := by decide +kernel
theorem dX7_load_32 : decode cX7_load 32 = .ok (.ifCond .lt 37, 3) := by decide +kernel
theorem dX7_load_35 : decode cX7_load 35 = .ok (.aload_n 0, 1) := by decide +kernel
theorem dX7_load_36 : decode cX7_load 36 = .ok (.getfield 13, 3) := by decide +kernel
theorem dX7_load_39 : decode cX7_load 39 = .ok (.aload_n 0, 1) := by decide +kernel
theorem dX7_load_40 : decode cX7_load 40 = .ok (.getfield 74, 3) := by decide +kernel
theorem dX7_load_43 : decode cX7_load 43 = .ok (.lload_n 1, 1) := by decide +kernel
theorem dX7_load_44 : decode cX7_load 44 = .ok (.bipush 8, 2) := by decide +kernel
theorem dX7_load_46 : decode cX7_load 46 = .ok (.iload 4, 2) := by decide +kernel
theorem dX7_load_48 : decode cX7_load 48 = .ok (.imul, 1) := by decide +kernel
theorem dX7_load_49 : decode cX7_load 49 = .ok (.lshr, 1) := by decide +kernel
theorem dX7_load_50 : decode cX7_load 50 = .ok (.l2i, 1) := by decide +kernel
theorem dX7_load_51 : decode cX7_load 51 = .ok (.i2b, 1) := by decide +kernel
theorem dX7_load_52 : decode cX7_load 52 = .ok (.bastore, 1) := by decide +kernel
theorem dX7_load_53 : decode cX7_load 53 = .ok (.aload_n 0, 1) := by decide +kernel
theorem dX7_load_54 : decode cX7_load 54 = .ok (.dup, 1) := by decide +kernel
theorem dX7_load_55 : decode cX7_load 55 = .ok (.getfield 74, 3) := by decide +kernel
theorem dX7_load_58 : decode cX7_load 58 = .ok (.iconst 1, 1) := by decide +kernel
theorem dX7_load_59 : decode cX7_load 59 = .ok (.iadd, 1) := by decide +kernel
theorem dX7_load_60 : decode cX7_load 60 = .ok (.putfield 74, 3) := by decide +kernel
theorem dX7_load_63 : decode cX7_load 63 = .ok (.iinc 4 (-1), 3) := by decide +kernel
theorem dX7_load_66 : decode cX7_load 66 = .ok (.goto (-36), 3) := by decide +kernel
theorem dX7_load_69 : decode cX7_load 69 = .ok (.aload_n 0, 1) := by decide +kernel
theorem dX7_load_70 : decode cX7_load 70 = .ok (.getfield 74, 3) := by decide +kernel
theorem dX7_load_73 : decode cX7_load 73 = .ok (.ireturn, 1) := by decide +kernel
theorem dX7_loop_0 : decode cX7_loop 0 = .ok (.aload_n 0, 1) := by decide +kernel
theorem dX7_loop_1 : decode cX7_loop 1 = .ok (.aload_n 0, 1) := by decide +kernel
theorem dX7_loop_2 : decode cX7_loop 2 = .ok (.getfield 187, 3) := by decide +kernel
theorem dX7_loop_5 : decode cX7_loop 5 = .ok (.putfield 74, 3) := by decide +kernel
theorem dX7_loop_8 : decode cX7_loop 8 = .ok (.iconst 0, 1) := by decide +kernel
theorem dX7_loop_9 : decode cX7_loop 9 = .ok (.istore_n 1, 1) := by decide +kernel
theorem dX7_loop_10 : decode cX7_loop 10 = .ok (.iload_n 1, 1) := by decide +kernel
theorem dX7_loop_11 : decode cX7_loop 11 = .ok (.aload_n 0, 1) := by decide +kernel
theorem dX7_loop_12 : decode cX7_loop 12 = .ok (.getfield 187, 3) := by decide +kernel
theorem dX7_loop_15 : decode cX7_loop 15 = .ok (.if_icmp .ge 21, 3) := by decide +kernel
theorem dX7_loop_18 : decode cX7_loop 18 = .ok (.aload_n 0, 1) := by decide +kernel
theorem dX7_loop_19 : decode cX7_loop 19 = .ok (.getfield 13, 3) := by decide +kernel
theorem dX7_loop_22 : decode cX7_loop 22 = .ok (.iload_n 1, 1) := by decide +kernel
theorem dX7_loop_23 : decode cX7_loop 23 = .ok (.aload_n 0, 1) := by decide +kernel
theorem dX7_loop_24 : decode cX7_loop 24 = .ok (.getfield 16, 3) := by decide +kernel
theorem dX7_loop_27 : decode cX7_loop 27 = .ok (.iload_n 1, 1) := by decide +kernel
theorem dX7_loop_28 : decode cX7_loop 28 = .ok (.baload, 1) := by decide +kernel
theorem dX7_loop_29 : decode cX7_loop 29 = .ok (.bastore, 1) := by decide +kernel
theorem dX7_loop_30 : decode cX7_loop 30 = .ok (.iinc 1 1, 3) := by decide +kernel
theorem dX7_loop_33 : decode cX7_loop 33 = .ok (.goto (-23), 3) := by decide +kernel
theorem dX7_loop_36 : decode cX7_loop 36 = .ok (.aload_n 0, 1) := by decide +kernel
theorem dX7_loop_37 : decode cX7_loop 37 = .ok (.getfield 74, 3) := by decide +kernel
theorem dX7_loop_40 : decode cX7_loop 40 = .ok (.ireturn, 1) := by decide +kernel
theorem dX7_mayBe_0 : decode cX7_mayBe 0 = .ok (.aload_n 0, 1) := by decide +kernel
theorem dX7_mayBe_1 : decode cX7_mayBe 1 = .ok (.getfield 42, 3) := by decide +kernel
theorem dX7_mayBe_4 : decode cX7_mayBe 4 = .ok (.iload_n 1, 1) := by decide +kernel
theorem dX7_mayBe_5 : decode cX7_mayBe 5 = .ok (.iaload, 1) := by decide +kernel
theorem dX7_mayBe_6 : decode cX7_mayBe 6 = .ok (.sipush 1500, 3) := by decide +kernel
theorem dX7_mayBe_9 : decode cX7_mayBe 9 = .ok (.if_icmp .ge 36, 3) := by decide +kernel
theorem dX7_mayBe_12 : decode cX7_mayBe 12 = .ok (.aload_n 0, 1) := by decide +kernel
theorem dX7_mayBe_13 : decode cX7_mayBe 13 = .ok (.getfield 45, 3) := by decide +kernel
theorem dX7_mayBe_16 : decode cX7_mayBe 16 = .ok (.iload_n 1, 1) := by decide +kernel
theorem dX7_mayBe_17 : decode cX7_mayBe 17 = .ok (.iaload, 1) := by decide +kernel
theorem dX7_mayBe_18 : decode cX7_mayBe 18 = .ok (.iload_n 2, 1) := by decide +kernel
theorem dX7_mayBe_19 : decode cX7_mayBe 19 = .ok (.iadd, 1) := by decide +kernel
theorem dX7_mayBe_20 : decode cX7_mayBe 20 = .ok (.sipush 5000, 3) := by decide +kernel
theorem dX7_mayBe_23 : decode cX7_mayBe 23 = .ok (.if_icmp .gt 22, 3) := by decide +kernel
theorem dX7_mayBe_26 : decode cX7_mayBe 26 = .ok (.iload_n 3, 1) := by decide +kernel
theorem dX7_mayBe_27 : decode cX7_mayBe 27 = .ok (.ifCond .eq 14, 3) := by decide +kernel
theorem dX7_mayBe_30 : decode cX7_mayBe 30 = .ok (.aload_n 0, 1) := by decide +kernel
theorem dX7_mayBe_31 : decode cX7_mayBe 31 = .ok (.getfield 55, 3) := by decide +kernel
theorem dX7_mayBe_34 : decode cX7_mayBe 34 = .ok (.iload_n 1, 1) := by decide +kernel
theorem dX7_mayBe_35 : decode cX7_mayBe 35 = .ok (.iaload, 1) := by decide +kernel
theorem dX7_mayBe_36 : decode cX7_mayBe 36 = .ok (.bipush 30, 2) := by decide +kernel
theorem dX7_mayBe_38 : decode cX7_mayBe 38 = .ok (.if_icmp .ge 7, 3) := by decide +kernel
theorem dX7_mayBe_41 : decode cX7_mayBe 41 = .ok (.iconst 1, 1) := by decide +kernel
theorem dX7_mayBe_42 : decode cX7_mayBe 42 = .ok (.goto 4, 3) := by decide +kernel
theorem dX7_mayBe_45 : decode cX7_mayBe 45 = .ok (.iconst 0, 1) := by decide +kernel
theorem dX7_mayBe_46 : decode cX7_mayBe 46 = .ok (.ireturn, 1) := by decide +kernel
theorem dX7_name_0 : decode cX7_name 0 = .ok (.aload_n 0, 1) := by decide +kernel
theorem dX7_name_1 : decode cX7_name 1 = .ok (.iconst 0, 1) := by decide +kernel
theorem dX7_name_2 : decode cX7_name 2 = .ok (.invokevirtual 96, 3) := by decide +kernel
theorem dX7_name_5 : decode cX7_name 5 = .ok (.ifCond .eq 40, 3) := by decide +kernel
theorem dX7_name_8 : decode cX7_name 8 = .ok (.aload_n 0, 1) := by decide +kernel
theorem dX7_name_9 : decode cX7_name 9 = .ok (.iconst 0, 1) := by decide +kernel
theorem dX7_name_10 : decode cX7_name 10 = .ok (.aload_n 0, 1) := by decide +kernel
theorem dX7_name_11 : decode cX7_name 11 = .ok (.getfield 71, 3) := by decide +kernel
theorem dX7_name_14 : decode cX7_name 14 = .ok (.iconst 0, 1) := by decide +kernel
theorem dX7_name_15 : decode cX7_name 15 = .ok (.invokevirtual 103, 3) := by decide +kernel
theorem dX7_name_18 : decode cX7_name 18 = .ok (.ifCond .eq 27, 3) := by decide +kernel
theorem dX7_name_21 : decode cX7_name 21 = .ok (.aload_n 0, 1) := by decide +kernel
theorem dX7_name_22 : decode cX7_name 22 = .ok (.invokevirtual 107, 3) := by decide +kernel
theorem dX7_name_25 : decode cX7_name 25 = .ok (.ifCond .eq 20, 3) := by decide +kernel
theorem dX7_name_28 : decode cX7_name 28 = .ok (.aload_n 0, 1) := by decide +kernel
theorem dX7_name_29 : decode cX7_name 29 = .ok (.aload_n 0, 1) := by decide +kernel
theorem dX7_name_30 : decode cX7_name 30 = .ok (.getfield 45, 3) := by decide +kernel
theorem dX7_name_33 : decode cX7_name 33 = .ok (.iconst 0, 1) := by decide +kernel
theorem dX7_name_34 : decode cX7_name 34 = .ok (.iaload, 1) := by decide +kernel
theorem dX7_name_35 : decode cX7_name 35 = .ok (.aload_n 0, 1) := by decide +kernel
theorem dX7_name_36 : decode cX7_name 36 = .ok (.getfield 71, 3) := by decide +kernel
theorem dX7_name_39 : decode cX7_name 39 = .ok (.invokevirtual 110, 3) := by decide +kernel
theorem dX7_name_42 : decode cX7_name 42 = .ok (.ifCond .ne 5, 3) := by decide +kernel
theorem dX7_name_45 : decode cX7_name 45 = .ok (.iconst (-1), 1) := by decide +kernel
theorem dX7_name_46 : decode cX7_name 46 = .ok (.ireturn, 1) := by decide +kernel
theorem dX7_name_47 : decode cX7_name 47 = .ok (.aload_n 0, 1) := by decide +kernel
theorem dX7_name_48 : decode cX7_name 48 = .ok (.iconst 0, 1) := by decide +kernel
theorem dX7_name_49 : decode cX7_name 49 = .ok (.bipush 10, 2) := by decide +kernel
theorem dX7_name_51 : decode cX7_name 51 = .ok (.lconst 0, 1) := by decide +kernel
theorem dX7_name_52 : decode cX7_name 52 = .ok (.aload_n 0, 1) := by decide +kernel
theorem dX7_name_53 : decode cX7_name 53 = .ok (.getfield 71, 3) := by decide +kernel
theorem dX7_name_56 : decode cX7_name 56 = .ok (.invokevirtual 114, 3) := by decide +kernel
theorem dX7_name_59 : decode cX7_name 59 = .ok (.aload_n 0, 1) := by decide +kernel
theorem dX7_name_60 : decode cX7_name 60 = .ok (.iconst 0, 1) := by decide +kernel
theorem dX7_name_61 : decode cX7_name 61 = .ok (.putfield 71, 3) := by decide +kernel
theorem dX7_name_64 : decode cX7_name 64 = .ok (.aload_n 0, 1) := by decide +kernel
theorem dX7_name_65 : decode cX7_name 65 = .ok (.getfield 42, 3) := by decide +kernel
theorem dX7_name_68 : decode cX7_name 68 = .ok (.iconst 0, 1) := by decide +kernel
theorem dX7_name_69 : decode cX7_name 69 = .ok (.iaload, 1) := by decide +kernel
theorem dX7_name_70 : decode cX7_name 70 = .ok (.ireturn, 1) := by decide +kernel
theorem dX7_next_0 : decode cX7_next 0 = .ok (.aload_n 0, 1) := by decide +kernel
theorem dX7_next_1 : decode cX7_next 1 = .ok (.getfield 190, 3) := by decide +kernel
theorem dX7_next_4 : decode cX7_next 4 = .ok (.ifCond .le 5, 3) := by decide +kernel
theorem dX7_next_7 : decode cX7_next 7 = .ok (.iconst (-1), 1) := by decide +kernel
theorem dX7_next_8 : decode cX7_next 8 = .ok (.ireturn, 1) := by decide +kernel
theorem dX7_next_9 : decode cX7_next 9 = .ok (.aload_n 0, 1) := by decide +kernel
theorem dX7_next_10 : decode cX7_next 10 = .ok (.getfield 193, 3) := by decide +kernel
theorem dX7_next_13 : decode cX7_next 13 = .ok (.aload_n 0, 1) := by decide +kernel
theorem dX7_next_14 : decode cX7_next 14 = .ok (.getfield 74, 3) := by decide +kernel
theorem dX7_next_17 : decode cX7_next 17 = .ok (.if_icmp .ne 14, 3) := by decide +kernel
theorem dX7_next_20 : decode cX7_next 20 = .ok (.aload_n 0, 1) := by decide +kernel
theorem dX7_next_21 : decode cX7_next 21 = .ok (.iconst 2, 1) := by decide +kernel
theorem dX7_next_22 : decode cX7_next 22 = .ok (.aload_n 0, 1) := by decide +kernel
theorem dX7_next_23 : decode cX7_next 23 = .ok (.getfield 193, 3) := by decide +kernel
theorem dX7_next_26 : decode cX7_next 26 = .ok (.invokevirtual 196, 3) := by decide +kernel
theorem dX7_next_29 : decode cX7_next 29 = .ok (.iconst (-1), 1) := by decide +kernel
theorem dX7_next_30 : decode cX7_next 30 = .ok (.ireturn, 1) := by decide +kernel
theorem dX7_next_31 : decode cX7_next 31 = .ok (.aload_n 0, 1) := by decide +kernel
theorem dX7_next_32 : decode cX7_next 32 = .ok (.dup, 1) := by decide +kernel
theorem dX7_next_33 : decode cX7_next 33 = .ok (.getfield 193, 3) := by decide +kernel
theorem dX7_next_36 : decode cX7_next 36 = .ok (.iconst 1, 1) := by decide +kernel
theorem dX7_next_37 : decode cX7_next 37 = .ok (.iadd, 1) := by decide +kernel
theorem dX7_next_38 : decode cX7_next 38 = .ok (.putfield 193, 3) := by decide +kernel
theorem dX7_next_41 : decode cX7_next 41 = .ok (.aload_n 0, 1) := by decide +kernel
theorem dX7_next_42 : decode cX7_next 42 = .ok (.getfield 13, 3) := by decide +kernel
theorem dX7_next_45 : decode cX7_next 45 = .ok (.aload_n 0, 1) := by decide +kernel
theorem dX7_next_46 : decode cX7_next 46 = .ok (.getfield 193, 3) := by decide +kernel
theorem dX7_next_49 : decode cX7_next 49 = .ok (.iconst 1, 1) := by decide +kernel
theorem dX7_next_50 : decode cX7_next 50 = .ok (.isub, 1) := by decide +kernel
theorem dX7_next_51 : decode cX7_next 51 = .ok (.baload, 1) := by decide +kernel
theorem dX7_next_52 : decode cX7_next 52 = .ok (.sipush 255, 3) := by decide +kernel
theorem dX7_next_55 : decode cX7_next 55 = .ok (.iand, 1) := by decide +kernel
theorem dX7_next_56 : decode cX7_next 56 = .ok (.ireturn, 1) := by decide +kernel
theorem dX7_number_0 : decode cX7_number 0 = .ok (.aload_n 0, 1) := by decide +kernel
theorem dX7_number_1 : decode cX7_number 1 = .ok (.iload_n 1, 1) := by decide +kernel
theorem dX7_number_2 : decode cX7_number 2 = .ok (.invokevirtual 271, 3) := by decide +kernel
theorem dX7_number_5 : decode cX7_number 5 = .ok (.ifCond .eq 12, 3) := by decide +kernel
theorem dX7_number_8 : decode cX7_number 8 = .ok (.aload_n 0, 1) := by decide +kernel
theorem dX7_number_9 : decode cX7_number 9 = .ok (.getfield 26, 3) := by decide +kernel
theorem dX7_number_12 : decode cX7_number 12 = .ok (.iload_n 1, 1) := by decide +kernel
theorem dX7_number_13 : decode cX7_number 13 = .ok (.laload, 1) := by decide +kernel
theorem dX7_number_14 : decode cX7_number 14 = .ok (.goto 4, 3) := by decide +kernel
theorem dX7_number_17 : decode cX7_number 17 = .ok (.lconst 0, 1) := by decide +kernel
theorem dX7_number_18 : decode cX7_number 18 = .ok (.lreturn, 1) := by decide +kernel
theorem dX7_offer_0 : decode cX7_offer 0 = .ok (.aload_n 0, 1) := by decide +kernel
theorem dX7_offer_1 : decode cX7_offer 1 = .ok (.getfield 45, 3) := by decide +kernel
theorem dX7_offer_4 : decode cX7_offer 4 = .ok (.iconst 0, 1) := by decide +kernel
theorem dX7_offer_5 : decode cX7_offer 5 = .ok (.iaload, 1) := by decide +kernel
theorem dX7_offer_6 : decode cX7_offer 6 = .ok (.aload_n 0, 1) := by decide +kernel
theorem dX7_offer_7 : decode cX7_offer 7 = .ok (.getfield 71, 3) := by decide +kernel
theorem dX7_offer_10 : decode cX7_offer 10 = .ok (.iadd, 1) := by decide +kernel
theorem dX7_offer_11 : decode cX7_offer 11 = .ok (.sipush 5000, 3) := by decide +kernel
theorem dX7_offer_14 : decode cX7_offer 14 = .ok (.if_icmp .le 5, 3) := by decide +kernel
theorem dX7_offer_17 : decode cX7_offer 17 = .ok (.iconst 0, 1) := by decide +kernel
theorem dX7_offer_18 : decode cX7_offer 18 = .ok (.ireturn, 1) := by decide +kernel
theorem dX7_offer_19 : decode cX7_offer 19 = .ok (.iconst 0, 1) := by decide +kernel
theorem dX7_offer_20 : decode cX7_offer 20 = .ok (.istore_n 1, 1) := by decide +kernel
theorem dX7_offer_21 : decode cX7_offer 21 = .ok (.iload_n 1, 1) := by decide +kernel
theorem dX7_offer_22 : decode cX7_offer 22 = .ok (.aload_n 0, 1) := by decide +kernel
theorem dX7_offer_23 : decode cX7_offer 23 = .ok (.getfield 71, 3) := by decide +kernel
theorem dX7_offer_26 : decode cX7_offer 26 = .ok (.if_icmp .ge 28, 3) := by decide +kernel
theorem dX7_offer_29 : decode cX7_offer 29 = .ok (.aload_n 0, 1) := by decide +kernel
theorem dX7_offer_30 : decode cX7_offer 30 = .ok (.getfield 39, 3) := by decide +kernel
theorem dX7_offer_33 : decode cX7_offer 33 = .ok (.aload_n 0, 1) := by decide +kernel
theorem dX7_offer_34 : decode cX7_offer 34 = .ok (.getfield 45, 3) := by decide +kernel
theorem dX7_offer_37 : decode cX7_offer 37 = .ok (.iconst 0, 1) := by decide +kernel
theorem dX7_offer_38 : decode cX7_offer 38 = .ok (.iaload, 1) := by decide +kernel
theorem dX7_offer_39 : decode cX7_offer 39 = .ok (.iload_n 1, 1) := by decide +kernel
theorem dX7_offer_40 : decode cX7_offer 40 = .ok (.iadd, 1) := by decide +kernel
theorem dX7_offer_41 : decode cX7_offer 41 = .ok (.aload_n 0, 1) := by decide +kernel
theorem dX7_offer_42 : decode cX7_offer 42 = .ok (.getfield 7, 3) := by decide +kernel
theorem dX7_offer_45 : decode cX7_offer 45 = .ok (.iload_n 1, 1) := by decide +kernel
theorem dX7_offer_46 : decode cX7_offer 46 = .ok (.baload, 1) := by decide +kernel
theorem dX7_offer_47 : decode cX7_offer 47 = .ok (.bastore, 1) := by decide +kernel
theorem dX7_offer_48 : decode cX7_offer 48 = .ok (.iinc 1 1, 3) := by decide +kernel
theorem dX7_offer_51 : decode cX7_offer 51 = .ok (.goto (-30), 3) := by decide +kernel
theorem dX7_offer_54 : decode cX7_offer 54 = .ok (.iconst 1, 1) := by decide +kernel
theorem dX7_offer_55 : decode cX7_offer 55 = .ok (.ireturn, 1) := by decide +kernel
theorem dX7_place_0 : decode cX7_place 0 = .ok (.aload_n 0, 1) := by decide +kernel
theorem dX7_place_1 : decode cX7_place 1 = .ok (.getfield 64, 3) := by decide +kernel
theorem dX7_place_4 : decode cX7_place 4 = .ok (.ireturn, 1) := by decide +kernel
theorem dX7_put_0 : decode cX7_put 0 = .ok (.aload_n 0, 1) := by decide +kernel
theorem dX7_put_1 : decode cX7_put 1 = .ok (.getfield 127, 3) := by decide +kernel
theorem dX7_put_4 : decode cX7_put 4 = .ok (.sipush 6000, 3) := by decide +kernel
theorem dX7_put_7 : decode cX7_put 7 = .ok (.if_icmp .ge 14, 3) := by decide +kernel
theorem dX7_put_10 : decode cX7_put 10 = .ok (.aload_n 0, 1) := by decide +kernel
theorem dX7_put_11 : decode cX7_put 11 = .ok (.getfield 19, 3) := by decide +kernel
theorem dX7_put_14 : decode cX7_put 14 = .ok (.aload_n 0, 1) := by decide +kernel
theorem dX7_put_15 : decode cX7_put 15 = .ok (.getfield 127, 3) := by decide +kernel
theorem dX7_put_18 : decode cX7_put 18 = .ok (.iload_n 1, 1) := by decide +kernel
theorem dX7_put_19 : decode cX7_put 19 = .ok (.i2b, 1) := by decide +kernel
theorem dX7_put_20 : decode cX7_put 20 = .ok (.bastore, 1) := by decide +kernel
theorem dX7_put_21 : decode cX7_put 21 = .ok (.aload_n 0, 1) := by decide +kernel
theorem dX7_put_22 : decode cX7_put 22 = .ok (.dup, 1) := by decide +kernel
theorem dX7_put_23 : decode cX7_put 23 = .ok (.getfield 127, 3) := by decide +kernel
theorem dX7_put_26 : decode cX7_put 26 = .ok (.iconst 1, 1) := by decide +kernel
theorem dX7_put_27 : decode cX7_put 27 = .ok (.iadd, 1) := by decide +kernel
theorem dX7_put_28 : decode cX7_put 28 = .ok (.putfield 127, 3) := by decide +kernel
theorem dX7_put_31 : decode cX7_put 31 = .ok (.return_, 1) := by decide +kernel
theorem dX7_putBytes_0 : decode cX7_putBytes 0 = .ok (.iconst 0, 1) := by decide +kernel
theorem dX7_putBytes_1 : decode cX7_putBytes 1 = .ok (.istore_n 2, 1) := by decide +kernel
theorem dX7_putBytes_2 : decode cX7_putBytes 2 = .ok (.iload_n 2, 1) := by decide +kernel
theorem dX7_putBytes_3 : decode cX7_putBytes 3 = .ok (.aload_n 0, 1) := by decide +kernel
theorem dX7_putBytes_4 : decode cX7_putBytes 4 = .ok (.getfield 33, 3) := by decide +kernel
theorem dX7_putBytes_7 : decode cX7_putBytes 7 = .ok (.iload_n 1, 1) := by decide +kernel
theorem dX7_putBytes_8 : decode cX7_putBytes 8 = .ok (.iaload, 1) := by decide +kernel
theorem dX7_putBytes_9 : decode cX7_putBytes 9 = .ok (.if_icmp .ge 26, 3) := by decide +kernel
theorem dX7_putBytes_12 : decode cX7_putBytes 12 = .ok (.aload_n 0, 1) := by decide +kernel
theorem dX7_putBytes_13 : decode cX7_putBytes 13 = .ok (.aload_n 0, 1) := by decide +kernel
theorem dX7_putBytes_14 : decode cX7_putBytes 14 = .ok (.getfield 39, 3) := by decide +kernel
theorem dX7_putBytes_17 : decode cX7_putBytes 17 = .ok (.aload_n 0, 1) := by decide +kernel
theorem dX7_putBytes_18 : decode cX7_putBytes 18 = .ok (.getfield 30, 3) := by decide +kernel
theorem dX7_putBytes_21 : decode cX7_putBytes 21 = .ok (.iload_n 1, 1) := by decide +kernel
theorem dX7_putBytes_22 : decode cX7_putBytes 22 = .ok (.iaload, 1) := by decide +kernel
theorem dX7_putBytes_23 : decode cX7_putBytes 23 = .ok (.iload_n 2, 1) := by decide +kernel
theorem dX7_putBytes_24 : decode cX7_putBytes 24 = .ok (.iadd, 1) := by decide +kernel
theorem dX7_putBytes_25 : decode cX7_putBytes 25 = .ok (.baload, 1) := by decide +kernel
theorem dX7_putBytes_26 : decode cX7_putBytes 26 = .ok (.invokevirtual 130, 3) := by decide +kernel
theorem dX7_putBytes_29 : decode cX7_putBytes 29 = .ok (.iinc 2 1, 3) := by decide +kernel
theorem dX7_putBytes_32 : decode cX7_putBytes 32 = .ok (.goto (-30), 3) := by decide +kernel
theorem dX7_putBytes_35 : decode cX7_putBytes 35 = .ok (.return_, 1) := by decide +kernel
theorem dX7_putCount_0 : decode cX7_putCount 0 = .ok (.iconst 1, 1) := by decide +kernel
theorem dX7_putCount_1 : decode cX7_putCount 1 = .ok (.istore_n 3, 1) := by decide +kernel
theorem dX7_putCount_2 : decode cX7_putCount 2 = .ok (.lload_n 1, 1) := by decide +kernel
theorem dX7_putCount_3 : decode cX7_putCount 3 = .ok (.bipush 6, 2) := by decide +kernel
theorem dX7_putCount_5 : decode cX7_putCount 5 = .ok (.lushr, 1) := by decide +kernel
theorem dX7_putCount_6 : decode cX7_putCount 6 = .ok (.lstore 4, 2) := by decide +kernel
theorem dX7_putCount_8 : decode cX7_putCount 8 = .ok (.lload 4, 2) := by decide +kernel
theorem dX7_putCount_10 : decode cX7_putCount 10 = .ok (.lconst 0, 1) := by decide +kernel
theorem dX7_putCount_11 : decode cX7_putCount 11 = .ok (.lcmp, 1) := by decide +kernel
theorem dX7_putCount_12 : decode cX7_putCount 12 = .ok (.ifCond .eq 16, 3) := by decide +kernel
theorem dX7_putCount_15 : decode cX7_putCount 15 = .ok (.iinc 3 1, 3) := by decide +kernel
theorem dX7_putCount_18 : decode cX7_putCount 18 = .ok (.lload 4, 2) := by decide +kernel
theorem dX7_putCount_20 : decode cX7_putCount 20 = .ok (.bipush 7, 2) := by decide +kernel
theorem dX7_putCount_22 : decode cX7_putCount 22 = .ok (.lushr, 1) := by decide +kernel
theorem dX7_putCount_23 : decode cX7_putCount 23 = .ok (.lstore 4, 2) := by decide +kernel
theorem dX7_putCount_25 : decode cX7_putCount 25 = .ok (.goto (-17), 3) := by decide +kernel
theorem dX7_putCount_28 : decode cX7_putCount 28 = .ok (.iload_n 3, 1) := by decide +kernel
theorem dX7_putCount_29 : decode cX7_putCount 29 = .ok (.iconst 2, 1) := by decide +kernel
theorem dX7_putCount_30 : decode cX7_putCount 30 = .ok (.isub, 1) := by decide +kernel
theorem dX7_putCount_31 : decode cX7_putCount 31 = .ok (.istore 4, 2) := by decide +kernel
theorem dX7_putCount_33 : decode cX7_putCount 33 = .ok (.iload 4, 2) := by decide +kernel
theorem dX7_putCount_35 : decode cX7_putCount 35 = .ok (.ifCond .lt 28, 3) := by decide +kernel
theorem dX7_putCount_38 : decode cX7_putCount 38 = .ok (.aload_n 0, 1) := by decide +kernel
theorem dX7_putCount_39 : decode cX7_putCount 39 = .ok (.lload_n 1, 1) := by decide +kernel
theorem dX7_putCount_40 : decode cX7_putCount 40 = .ok (.bipush 6, 2) := by decide +kernel
theorem dX7_putCount_42 : decode cX7_putCount 42 = .ok (.bipush 7, 2) := by decide +kernel
theorem dX7_putCount_44 : decode cX7_putCount 44 = .ok (.iload 4, 2) := by decide +kernel
theorem dX7_putCount_46 : decode cX7_putCount 46 = .ok (.imul, 1) := by decide +kernel
theorem dX7_putCount_47 : decode cX7_putCount 47 = .ok (.iadd, 1) := by decide +kernel
theorem dX7_putCount_48 : decode cX7_putCount 48 = .ok (.lushr, 1) := by decide +kernel
theorem dX7_putCount_49 : decode cX7_putCount 49 = .ok (.ldc2_w 133, 3) := by decide +kernel
theorem dX7_putCount_52 : decode cX7_putCount 52 = .ok (.land, 1) := by decide +kernel
theorem dX7_putCount_53 : decode cX7_putCount 53 = .ok (.l2i, 1) := by decide +kernel
theorem dX7_putCount_54 : decode cX7_putCount 54 = .ok (.invokevirtual 130, 3) := by decide +kernel
theorem dX7_putCount_57 : decode cX7_putCount 57 = .ok (.iinc 4 (-1), 3) := by decide +kernel
theorem dX7_putCount_60 : decode cX7_putCount 60 = .ok (.goto (-27), 3) := by decide +kernel
theorem dX7_putCount_63 : decode cX7_putCount 63 = .ok (.aload_n 0, 1) := by decide +kernel
theorem dX7_putCount_64 : decode cX7_putCount 64 = .ok (.sipush 128, 3) := by decide +kernel
theorem dX7_putCount_67 : decode cX7_putCount 67 = .ok (.lload_n 1, 1) := by decide +kernel
theorem dX7_putCount_68 : decode cX7_putCount 68 = .ok (.ldc2_w 135, 3) := by decide +kernel
theorem dX7_putCount_71 : decode cX7_putCount 71 = .ok (.land, 1) := by decide +kernel
theorem dX7_putCount_72 : decode cX7_putCount 72 = .ok (.l2i, 1) := by decide +kernel
theorem dX7_putCount_73 : decode cX7_putCount 73 = .ok (.iadd, 1) := by decide +kernel
theorem dX7_putCount_74 : decode cX7_putCount 74 = .ok (.invokevirtual 130, 3) := by decide +kernel
theorem dX7_putCount_77 : decode cX7_putCount 77 = .ok (.return_, 1) := by decide +kernel
theorem dX7_putInteger_0 : decode cX7_putInteger 0 = .ok (.lload_n 1, 1) := by decide +kernel
theorem dX7_putInteger_1 : decode cX7_putInteger 1 = .ok (.lconst 0, 1) := by decide +kernel
theorem dX7_putInteger_2 : decode cX7_putInteger 2 = .ok (.lcmp, 1) := by decide +kernel
theorem dX7_putInteger_3 : decode cX7_putInteger 3 = .ok (.ifCond .lt 11, 3) := by decide +kernel
theorem dX7_putInteger_6 : decode cX7_putInteger 6 = .ok (.ldc2_w 137, 3) := by decide +kernel
theorem dX7_putInteger_9 : decode cX7_putInteger 9 = .ok (.lload_n 1, 1) := by decide +kernel
theorem dX7_putInteger_10 : decode cX7_putInteger 10 = .ok (.lmul, 1) := by decide +kernel
theorem dX7_putInteger_11 : decode cX7_putInteger 11 = .ok (.goto 10, 3) := by decide +kernel
theorem dX7_putInteger_14 : decode cX7_putInteger 14 = .ok (.ldc2_w 139, 3) := by decide +kernel
theorem dX7_putInteger_17 : decode cX7_putInteger 17 = .ok (.lload_n 1, 1) := by decide +kernel
theorem dX7_putInteger_18 : decode cX7_putInteger 18 = .ok (.lmul, 1) := by decide +kernel
theorem dX7_putInteger_19 : decode cX7_putInteger 19 = .ok (.lconst 1, 1) := by decide +kernel
theorem dX7_putInteger_20 : decode cX7_putInteger 20 = .ok (.lsub, 1) := by decide +kernel
theorem dX7_putInteger_21 : decode cX7_putInteger 21 = .ok (.lstore_n 3, 1) := by decide +kernel
theorem dX7_putInteger_22 : decode cX7_putInteger 22 = .ok (.lload_n 1, 1) := by decide +kernel
theorem dX7_putInteger_23 : decode cX7_putInteger 23 = .ok (.ldc2_w 141, 3) := by decide +kernel
theorem dX7_putInteger_26 : decode cX7_putInteger 26 = .ok (.lcmp, 1) := by decide +kernel
theorem dX7_putInteger_27 : decode cX7_putInteger 27 = .ok (.ifCond .lt 24, 3) := by decide +kernel
theorem dX7_putInteger_30 : decode cX7_putInteger 30 = .ok (.lload_n 1, 1) := by decide +kernel
theorem dX7_putInteger_31 : decode cX7_putInteger 31 = .ok (.ldc2_w 143, 3) := by decide +kernel
theorem dX7_putInteger_34 : decode cX7_putInteger 34 = .ok (.lcmp, 1) := by decide +kernel
theorem dX7_putInteger_35 : decode cX7_putInteger 35 = .ok (.ifCond .gt 16, 3) := by decide +kernel
theorem dX7_putInteger_38 : decode cX7_putInteger 38 = .ok (.aload_n 0, 1) := by decide +kernel
theorem dX7_putInteger_39 : decode cX7_putInteger 39 = .ok (.sipush 192, 3) := by decide +kernel
theorem dX7_putInteger_42 : decode cX7_putInteger 42 = .ok (.lload_n 3, 1) := by decide +kernel
theorem dX7_putInteger_43 : decode cX7_putInteger 43 = .ok (.l2i, 1) := by decide +kernel
theorem dX7_putInteger_44 : decode cX7_putInteger 44 = .ok (.iadd, 1) := by decide +kernel
theorem dX7_putInteger_45 : decode cX7_putInteger 45 = .ok (.invokevirtual 130, 3) := by decide +kernel
theorem dX7_putInteger_48 : decode cX7_putInteger 48 = .ok (.goto 35, 3) := by decide +kernel
theorem dX7_putInteger_51 : decode cX7_putInteger 51 = .ok (.aload_n 0, 1) := by decide +kernel
theorem dX7_putInteger_52 : decode cX7_putInteger 52 = .ok (.lload_n 1, 1) := by decide +kernel
theorem dX7_putInteger_53 : decode cX7_putInteger 53 = .ok (.ldc2_w 145, 3) := by decide +kernel
theorem dX7_putInteger_56 : decode cX7_putInteger 56 = .ok (.lcmp, 1) := by decide +kernel
theorem dX7_putInteger_57 : decode cX7_putInteger 57 = .ok (.ifCond .lt 16, 3) := by decide +kernel
theorem dX7_putInteger_60 : decode cX7_putInteger 60 = .ok (.lload_n 1, 1) := by decide +kernel
theorem dX7_putInteger_61 : decode cX7_putInteger 61 = .ok (.ldc2_w 147, 3) := by decide +kernel
theorem dX7_putInteger_64 : decode cX7_putInteger 64 = .ok (.lcmp, 1) := by decide +kernel
theorem dX7_putInteger_65 : decode cX7_putInteger 65 = .ok (.ifCond .gt 8, 3) := by decide +kernel
theorem dX7_putInteger_68 : decode cX7_putInteger 68 = .ok (.bipush 36, 2) := by decide +kernel
theorem dX7_putInteger_70 : decode cX7_putInteger 70 = .ok (.goto 5, 3) := by decide +kernel
theorem dX7_putInteger_73 : decode cX7_putInteger 73 = .ok (.bipush 37, 2) := by decide +kernel
theorem dX7_putInteger_75 : decode cX7_putInteger 75 = .ok (.invokevirtual 130, 3) := by decide +kernel
theorem dX7_putInteger_78 : decode cX7_putInteger 78 = .ok (.aload_n 0, 1) := by decide +kernel
theorem dX7_putInteger_79 : decode cX7_putInteger 79 = .ok (.lload_n 3, 1) := by decide +kernel
theorem dX7_putInteger_80 : decode cX7_putInteger 80 = .ok (.invokevirtual 149, 3) := by decide +kernel
theorem dX7_putInteger_83 : decode cX7_putInteger 83 = .ok (.return_, 1) := by decide +kernel
theorem dX7_putItem_0 : decode cX7_putItem 0 = .ok (.aload_n 0, 1) := by decide +kernel
theorem dX7_putItem_1 : decode cX7_putItem 1 = .ok (.getfield 22, 3) := by decide +kernel
theorem dX7_putItem_4 : decode cX7_putItem 4 = .ok (.iload_n 1, 1) := by decide +kernel
theorem dX7_putItem_5 : decode cX7_putItem 5 = .ok (.iaload, 1) := by decide +kernel
theorem dX7_putItem_6 : decode cX7_putItem 6 = .ok (.tableswitch 220 0 10 #[58, 58, 58, 74, 83, 137, 147, 157, 170, 190, 211], 58) := by decide +kernel
theorem dX7_putItem_64 : decode cX7_putItem 64 = .ok (.aload_n 0, 1) := by decide +kernel
theorem dX7_putItem_65 : decode cX7_putItem 65 = .ok (.bipush 33, 2) := by decide +kernel
theorem dX7_putItem_67 : decode cX7_putItem 67 = .ok (.aload_n 0, 1) := by decide +kernel
theorem dX7_putItem_68 : decode cX7_putItem 68 = .ok (.getfield 22, 3) := by decide +kernel
theorem dX7_putItem_71 : decode cX7_putItem 71 = .ok (.iload_n 1, 1) := by decide +kernel
theorem dX7_putItem_72 : decode cX7_putItem 72 = .ok (.iaload, 1) := by decide +kernel
theorem dX7_putItem_73 : decode cX7_putItem 73 = .ok (.iadd, 1) := by decide +kernel
theorem dX7_putItem_74 : decode cX7_putItem 74 = .ok (.invokevirtual 130, 3) := by decide +kernel
theorem dX7_putItem_77 : decode cX7_putItem 77 = .ok (.goto 166, 3) := by decide +kernel
theorem dX7_putItem_80 : decode cX7_putItem 80 = .ok (.aload_n 0, 1) := by decide +kernel
theorem dX7_putItem_81 : decode cX7_putItem 81 = .ok (.iload_n 1, 1) := by decide +kernel
theorem dX7_putItem_82 : decode cX7_putItem 82 = .ok (.iload_n 2, 1) := by decide +kernel
theorem dX7_putItem_83 : decode cX7_putItem 83 = .ok (.invokevirtual 166, 3) := by decide +kernel
theorem dX7_putItem_86 : decode cX7_putItem 86 = .ok (.goto 157, 3) := by decide +kernel
theorem dX7_putItem_89 : decode cX7_putItem 89 = .ok (.aload_n 0, 1) := by decide +kernel
theorem dX7_putItem_90 : decode cX7_putItem 90 = .ok (.iload_n 2, 1) := by decide +kernel
theorem dX7_putItem_91 : decode cX7_putItem 91 = .ok (.iconst 4, 1) := by decide +kernel
theorem dX7_putItem_92 : decode cX7_putItem 92 = .ok (.iand, 1) := by decide +kernel
theorem dX7_putItem_93 : decode cX7_putItem 93 = .ok (.iconst 4, 1) := by decide +kernel
theorem dX7_putItem_94 : decode cX7_putItem 94 = .ok (.if_icmp .ne 9, 3) := by decide +kernel
theorem dX7_putItem_97 : decode cX7_putItem 97 = .ok (.sipush 253, 3) := by decide +kernel
theorem dX7_putItem_100 : decode cX7_putItem 100 = .ok (.goto 6, 3) := by decide +kernel
theorem dX7_putItem_103 : decode cX7_putItem 103 = .ok (.sipush 232, 3) := by decide +kernel
theorem dX7_putItem_106 : decode cX7_putItem 106 = .ok (.invokevirtual 130, 3) := by decide +kernel
theorem dX7_putItem_109 : decode cX7_putItem 109 = .ok (.aload_n 0, 1) := by decide +kernel
theorem dX7_putItem_110 : decode cX7_putItem 110 = .ok (.aload_n 0, 1) := by decide +kernel
theorem dX7_putItem_111 : decode cX7_putItem 111 = .ok (.getfield 33, 3) := by decide +kernel
theorem dX7_putItem_114 : decode cX7_putItem 114 = .ok (.iload_n 1, 1) := by decide +kernel
theorem dX7_putItem_115 : decode cX7_putItem 115 = .ok (.iaload, 1) := by decide +kernel
theorem dX7_putItem_116 : decode cX7_putItem 116 = .ok (.i2l, 1) := by decide +kernel
theorem dX7_putItem_117 : decode cX7_putItem 117 = .ok (.invokevirtual 149, 3) := by decide +kernel
theorem dX7_putItem_120 : decode cX7_putItem 120 = .ok (.iload_n 2, 1) := by decide +kernel
theorem dX7_putItem_121 : decode cX7_putItem 121 = .ok (.iconst 4, 1) := by decide +kernel
theorem dX7_putItem_122 : decode cX7_putItem 122 = .ok (.iand, 1) := by decide +kernel
theorem dX7_putItem_123 : decode cX7_putItem 123 = .ok (.iconst 4, 1) := by decide +kernel
theorem dX7_putItem_124 : decode cX7_putItem 124 = .ok (.if_icmp .ne 11, 3) := by decide +kernel
theorem dX7_putItem_127 : decode cX7_putItem 127 = .ok (.aload_n 0, 1) := by decide +kernel
theorem dX7_putItem_128 : decode cX7_putItem 128 = .ok (.iload_n 1, 1) := by decide +kernel
theorem dX7_putItem_129 : decode cX7_putItem 129 = .ok (.invokevirtual 159, 3) := by decide +kernel
theorem dX7_putItem_132 : decode cX7_putItem 132 = .ok (.goto 111, 3) := by decide +kernel
theorem dX7_putItem_135 : decode cX7_putItem 135 = .ok (.aload_n 0, 1) := by decide +kernel
theorem dX7_putItem_136 : decode cX7_putItem 136 = .ok (.iload_n 1, 1) := by decide +kernel
theorem dX7_putItem_137 : decode cX7_putItem 137 = .ok (.invokevirtual 170, 3) := by decide +kernel
theorem dX7_putItem_140 : decode cX7_putItem 140 = .ok (.goto 103, 3) := by decide +kernel
theorem dX7_putItem_143 : decode cX7_putItem 143 = .ok (.aload_n 0, 1) := by decide +kernel
theorem dX7_putItem_144 : decode cX7_putItem 144 = .ok (.sipush 248, 3) := by decide +kernel
theorem dX7_putItem_147 : decode cX7_putItem 147 = .ok (.invokevirtual 130, 3) := by decide +kernel
theorem dX7_putItem_150 : decode cX7_putItem 150 = .ok (.goto 93, 3) := by decide +kernel
theorem dX7_putItem_153 : decode cX7_putItem 153 = .ok (.aload_n 0, 1) := by decide +kernel
theorem dX7_putItem_154 : decode cX7_putItem 154 = .ok (.sipush 250, 3) := by decide +kernel
theorem dX7_putItem_157 : decode cX7_putItem 157 = .ok (.invokevirtual 130, 3) := by decide +kernel
theorem dX7_putItem_160 : decode cX7_putItem 160 = .ok (.goto 83, 3) := by decide +kernel
theorem dX7_putItem_163 : decode cX7_putItem 163 = .ok (.aload_n 0, 1) := by decide +kernel
theorem dX7_putItem_164 : decode cX7_putItem 164 = .ok (.aload_n 0, 1) := by decide +kernel
theorem dX7_putItem_165 : decode cX7_putItem 165 = .ok (.getfield 26, 3) := by decide +kernel
theorem dX7_putItem_168 : decode cX7_putItem 168 = .ok (.iload_n 1, 1) := by decide +kernel
theorem dX7_putItem_169 : decode cX7_putItem 169 = .ok (.laload, 1) := by decide +kernel
theorem dX7_putItem_170 : decode cX7_putItem 170 = .ok (.invokevirtual 173, 3) := by decide +kernel
theorem dX7_putItem_173 : decode cX7_putItem 173 = .ok (.goto 70, 3) := by decide +kernel
theorem dX7_putItem_176 : decode cX7_putItem 176 = .ok (.aload_n 0, 1) := by decide +kernel
theorem dX7_putItem_177 : decode cX7_putItem 177 = .ok (.bipush 40, 2) := by decide +kernel
theorem dX7_putItem_179 : decode cX7_putItem 179 = .ok (.invokevirtual 130, 3) := by decide +kernel
theorem dX7_putItem_182 : decode cX7_putItem 182 = .ok (.aload_n 0, 1) := by decide +kernel
theorem dX7_putItem_183 : decode cX7_putItem 183 = .ok (.aload_n 0, 1) := by decide +kernel
theorem dX7_putItem_184 : decode cX7_putItem 184 = .ok (.getfield 26, 3) := by decide +kernel
theorem dX7_putItem_187 : decode cX7_putItem 187 = .ok (.iload_n 1, 1) := by decide +kernel
theorem dX7_putItem_188 : decode cX7_putItem 188 = .ok (.laload, 1) := by decide +kernel
theorem dX7_putItem_189 : decode cX7_putItem 189 = .ok (.iconst 5, 1) := by decide +kernel
theorem dX7_putItem_190 : decode cX7_putItem 190 = .ok (.invokevirtual 176, 3) := by decide +kernel
theorem dX7_putItem_193 : decode cX7_putItem 193 = .ok (.goto 50, 3) := by decide +kernel
theorem dX7_putItem_196 : decode cX7_putItem 196 = .ok (.aload_n 0, 1) := by decide +kernel
theorem dX7_putItem_197 : decode cX7_putItem 197 = .ok (.bipush 41, 2) := by decide +kernel
theorem dX7_putItem_199 : decode cX7_putItem 199 = .ok (.invokevirtual 130, 3) := by decide +kernel
theorem dX7_putItem_202 : decode cX7_putItem 202 = .ok (.aload_n 0, 1) := by decide +kernel
theorem dX7_putItem_203 : decode cX7_putItem 203 = .ok (.aload_n 0, 1) := by decide +kernel
theorem dX7_putItem_204 : decode cX7_putItem 204 = .ok (.getfield 26, 3) := by decide +kernel
theorem dX7_putItem_207 : decode cX7_putItem 207 = .ok (.iload_n 1, 1) := by decide +kernel
theorem dX7_putItem_208 : decode cX7_putItem 208 = .ok (.laload, 1) := by decide +kernel
theorem dX7_putItem_209 : decode cX7_putItem 209 = .ok (.bipush 10, 2) := by decide +kernel
theorem dX7_putItem_211 : decode cX7_putItem 211 = .ok (.invokevirtual 176, 3) := by decide +kernel
theorem dX7_putItem_214 : decode cX7_putItem 214 = .ok (.goto 29, 3) := by decide +kernel
theorem dX7_putItem_217 : decode cX7_putItem 217 = .ok (.aload_n 0, 1) := by decide +kernel
theorem dX7_putItem_218 : decode cX7_putItem 218 = .ok (.iload_n 1, 1) := by decide +kernel
theorem dX7_putItem_219 : decode cX7_putItem 219 = .ok (.iload_n 2, 1) := by decide +kernel
theorem dX7_putItem_220 : decode cX7_putItem 220 = .ok (.invokevirtual 180, 3) := by decide +kernel
theorem dX7_putItem_223 : decode cX7_putItem 223 = .ok (.goto 20, 3) := by decide +kernel
theorem dX7_putItem_226 : decode cX7_putItem 226 = .ok (.aload_n 0, 1) := by decide +kernel
theorem dX7_putItem_227 : decode cX7_putItem 227 = .ok (.iload_n 3, 1) := by decide +kernel
theorem dX7_putItem_228 : decode cX7_putItem 228 = .ok (.ifCond .eq 9, 3) := by decide +kernel
theorem dX7_putItem_231 : decode cX7_putItem 231 = .ok (.sipush 251, 3) := by decide +kernel
theorem dX7_putItem_234 : decode cX7_putItem 234 = .ok (.goto 6, 3) := by decide +kernel
theorem dX7_putItem_237 : decode cX7_putItem 237 = .ok (.sipush 249, 3) := by decide +kernel
theorem dX7_putItem_240 : decode cX7_putItem 240 = .ok (.invokevirtual 130, 3) := by decide +kernel
theorem dX7_putItem_243 : decode cX7_putItem 243 = .ok (.return_, 1) := by decide +kernel
theorem dX7_putName_0 : decode cX7_putName 0 = .ok (.aload_n 0, 1) := by decide +kernel
theorem dX7_putName_1 : decode cX7_putName 1 = .ok (.getfield 33, 3) := by decide +kernel
theorem dX7_putName_4 : decode cX7_putName 4 = .ok (.iload_n 1, 1) := by decide +kernel
theorem dX7_putName_5 : decode cX7_putName 5 = .ok (.iaload, 1) := by decide +kernel
theorem dX7_putName_6 : decode cX7_putName 6 = .ok (.istore_n 3, 1) := by decide +kernel
theorem dX7_putName_7 : decode cX7_putName 7 = .ok (.iload_n 2, 1) := by decide +kernel
theorem dX7_putName_8 : decode cX7_putName 8 = .ok (.iconst 1, 1) := by decide +kernel
theorem dX7_putName_9 : decode cX7_putName 9 = .ok (.iand, 1) := by decide +kernel
theorem dX7_putName_10 : decode cX7_putName 10 = .ok (.iconst 1, 1) := by decide +kernel
theorem dX7_putName_11 : decode cX7_putName 11 = .ok (.if_icmp .ne 23, 3) := by decide +kernel
theorem dX7_putName_14 : decode cX7_putName 14 = .ok (.iload_n 3, 1) := by decide +kernel
theorem dX7_putName_15 : decode cX7_putName 15 = .ok (.iconst 1, 1) := by decide +kernel
theorem dX7_putName_16 : decode cX7_putName 16 = .ok (.if_icmp .lt 18, 3) := by decide +kernel
theorem dX7_putName_19 : decode cX7_putName 19 = .ok (.iload_n 3, 1) := by decide +kernel
theorem dX7_putName_20 : decode cX7_putName 20 = .ok (.bipush 64, 2) := by decide +kernel
theorem dX7_putName_22 : decode cX7_putName 22 = .ok (.if_icmp .gt 12, 3) := by decide +kernel
theorem dX7_putName_25 : decode cX7_putName 25 = .ok (.aload_n 0, 1) := by decide +kernel
theorem dX7_putName_26 : decode cX7_putName 26 = .ok (.iconst 0, 1) := by decide +kernel
theorem dX7_putName_27 : decode cX7_putName 27 = .ok (.iload_n 1, 1) := by decide +kernel
theorem dX7_putName_28 : decode cX7_putName 28 = .ok (.invokevirtual 153, 3) := by decide +kernel
theorem dX7_putName_31 : decode cX7_putName 31 = .ok (.goto 4, 3) := by decide +kernel
theorem dX7_putName_34 : decode cX7_putName 34 = .ok (.iconst (-1), 1) := by decide +kernel
theorem dX7_putName_35 : decode cX7_putName 35 = .ok (.istore 4, 2) := by decide +kernel
theorem dX7_putName_37 : decode cX7_putName 37 = .ok (.iload 4, 2) := by decide +kernel
theorem dX7_putName_39 : decode cX7_putName 39 = .ok (.ifCond .lt 46, 3) := by decide +kernel
theorem dX7_putName_42 : decode cX7_putName 42 = .ok (.iload 4, 2) := by decide +kernel
theorem dX7_putName_44 : decode cX7_putName 44 = .ok (.bipush 64, 2) := by decide +kernel
theorem dX7_putName_46 : decode cX7_putName 46 = .ok (.if_icmp .ge 15, 3) := by decide +kernel
theorem dX7_putName_49 : decode cX7_putName 49 = .ok (.aload_n 0, 1) := by decide +kernel
theorem dX7_putName_50 : decode cX7_putName 50 = .ok (.bipush 64, 2) := by decide +kernel
theorem dX7_putName_52 : decode cX7_putName 52 = .ok (.iload 4, 2) := by decide +kernel
theorem dX7_putName_54 : decode cX7_putName 54 = .ok (.iadd, 1) := by decide +kernel
theorem dX7_putName_55 : decode cX7_putName 55 = .ok (.invokevirtual 130, 3) := by decide +kernel
theorem dX7_putName_58 : decode cX7_putName 58 = .ok (.goto 26, 3) := by decide +kernel
theorem dX7_putName_61 : decode cX7_putName 61 = .ok (.aload_n 0, 1) := by decide +kernel
theorem dX7_putName_62 : decode cX7_putName 62 = .ok (.bipush 48, 2) := by decide +kernel
theorem dX7_putName_64 : decode cX7_putName 64 = .ok (.iload 4, 2) := by decide +kernel
theorem dX7_putName_66 : decode cX7_putName 66 = .ok (.sipush 256, 3) := by decide +kernel
theorem dX7_putName_69 : decode cX7_putName 69 = .ok (.idiv, 1) := by decide +kernel
theorem dX7_putName_70 : decode cX7_putName 70 = .ok (.iadd, 1) := by decide +kernel
theorem dX7_putName_71 : decode cX7_putName 71 = .ok (.invokevirtual 130, 3) := by decide +kernel
theorem dX7_putName_74 : decode cX7_putName 74 = .ok (.aload_n 0, 1) := by decide +kernel
theorem dX7_putName_75 : decode cX7_putName 75 = .ok (.iload 4, 2) := by decide +kernel
theorem dX7_putName_77 : decode cX7_putName 77 = .ok (.sipush 256, 3) := by decide +kernel
theorem dX7_putName_80 : decode cX7_putName 80 = .ok (.irem, 1) := by decide +kernel
theorem dX7_putName_81 : decode cX7_putName 81 = .ok (.invokevirtual 130, 3) := by decide +kernel
theorem dX7_putName_84 : decode cX7_putName 84 = .ok (.return_, 1) := by decide +kernel
theorem dX7_putName_85 : decode cX7_putName 85 = .ok (.aload_n 0, 1) := by decide +kernel
theorem dX7_putName_86 : decode cX7_putName 86 = .ok (.aload_n 0, 1) := by decide +kernel
theorem dX7_putName_87 : decode cX7_putName 87 = .ok (.getfield 30, 3) := by decide +kernel
theorem dX7_putName_90 : decode cX7_putName 90 = .ok (.iload_n 1, 1) := by decide +kernel
theorem dX7_putName_91 : decode cX7_putName 91 = .ok (.iaload, 1) := by decide +kernel
theorem dX7_putName_92 : decode cX7_putName 92 = .ok (.iload_n 3, 1) := by decide +kernel
theorem dX7_putName_93 : decode cX7_putName 93 = .ok (.invokevirtual 156, 3) := by decide +kernel
theorem dX7_putName_96 : decode cX7_putName 96 = .ok (.istore 5, 2) := by decide +kernel
theorem dX7_putName_98 : decode cX7_putName 98 = .ok (.iload_n 3, 1) := by decide +kernel
theorem dX7_putName_99 : decode cX7_putName 99 = .ok (.ifCond .ne 12, 3) := by decide +kernel
theorem dX7_putName_102 : decode cX7_putName 102 = .ok (.aload_n 0, 1) := by decide +kernel
theorem dX7_putName_103 : decode cX7_putName 103 = .ok (.bipush 32, 2) := by decide +kernel
theorem dX7_putName_105 : decode cX7_putName 105 = .ok (.invokevirtual 130, 3) := by decide +kernel
theorem dX7_putName_108 : decode cX7_putName 108 = .ok (.goto 75, 3) := by decide +kernel
theorem dX7_putName_111 : decode cX7_putName 111 = .ok (.iload 5, 2) := by decide +kernel
theorem dX7_putName_113 : decode cX7_putName 113 = .ok (.ifCond .eq 12, 3) := by decide +kernel
theorem dX7_putName_116 : decode cX7_putName 116 = .ok (.iload_n 3, 1) := by decide +kernel
theorem dX7_putName_117 : decode cX7_putName 117 = .ok (.bipush 64, 2) := by decide +kernel
theorem dX7_putName_119 : decode cX7_putName 119 = .ok (.if_icmp .gt 46, 3) := by decide +kernel
theorem dX7_putName_122 : decode cX7_putName 122 = .ok (.goto 9, 3) := by decide +kernel
theorem dX7_putName_125 : decode cX7_putName 125 = .ok (.iload_n 3, 1) := by decide +kernel
theorem dX7_putName_126 : decode cX7_putName 126 = .ok (.bipush 57, 2) := by decide +kernel
theorem dX7_putName_128 : decode cX7_putName 128 = .ok (.if_icmp .gt 37, 3) := by decide +kernel
theorem dX7_putName_131 : decode cX7_putName 131 = .ok (.aload_n 0, 1) := by decide +kernel
theorem dX7_putName_132 : decode cX7_putName 132 = .ok (.iload 5, 2) := by decide +kernel
theorem dX7_putName_134 : decode cX7_putName 134 = .ok (.ifCond .eq 13, 3) := by decide +kernel
theorem dX7_putName_137 : decode cX7_putName 137 = .ok (.sipush 128, 3) := by decide +kernel
theorem dX7_putName_140 : decode cX7_putName 140 = .ok (.iload_n 3, 1) := by decide +kernel
theorem dX7_putName_141 : decode cX7_putName 141 = .ok (.iadd, 1) := by decide +kernel
theorem dX7_putName_142 : decode cX7_putName 142 = .ok (.iconst 1, 1) := by decide +kernel
theorem dX7_putName_143 : decode cX7_putName 143 = .ok (.isub, 1) := by decide +kernel
theorem dX7_putName_144 : decode cX7_putName 144 = .ok (.goto 10, 3) := by decide +kernel
theorem dX7_putName_147 : decode cX7_putName 147 = .ok (.sipush 192, 3) := by decide +kernel
theorem dX7_putName_150 : decode cX7_putName 150 = .ok (.iload_n 3, 1) := by decide +kernel
theorem dX7_putName_151 : decode cX7_putName 151 = .ok (.iadd, 1) := by decide +kernel
theorem dX7_putName_152 : decode cX7_putName 152 = .ok (.iconst 2, 1) := by decide +kernel
theorem dX7_putName_153 : decode cX7_putName 153 = .ok (.isub, 1) := by decide +kernel
theorem dX7_putName_154 : decode cX7_putName 154 = .ok (.invokevirtual 130, 3) := by decide +kernel
theorem dX7_putName_157 : decode cX7_putName 157 = .ok (.aload_n 0, 1) := by decide +kernel
theorem dX7_putName_158 : decode cX7_putName 158 = .ok (.iload_n 1, 1) := by decide +kernel
theorem dX7_putName_159 : decode cX7_putName 159 = .ok (.invokevirtual 159, 3) := by decide +kernel
theorem dX7_putName_162 : decode cX7_putName 162 = .ok (.goto 21, 3) := by decide +kernel
theorem dX7_putName_165 : decode cX7_putName 165 = .ok (.aload_n 0, 1) := by decide +kernel
theorem dX7_putName_166 : decode cX7_putName 166 = .ok (.bipush 52, 2) := by decide +kernel
theorem dX7_putName_168 : decode cX7_putName 168 = .ok (.invokevirtual 130, 3) := by decide +kernel
theorem dX7_putName_171 : decode cX7_putName 171 = .ok (.aload_n 0, 1) := by decide +kernel
theorem dX7_putName_172 : decode cX7_putName 172 = .ok (.iload_n 1, 1) := by decide +kernel
theorem dX7_putName_173 : decode cX7_putName 173 = .ok (.invokevirtual 159, 3) := by decide +kernel
theorem dX7_putName_176 : decode cX7_putName 176 = .ok (.aload_n 0, 1) := by decide +kernel
theorem dX7_putName_177 : decode cX7_putName 177 = .ok (.sipush 252, 3) := by decide +kernel
theorem dX7_putName_180 : decode cX7_putName 180 = .ok (.invokevirtual 130, 3) := by decide +kernel
theorem dX7_putName_183 : decode cX7_putName 183 = .ok (.aload_n 0, 1) := by decide +kernel
theorem dX7_putName_184 : decode cX7_putName 184 = .ok (.iconst 0, 1) := by decide +kernel
theorem dX7_putName_185 : decode cX7_putName 185 = .ok (.iload_n 2, 1) := by decide +kernel
theorem dX7_putName_186 : decode cX7_putName 186 = .ok (.iload_n 1, 1) := by decide +kernel
theorem dX7_putName_187 : decode cX7_putName 187 = .ok (.invokevirtual 162, 3) := by decide +kernel
theorem dX7_putName_190 : decode cX7_putName 190 = .ok (.return_, 1) := by decide +kernel
theorem dX7_putReal_0 : decode cX7_putReal 0 = .ok (.iload_n 3, 1) := by decide +kernel
theorem dX7_putReal_1 : decode cX7_putReal 1 = .ok (.iconst 1, 1) := by decide +kernel
theorem dX7_putReal_2 : decode cX7_putReal 2 = .ok (.isub, 1) := by decide +kernel
theorem dX7_putReal_3 : decode cX7_putReal 3 = .ok (.istore 4, 2) := by decide +kernel
theorem dX7_putReal_5 : decode cX7_putReal 5 = .ok (.iload 4, 2) := by decide +kernel
theorem dX7_putReal_7 : decode cX7_putReal 7 = .ok (.ifCond .lt 39, 3) := by decide +kernel
theorem dX7_putReal_10 : decode cX7_putReal 10 = .ok (.aload_n 0, 1) := by decide +kernel
theorem dX7_putReal_11 : decode cX7_putReal 11 = .ok (.bipush 7, 2) := by decide +kernel
theorem dX7_putReal_13 : decode cX7_putReal 13 = .ok (.iload 4, 2) := by decide +kernel
theorem dX7_putReal_15 : decode cX7_putReal 15 = .ok (.imul, 1) := by decide +kernel
theorem dX7_putReal_16 : decode cX7_putReal 16 = .ok (.bipush 63, 2) := by decide +kernel
theorem dX7_putReal_18 : decode cX7_putReal 18 = .ok (.if_icmp .le 7, 3) := by decide +kernel
theorem dX7_putReal_21 : decode cX7_putReal 21 = .ok (.lconst 0, 1) := by decide +kernel
theorem dX7_putReal_22 : decode cX7_putReal 22 = .ok (.goto 14, 3) := by decide +kernel
theorem dX7_putReal_25 : decode cX7_putReal 25 = .ok (.lload_n 1, 1) := by decide +kernel
theorem dX7_putReal_26 : decode cX7_putReal 26 = .ok (.bipush 7, 2) := by decide +kernel
theorem dX7_putReal_28 : decode cX7_putReal 28 = .ok (.iload 4, 2) := by decide +kernel
theorem dX7_putReal_30 : decode cX7_putReal 30 = .ok (.imul, 1) := by decide +kernel
theorem dX7_putReal_31 : decode cX7_putReal 31 = .ok (.lushr, 1) := by decide +kernel
theorem dX7_putReal_32 : decode cX7_putReal 32 = .ok (.ldc2_w 133, 3) := by decide +kernel
theorem dX7_putReal_35 : decode cX7_putReal 35 = .ok (.land, 1) := by decide +kernel
theorem dX7_putReal_36 : decode cX7_putReal 36 = .ok (.l2i, 1) := by decide +kernel
theorem dX7_putReal_37 : decode cX7_putReal 37 = .ok (.invokevirtual 130, 3) := by decide +kernel
theorem dX7_putReal_40 : decode cX7_putReal 40 = .ok (.iinc 4 (-1), 3) := by decide +kernel
theorem dX7_putReal_43 : decode cX7_putReal 43 = .ok (.goto (-38), 3) := by decide +kernel
theorem dX7_putReal_46 : decode cX7_putReal 46 = .ok (.return_, 1) := by decide +kernel
theorem dX7_putSeven_0 : decode cX7_putSeven 0 = .ok (.iconst 0, 1) := by decide +kernel
theorem dX7_putSeven_1 : decode cX7_putSeven 1 = .ok (.istore_n 2, 1) := by decide +kernel
theorem dX7_putSeven_2 : decode cX7_putSeven 2 = .ok (.iconst 0, 1) := by decide +kernel
theorem dX7_putSeven_3 : decode cX7_putSeven 3 = .ok (.istore_n 3, 1) := by decide +kernel
theorem dX7_putSeven_4 : decode cX7_putSeven 4 = .ok (.iconst 0, 1) := by decide +kernel
theorem dX7_putSeven_5 : decode cX7_putSeven 5 = .ok (.istore 4, 2) := by decide +kernel
theorem dX7_putSeven_7 : decode cX7_putSeven 7 = .ok (.iload 4, 2) := by decide +kernel
theorem dX7_putSeven_9 : decode cX7_putSeven 9 = .ok (.aload_n 0, 1) := by decide +kernel
theorem dX7_putSeven_10 : decode cX7_putSeven 10 = .ok (.getfield 33, 3) := by decide +kernel
theorem dX7_putSeven_13 : decode cX7_putSeven 13 = .ok (.iload_n 1, 1) := by decide +kernel
theorem dX7_putSeven_14 : decode cX7_putSeven 14 = .ok (.iaload, 1) := by decide +kernel
theorem dX7_putSeven_15 : decode cX7_putSeven 15 = .ok (.if_icmp .ge 70, 3) := by decide +kernel
theorem dX7_putSeven_18 : decode cX7_putSeven 18 = .ok (.sipush 256, 3) := by decide +kernel
theorem dX7_putSeven_21 : decode cX7_putSeven 21 = .ok (.iload_n 3, 1) := by decide +kernel
theorem dX7_putSeven_22 : decode cX7_putSeven 22 = .ok (.bipush 127, 2) := by decide +kernel
theorem dX7_putSeven_24 : decode cX7_putSeven 24 = .ok (.iand, 1) := by decide +kernel
theorem dX7_putSeven_25 : decode cX7_putSeven 25 = .ok (.imul, 1) := by decide +kernel
theorem dX7_putSeven_26 : decode cX7_putSeven 26 = .ok (.aload_n 0, 1) := by decide +kernel
theorem dX7_putSeven_27 : decode cX7_putSeven 27 = .ok (.getfield 39, 3) := by decide +kernel
theorem dX7_putSeven_30 : decode cX7_putSeven 30 = .ok (.aload_n 0, 1) := by decide +kernel
theorem dX7_putSeven_31 : decode cX7_putSeven 31 = .ok (.getfield 30, 3) := by decide +kernel
theorem dX7_putSeven_34 : decode cX7_putSeven 34 = .ok (.iload_n 1, 1) := by decide +kernel
theorem dX7_putSeven_35 : decode cX7_putSeven 35 = .ok (.iaload, 1) := by decide +kernel
theorem dX7_putSeven_36 : decode cX7_putSeven 36 = .ok (.iload 4, 2) := by decide +kernel
theorem dX7_putSeven_38 : decode cX7_putSeven 38 = .ok (.iadd, 1) := by decide +kernel
theorem dX7_putSeven_39 : decode cX7_putSeven 39 = .ok (.baload, 1) := by decide +kernel
theorem dX7_putSeven_40 : decode cX7_putSeven 40 = .ok (.sipush 255, 3) := by decide +kernel
theorem dX7_putSeven_43 : decode cX7_putSeven 43 = .ok (.iand, 1) := by decide +kernel
theorem dX7_putSeven_44 : decode cX7_putSeven 44 = .ok (.iadd, 1) := by decide +kernel
theorem dX7_putSeven_45 : decode cX7_putSeven 45 = .ok (.istore_n 3, 1) := by decide +kernel
theorem dX7_putSeven_46 : decode cX7_putSeven 46 = .ok (.iinc 2 8, 3) := by decide +kernel
theorem dX7_putSeven_49 : decode cX7_putSeven 49 = .ok (.iload_n 2, 1) := by decide +kernel
theorem dX7_putSeven_50 : decode cX7_putSeven 50 = .ok (.bipush 7, 2) := by decide +kernel
theorem dX7_putSeven_52 : decode cX7_putSeven 52 = .ok (.if_icmp .lt 19, 3) := by decide +kernel
theorem dX7_putSeven_55 : decode cX7_putSeven 55 = .ok (.iinc 2 (-7), 3) := by decide +kernel
theorem dX7_putSeven_58 : decode cX7_putSeven 58 = .ok (.aload_n 0, 1) := by decide +kernel
theorem dX7_putSeven_59 : decode cX7_putSeven 59 = .ok (.iload_n 3, 1) := by decide +kernel
theorem dX7_putSeven_60 : decode cX7_putSeven 60 = .ok (.iload_n 2, 1) := by decide +kernel
theorem dX7_putSeven_61 : decode cX7_putSeven 61 = .ok (.ishr, 1) := by decide +kernel
theorem dX7_putSeven_62 : decode cX7_putSeven 62 = .ok (.bipush 127, 2) := by decide +kernel
theorem dX7_putSeven_64 : decode cX7_putSeven 64 = .ok (.iand, 1) := by decide +kernel
theorem dX7_putSeven_65 : decode cX7_putSeven 65 = .ok (.invokevirtual 130, 3) := by decide +kernel
theorem dX7_putSeven_68 : decode cX7_putSeven 68 = .ok (.goto (-19), 3) := by decide +kernel
theorem dX7_putSeven_71 : decode cX7_putSeven 71 = .ok (.iload_n 3, 1) := by decide +kernel
theorem dX7_putSeven_72 : decode cX7_putSeven 72 = .ok (.iconst 1, 1) := by decide +kernel
theorem dX7_putSeven_73 : decode cX7_putSeven 73 = .ok (.iload_n 2, 1) := by decide +kernel
theorem dX7_putSeven_74 : decode cX7_putSeven 74 = .ok (.ishl, 1) := by decide +kernel
theorem dX7_putSeven_75 : decode cX7_putSeven 75 = .ok (.iconst 1, 1) := by decide +kernel
theorem dX7_putSeven_76 : decode cX7_putSeven 76 = .ok (.isub, 1) := by decide +kernel
theorem dX7_putSeven_77 : decode cX7_putSeven 77 = .ok (.iand, 1) := by decide +kernel
theorem dX7_putSeven_78 : decode cX7_putSeven 78 = .ok (.istore_n 3, 1) := by decide +kernel
theorem dX7_putSeven_79 : decode cX7_putSeven 79 = .ok (.iinc 4 1, 3) := by decide +kernel
theorem dX7_putSeven_82 : decode cX7_putSeven 82 = .ok (.goto (-75), 3) := by decide +kernel
theorem dX7_putSeven_85 : decode cX7_putSeven 85 = .ok (.iload_n 2, 1) := by decide +kernel
theorem dX7_putSeven_86 : decode cX7_putSeven 86 = .ok (.ifCond .le 8, 3) := by decide +kernel
theorem dX7_putSeven_89 : decode cX7_putSeven 89 = .ok (.aload_n 0, 1) := by decide +kernel
theorem dX7_putSeven_90 : decode cX7_putSeven 90 = .ok (.iload_n 3, 1) := by decide +kernel
theorem dX7_putSeven_91 : decode cX7_putSeven 91 = .ok (.invokevirtual 130, 3) := by decide +kernel
theorem dX7_putSeven_94 : decode cX7_putSeven 94 = .ok (.return_, 1) := by decide +kernel
theorem dX7_putText_0 : decode cX7_putText 0 = .ok (.aload_n 0, 1) := by decide +kernel
theorem dX7_putText_1 : decode cX7_putText 1 = .ok (.getfield 33, 3) := by decide +kernel
theorem dX7_putText_4 : decode cX7_putText 4 = .ok (.iload_n 1, 1) := by decide +kernel
theorem dX7_putText_5 : decode cX7_putText 5 = .ok (.iaload, 1) := by decide +kernel
theorem dX7_putText_6 : decode cX7_putText 6 = .ok (.istore_n 3, 1) := by decide +kernel
theorem dX7_putText_7 : decode cX7_putText 7 = .ok (.iload_n 2, 1) := by decide +kernel
theorem dX7_putText_8 : decode cX7_putText 8 = .ok (.iconst 2, 1) := by decide +kernel
theorem dX7_putText_9 : decode cX7_putText 9 = .ok (.iand, 1) := by decide +kernel
theorem dX7_putText_10 : decode cX7_putText 10 = .ok (.iconst 2, 1) := by decide +kernel
theorem dX7_putText_11 : decode cX7_putText 11 = .ok (.if_icmp .ne 23, 3) := by decide +kernel
theorem dX7_putText_14 : decode cX7_putText 14 = .ok (.iload_n 3, 1) := by decide +kernel
theorem dX7_putText_15 : decode cX7_putText 15 = .ok (.iconst 1, 1) := by decide +kernel
theorem dX7_putText_16 : decode cX7_putText 16 = .ok (.if_icmp .lt 18, 3) := by decide +kernel
theorem dX7_putText_19 : decode cX7_putText 19 = .ok (.iload_n 3, 1) := by decide +kernel
theorem dX7_putText_20 : decode cX7_putText 20 = .ok (.bipush 64, 2) := by decide +kernel
theorem dX7_putText_22 : decode cX7_putText 22 = .ok (.if_icmp .gt 12, 3) := by decide +kernel
theorem dX7_putText_25 : decode cX7_putText 25 = .ok (.aload_n 0, 1) := by decide +kernel
theorem dX7_putText_26 : decode cX7_putText 26 = .ok (.iconst 1, 1) := by decide +kernel
theorem dX7_putText_27 : decode cX7_putText 27 = .ok (.iload_n 1, 1) := by decide +kernel
theorem dX7_putText_28 : decode cX7_putText 28 = .ok (.invokevirtual 153, 3) := by decide +kernel
theorem dX7_putText_31 : decode cX7_putText 31 = .ok (.goto 4, 3) := by decide +kernel
theorem dX7_putText_34 : decode cX7_putText 34 = .ok (.iconst (-1), 1) := by decide +kernel
theorem dX7_putText_35 : decode cX7_putText 35 = .ok (.istore 4, 2) := by decide +kernel
theorem dX7_putText_37 : decode cX7_putText 37 = .ok (.iload 4, 2) := by decide +kernel
theorem dX7_putText_39 : decode cX7_putText 39 = .ok (.ifCond .lt 46, 3) := by decide +kernel
theorem dX7_putText_42 : decode cX7_putText 42 = .ok (.iload 4, 2) := by decide +kernel
theorem dX7_putText_44 : decode cX7_putText 44 = .ok (.bipush 31, 2) := by decide +kernel
theorem dX7_putText_46 : decode cX7_putText 46 = .ok (.if_icmp .ge 14, 3) := by decide +kernel
theorem dX7_putText_49 : decode cX7_putText 49 = .ok (.aload_n 0, 1) := by decide +kernel
theorem dX7_putText_50 : decode cX7_putText 50 = .ok (.iconst 1, 1) := by decide +kernel
theorem dX7_putText_51 : decode cX7_putText 51 = .ok (.iload 4, 2) := by decide +kernel
theorem dX7_putText_53 : decode cX7_putText 53 = .ok (.iadd, 1) := by decide +kernel
theorem dX7_putText_54 : decode cX7_putText 54 = .ok (.invokevirtual 130, 3) := by decide +kernel
theorem dX7_putText_57 : decode cX7_putText 57 = .ok (.goto 27, 3) := by decide +kernel
theorem dX7_putText_60 : decode cX7_putText 60 = .ok (.aload_n 0, 1) := by decide +kernel
theorem dX7_putText_61 : decode cX7_putText 61 = .ok (.sipush 236, 3) := by decide +kernel
theorem dX7_putText_64 : decode cX7_putText 64 = .ok (.iload 4, 2) := by decide +kernel
theorem dX7_putText_66 : decode cX7_putText 66 = .ok (.sipush 256, 3) := by decide +kernel
theorem dX7_putText_69 : decode cX7_putText 69 = .ok (.idiv, 1) := by decide +kernel
theorem dX7_putText_70 : decode cX7_putText 70 = .ok (.iadd, 1) := by decide +kernel
theorem dX7_putText_71 : decode cX7_putText 71 = .ok (.invokevirtual 130, 3) := by decide +kernel
theorem dX7_putText_74 : decode cX7_putText 74 = .ok (.aload_n 0, 1) := by decide +kernel
theorem dX7_putText_75 : decode cX7_putText 75 = .ok (.iload 4, 2) := by decide +kernel
theorem dX7_putText_77 : decode cX7_putText 77 = .ok (.sipush 256, 3) := by decide +kernel
theorem dX7_putText_80 : decode cX7_putText 80 = .ok (.irem, 1) := by decide +kernel
theorem dX7_putText_81 : decode cX7_putText 81 = .ok (.invokevirtual 130, 3) := by decide +kernel
theorem dX7_putText_84 : decode cX7_putText 84 = .ok (.return_, 1) := by decide +kernel
theorem dX7_putText_85 : decode cX7_putText 85 = .ok (.aload_n 0, 1) := by decide +kernel
theorem dX7_putText_86 : decode cX7_putText 86 = .ok (.aload_n 0, 1) := by decide +kernel
theorem dX7_putText_87 : decode cX7_putText 87 = .ok (.getfield 30, 3) := by decide +kernel
theorem dX7_putText_90 : decode cX7_putText 90 = .ok (.iload_n 1, 1) := by decide +kernel
theorem dX7_putText_91 : decode cX7_putText 91 = .ok (.iaload, 1) := by decide +kernel
theorem dX7_putText_92 : decode cX7_putText 92 = .ok (.iload_n 3, 1) := by decide +kernel
theorem dX7_putText_93 : decode cX7_putText 93 = .ok (.invokevirtual 156, 3) := by decide +kernel
theorem dX7_putText_96 : decode cX7_putText 96 = .ok (.istore 5, 2) := by decide +kernel
theorem dX7_putText_98 : decode cX7_putText 98 = .ok (.iload_n 3, 1) := by decide +kernel
theorem dX7_putText_99 : decode cX7_putText 99 = .ok (.ifCond .ne 12, 3) := by decide +kernel
theorem dX7_putText_102 : decode cX7_putText 102 = .ok (.aload_n 0, 1) := by decide +kernel
theorem dX7_putText_103 : decode cX7_putText 103 = .ok (.bipush 32, 2) := by decide +kernel
theorem dX7_putText_105 : decode cX7_putText 105 = .ok (.invokevirtual 130, 3) := by decide +kernel
theorem dX7_putText_108 : decode cX7_putText 108 = .ok (.goto 105, 3) := by decide +kernel
theorem dX7_putText_111 : decode cX7_putText 111 = .ok (.iload_n 3, 1) := by decide +kernel
theorem dX7_putText_112 : decode cX7_putText 112 = .ok (.bipush 64, 2) := by decide +kernel
theorem dX7_putText_114 : decode cX7_putText 114 = .ok (.if_icmp .le 36, 3) := by decide +kernel
theorem dX7_putText_117 : decode cX7_putText 117 = .ok (.aload_n 0, 1) := by decide +kernel
theorem dX7_putText_118 : decode cX7_putText 118 = .ok (.iload 5, 2) := by decide +kernel
theorem dX7_putText_120 : decode cX7_putText 120 = .ok (.ifCond .eq 9, 3) := by decide +kernel
theorem dX7_putText_123 : decode cX7_putText 123 = .ok (.sipush 224, 3) := by decide +kernel
theorem dX7_putText_126 : decode cX7_putText 126 = .ok (.goto 6, 3) := by decide +kernel
theorem dX7_putText_129 : decode cX7_putText 129 = .ok (.sipush 228, 3) := by decide +kernel
theorem dX7_putText_132 : decode cX7_putText 132 = .ok (.invokevirtual 130, 3) := by decide +kernel
theorem dX7_putText_135 : decode cX7_putText 135 = .ok (.aload_n 0, 1) := by decide +kernel
theorem dX7_putText_136 : decode cX7_putText 136 = .ok (.iload_n 1, 1) := by decide +kernel
theorem dX7_putText_137 : decode cX7_putText 137 = .ok (.invokevirtual 159, 3) := by decide +kernel
theorem dX7_putText_140 : decode cX7_putText 140 = .ok (.aload_n 0, 1) := by decide +kernel
theorem dX7_putText_141 : decode cX7_putText 141 = .ok (.sipush 252, 3) := by decide +kernel
theorem dX7_putText_144 : decode cX7_putText 144 = .ok (.invokevirtual 130, 3) := by decide +kernel
theorem dX7_putText_147 : decode cX7_putText 147 = .ok (.goto 66, 3) := by decide +kernel
theorem dX7_putText_150 : decode cX7_putText 150 = .ok (.aload_n 0, 1) := by decide +kernel
theorem dX7_putText_151 : decode cX7_putText 151 = .ok (.iload 5, 2) := by decide +kernel
theorem dX7_putText_153 : decode cX7_putText 153 = .ok (.ifCond .eq 28, 3) := by decide +kernel
theorem dX7_putText_156 : decode cX7_putText 156 = .ok (.iload_n 3, 1) := by decide +kernel
theorem dX7_putText_157 : decode cX7_putText 157 = .ok (.bipush 32, 2) := by decide +kernel
theorem dX7_putText_159 : decode cX7_putText 159 = .ok (.if_icmp .gt 12, 3) := by decide +kernel
theorem dX7_putText_162 : decode cX7_putText 162 = .ok (.bipush 64, 2) := by decide +kernel
theorem dX7_putText_164 : decode cX7_putText 164 = .ok (.iload_n 3, 1) := by decide +kernel
theorem dX7_putText_165 : decode cX7_putText 165 = .ok (.iadd, 1) := by decide +kernel
theorem dX7_putText_166 : decode cX7_putText 166 = .ok (.iconst 1, 1) := by decide +kernel
theorem dX7_putText_167 : decode cX7_putText 167 = .ok (.isub, 1) := by decide +kernel
theorem dX7_putText_168 : decode cX7_putText 168 = .ok (.goto 37, 3) := by decide +kernel
theorem dX7_putText_171 : decode cX7_putText 171 = .ok (.bipush 96, 2) := by decide +kernel
theorem dX7_putText_173 : decode cX7_putText 173 = .ok (.iload_n 3, 1) := by decide +kernel
theorem dX7_putText_174 : decode cX7_putText 174 = .ok (.iadd, 1) := by decide +kernel
theorem dX7_putText_175 : decode cX7_putText 175 = .ok (.bipush 33, 2) := by decide +kernel
theorem dX7_putText_177 : decode cX7_putText 177 = .ok (.isub, 1) := by decide +kernel
theorem dX7_putText_178 : decode cX7_putText 178 = .ok (.goto 27, 3) := by decide +kernel
theorem dX7_putText_181 : decode cX7_putText 181 = .ok (.iload_n 3, 1) := by decide +kernel
theorem dX7_putText_182 : decode cX7_putText 182 = .ok (.bipush 33, 2) := by decide +kernel
theorem dX7_putText_184 : decode cX7_putText 184 = .ok (.if_icmp .gt 13, 3) := by decide +kernel
theorem dX7_putText_187 : decode cX7_putText 187 = .ok (.sipush 128, 3) := by decide +kernel
theorem dX7_putText_190 : decode cX7_putText 190 = .ok (.iload_n 3, 1) := by decide +kernel
theorem dX7_putText_191 : decode cX7_putText 191 = .ok (.iadd, 1) := by decide +kernel
theorem dX7_putText_192 : decode cX7_putText 192 = .ok (.iconst 2, 1) := by decide +kernel
theorem dX7_putText_193 : decode cX7_putText 193 = .ok (.isub, 1) := by decide +kernel
theorem dX7_putText_194 : decode cX7_putText 194 = .ok (.goto 11, 3) := by decide +kernel
theorem dX7_putText_197 : decode cX7_putText 197 = .ok (.sipush 160, 3) := by decide +kernel
theorem dX7_putText_200 : decode cX7_putText 200 = .ok (.iload_n 3, 1) := by decide +kernel
theorem dX7_putText_201 : decode cX7_putText 201 = .ok (.iadd, 1) := by decide +kernel
theorem dX7_putText_202 : decode cX7_putText 202 = .ok (.bipush 34, 2) := by decide +kernel
theorem dX7_putText_204 : decode cX7_putText 204 = .ok (.isub, 1) := by decide +kernel
theorem dX7_putText_205 : decode cX7_putText 205 = .ok (.invokevirtual 130, 3) := by decide +kernel
theorem dX7_putText_208 : decode cX7_putText 208 = .ok (.aload_n 0, 1) := by decide +kernel
theorem dX7_putText_209 : decode cX7_putText 209 = .ok (.iload_n 1, 1) := by decide +kernel
theorem dX7_putText_210 : decode cX7_putText 210 = .ok (.invokevirtual 159, 3) := by decide +kernel
theorem dX7_putText_213 : decode cX7_putText 213 = .ok (.aload_n 0, 1) := by decide +kernel
theorem dX7_putText_214 : decode cX7_putText 214 = .ok (.iconst 1, 1) := by decide +kernel
theorem dX7_putText_215 : decode cX7_putText 215 = .ok (.iload_n 2, 1) := by decide +kernel
theorem dX7_putText_216 : decode cX7_putText 216 = .ok (.iload_n 1, 1) := by decide +kernel
theorem dX7_putText_217 : decode cX7_putText 217 = .ok (.invokevirtual 162, 3) := by decide +kernel
theorem dX7_putText_220 : decode cX7_putText 220 = .ok (.return_, 1) := by decide +kernel
theorem dX7_read_0 : decode cX7_read 0 = .ok (.aload_n 0, 1) := by decide +kernel
theorem dX7_read_1 : decode cX7_read 1 = .ok (.iconst 0, 1) := by decide +kernel
theorem dX7_read_2 : decode cX7_read 2 = .ok (.putfield 190, 3) := by decide +kernel
theorem dX7_read_5 : decode cX7_read 5 = .ok (.aload_n 0, 1) := by decide +kernel
theorem dX7_read_6 : decode cX7_read 6 = .ok (.iconst (-1), 1) := by decide +kernel
theorem dX7_read_7 : decode cX7_read 7 = .ok (.putfield 64, 3) := by decide +kernel
theorem dX7_read_10 : decode cX7_read 10 = .ok (.aload_n 0, 1) := by decide +kernel
theorem dX7_read_11 : decode cX7_read 11 = .ok (.iconst 0, 1) := by decide +kernel
theorem dX7_read_12 : decode cX7_read 12 = .ok (.putfield 193, 3) := by decide +kernel
theorem dX7_read_15 : decode cX7_read 15 = .ok (.aload_n 0, 1) := by decide +kernel
theorem dX7_read_16 : decode cX7_read 16 = .ok (.iconst 1, 1) := by decide +kernel
theorem dX7_read_17 : decode cX7_read 17 = .ok (.invokevirtual 120, 3) := by decide +kernel
theorem dX7_read_20 : decode cX7_read 20 = .ok (.aload_n 0, 1) := by decide +kernel
theorem dX7_read_21 : decode cX7_read 21 = .ok (.getfield 61, 3) := by decide +kernel
theorem dX7_read_24 : decode cX7_read 24 = .ok (.iconst 0, 1) := by decide +kernel
theorem dX7_read_25 : decode cX7_read 25 = .ok (.iconst 0, 1) := by decide +kernel
theorem dX7_read_26 : decode cX7_read 26 = .ok (.iastore, 1) := by decide +kernel
theorem dX7_read_27 : decode cX7_read 27 = .ok (.aload_n 0, 1) := by decide +kernel
theorem dX7_read_28 : decode cX7_read 28 = .ok (.getfield 61, 3) := by decide +kernel
theorem dX7_read_31 : decode cX7_read 31 = .ok (.iconst 1, 1) := by decide +kernel
theorem dX7_read_32 : decode cX7_read 32 = .ok (.iconst 0, 1) := by decide +kernel
theorem dX7_read_33 : decode cX7_read 33 = .ok (.iastore, 1) := by decide +kernel
theorem dX7_read_34 : decode cX7_read 34 = .ok (.aload_n 0, 1) := by decide +kernel
theorem dX7_read_35 : decode cX7_read 35 = .ok (.invokevirtual 259, 3) := by decide +kernel
theorem dX7_read_38 : decode cX7_read 38 = .ok (.aload_n 0, 1) := by decide +kernel
theorem dX7_read_39 : decode cX7_read 39 = .ok (.getfield 190, 3) := by decide +kernel
theorem dX7_read_42 : decode cX7_read 42 = .ok (.ifCond .ne 67, 3) := by decide +kernel
theorem dX7_read_45 : decode cX7_read 45 = .ok (.aload_n 0, 1) := by decide +kernel
theorem dX7_read_46 : decode cX7_read 46 = .ok (.iconst 1, 1) := by decide +kernel
theorem dX7_read_47 : decode cX7_read 47 = .ok (.invokevirtual 93, 3) := by decide +kernel
theorem dX7_read_50 : decode cX7_read 50 = .ok (.ifCond .ne 59, 3) := by decide +kernel
theorem dX7_read_53 : decode cX7_read 53 = .ok (.aload_n 0, 1) := by decide +kernel
theorem dX7_read_54 : decode cX7_read 54 = .ok (.aload_n 0, 1) := by decide +kernel
theorem dX7_read_55 : decode cX7_read 55 = .ok (.getfield 193, 3) := by decide +kernel
theorem dX7_read_58 : decode cX7_read 58 = .ok (.putfield 203, 3) := by decide +kernel
theorem dX7_read_61 : decode cX7_read 61 = .ok (.aload_n 0, 1) := by decide +kernel
theorem dX7_read_62 : decode cX7_read 62 = .ok (.iconst 0, 1) := by decide +kernel
theorem dX7_read_63 : decode cX7_read 63 = .ok (.putfield 206, 3) := by decide +kernel
theorem dX7_read_66 : decode cX7_read 66 = .ok (.aload_n 0, 1) := by decide +kernel
theorem dX7_read_67 : decode cX7_read 67 = .ok (.invokevirtual 199, 3) := by decide +kernel
theorem dX7_read_70 : decode cX7_read 70 = .ok (.istore_n 1, 1) := by decide +kernel
theorem dX7_read_71 : decode cX7_read 71 = .ok (.aload_n 0, 1) := by decide +kernel
theorem dX7_read_72 : decode cX7_read 72 = .ok (.getfield 190, 3) := by decide +kernel
theorem dX7_read_75 : decode cX7_read 75 = .ok (.ifCond .ne 19, 3) := by decide +kernel
theorem dX7_read_78 : decode cX7_read 78 = .ok (.aload_n 0, 1) := by decide +kernel
theorem dX7_read_79 : decode cX7_read 79 = .ok (.iconst 1, 1) := by decide +kernel
theorem dX7_read_80 : decode cX7_read 80 = .ok (.invokevirtual 96, 3) := by decide +kernel
theorem dX7_read_83 : decode cX7_read 83 = .ok (.ifCond .eq 11, 3) := by decide +kernel
theorem dX7_read_86 : decode cX7_read 86 = .ok (.aload_n 0, 1) := by decide +kernel
theorem dX7_read_87 : decode cX7_read 87 = .ok (.iload_n 1, 1) := by decide +kernel
theorem dX7_read_88 : decode cX7_read 88 = .ok (.invokevirtual 262, 3) := by decide +kernel
theorem dX7_read_91 : decode cX7_read 91 = .ok (.goto 15, 3) := by decide +kernel
theorem dX7_read_94 : decode cX7_read 94 = .ok (.aload_n 0, 1) := by decide +kernel
theorem dX7_read_95 : decode cX7_read 95 = .ok (.getfield 190, 3) := by decide +kernel
theorem dX7_read_98 : decode cX7_read 98 = .ok (.ifCond .ne 8, 3) := by decide +kernel
theorem dX7_read_101 : decode cX7_read 101 = .ok (.aload_n 0, 1) := by decide +kernel
theorem dX7_read_102 : decode cX7_read 102 = .ok (.iload_n 1, 1) := by decide +kernel
theorem dX7_read_103 : decode cX7_read 103 = .ok (.invokevirtual 265, 3) := by decide +kernel
theorem dX7_read_106 : decode cX7_read 106 = .ok (.goto (-68), 3) := by decide +kernel
theorem dX7_read_109 : decode cX7_read 109 = .ok (.aload_n 0, 1) := by decide +kernel
theorem dX7_read_110 : decode cX7_read 110 = .ok (.getfield 190, 3) := by decide +kernel
theorem dX7_read_113 : decode cX7_read 113 = .ok (.ifCond .ne 24, 3) := by decide +kernel
theorem dX7_read_116 : decode cX7_read 116 = .ok (.aload_n 0, 1) := by decide +kernel
theorem dX7_read_117 : decode cX7_read 117 = .ok (.getfield 193, 3) := by decide +kernel
theorem dX7_read_120 : decode cX7_read 120 = .ok (.aload_n 0, 1) := by decide +kernel
theorem dX7_read_121 : decode cX7_read 121 = .ok (.getfield 74, 3) := by decide +kernel
theorem dX7_read_124 : decode cX7_read 124 = .ok (.if_icmp .ge 13, 3) := by decide +kernel
theorem dX7_read_127 : decode cX7_read 127 = .ok (.aload_n 0, 1) := by decide +kernel
theorem dX7_read_128 : decode cX7_read 128 = .ok (.bipush 8, 2) := by decide +kernel
theorem dX7_read_130 : decode cX7_read 130 = .ok (.aload_n 0, 1) := by decide +kernel
theorem dX7_read_131 : decode cX7_read 131 = .ok (.getfield 193, 3) := by decide +kernel
theorem dX7_read_134 : decode cX7_read 134 = .ok (.invokevirtual 196, 3) := by decide +kernel
theorem dX7_read_137 : decode cX7_read 137 = .ok (.aload_n 0, 1) := by decide +kernel
theorem dX7_read_138 : decode cX7_read 138 = .ok (.iconst 0, 1) := by decide +kernel
theorem dX7_read_139 : decode cX7_read 139 = .ok (.putfield 74, 3) := by decide +kernel
theorem dX7_read_142 : decode cX7_read 142 = .ok (.aload_n 0, 1) := by decide +kernel
theorem dX7_read_143 : decode cX7_read 143 = .ok (.getfield 190, 3) := by decide +kernel
theorem dX7_read_146 : decode cX7_read 146 = .ok (.ifCond .ne 7, 3) := by decide +kernel
theorem dX7_read_149 : decode cX7_read 149 = .ok (.aload_n 0, 1) := by decide +kernel
theorem dX7_read_150 : decode cX7_read 150 = .ok (.invokevirtual 268, 3) := by decide +kernel
theorem dX7_read_153 : decode cX7_read 153 = .ok (.aload_n 0, 1) := by decide +kernel
theorem dX7_read_154 : decode cX7_read 154 = .ok (.getfield 190, 3) := by decide +kernel
theorem dX7_read_157 : decode cX7_read 157 = .ok (.ireturn, 1) := by decide +kernel
theorem dX7_readCount_0 : decode cX7_readCount 0 = .ok (.lconst 0, 1) := by decide +kernel
theorem dX7_readCount_1 : decode cX7_readCount 1 = .ok (.lstore_n 3, 1) := by decide +kernel
theorem dX7_readCount_2 : decode cX7_readCount 2 = .ok (.iconst 0, 1) := by decide +kernel
theorem dX7_readCount_3 : decode cX7_readCount 3 = .ok (.istore 5, 2) := by decide +kernel
theorem dX7_readCount_5 : decode cX7_readCount 5 = .ok (.iconst 1, 1) := by decide +kernel
theorem dX7_readCount_6 : decode cX7_readCount 6 = .ok (.istore 6, 2) := by decide +kernel
theorem dX7_readCount_8 : decode cX7_readCount 8 = .ok (.aload_n 0, 1) := by decide +kernel
theorem dX7_readCount_9 : decode cX7_readCount 9 = .ok (.getfield 190, 3) := by decide +kernel
theorem dX7_readCount_12 : decode cX7_readCount 12 = .ok (.ifCond .ne 178, 3) := by decide +kernel
theorem dX7_readCount_15 : decode cX7_readCount 15 = .ok (.aload_n 0, 1) := by decide +kernel
theorem dX7_readCount_16 : decode cX7_readCount 16 = .ok (.invokevirtual 199, 3) := by decide +kernel
theorem dX7_readCount_19 : decode cX7_readCount 19 = .ok (.istore 7, 2) := by decide +kernel
theorem dX7_readCount_21 : decode cX7_readCount 21 = .ok (.aload_n 0, 1) := by decide +kernel
theorem dX7_readCount_22 : decode cX7_readCount 22 = .ok (.getfield 190, 3) := by decide +kernel
theorem dX7_readCount_25 : decode cX7_readCount 25 = .ok (.ifCond .ne 39, 3) := by decide +kernel
theorem dX7_readCount_28 : decode cX7_readCount 28 = .ok (.iload 7, 2) := by decide +kernel
theorem dX7_readCount_30 : decode cX7_readCount 30 = .ok (.sipush 192, 3) := by decide +kernel
theorem dX7_readCount_33 : decode cX7_readCount 33 = .ok (.if_icmp .ge 17, 3) := by decide +kernel
theorem dX7_readCount_36 : decode cX7_readCount 36 = .ok (.iload 7, 2) := by decide +kernel
theorem dX7_readCount_38 : decode cX7_readCount 38 = .ok (.sipush 128, 3) := by decide +kernel
theorem dX7_readCount_41 : decode cX7_readCount 41 = .ok (.if_icmp .ge 23, 3) := by decide +kernel
theorem dX7_readCount_44 : decode cX7_readCount 44 = .ok (.iload 6, 2) := by decide +kernel
theorem dX7_readCount_46 : decode cX7_readCount 46 = .ok (.iload_n 1, 1) := by decide +kernel
theorem dX7_readCount_47 : decode cX7_readCount 47 = .ok (.if_icmp .ne 17, 3) := by decide +kernel
theorem dX7_readCount_50 : decode cX7_readCount 50 = .ok (.aload_n 0, 1) := by decide +kernel
theorem dX7_readCount_51 : decode cX7_readCount 51 = .ok (.iconst 3, 1) := by decide +kernel
theorem dX7_readCount_52 : decode cX7_readCount 52 = .ok (.aload_n 0, 1) := by decide +kernel
theorem dX7_readCount_53 : decode cX7_readCount 53 = .ok (.getfield 193, 3) := by decide +kernel
theorem dX7_readCount_56 : decode cX7_readCount 56 = .ok (.iconst 1, 1) := by decide +kernel
theorem dX7_readCount_57 : decode cX7_readCount 57 = .ok (.isub, 1) := by decide +kernel
theorem dX7_readCount_58 : decode cX7_readCount 58 = .ok (.invokevirtual 196, 3) := by decide +kernel
theorem dX7_readCount_61 : decode cX7_readCount 61 = .ok (.goto 123, 3) := by decide +kernel
theorem dX7_readCount_64 : decode cX7_readCount 64 = .ok (.aload_n 0, 1) := by decide +kernel
theorem dX7_readCount_65 : decode cX7_readCount 65 = .ok (.getfield 190, 3) := by decide +kernel
theorem dX7_readCount_68 : decode cX7_readCount 68 = .ok (.ifCond .ne 44, 3) := by decide +kernel
theorem dX7_readCount_71 : decode cX7_readCount 71 = .ok (.iload 7, 2) := by decide +kernel
theorem dX7_readCount_73 : decode cX7_readCount 73 = .ok (.sipush 128, 3) := by decide +kernel
theorem dX7_readCount_76 : decode cX7_readCount 76 = .ok (.if_icmp .ge 36, 3) := by decide +kernel
theorem dX7_readCount_79 : decode cX7_readCount 79 = .ok (.iload 5, 2) := by decide +kernel
theorem dX7_readCount_81 : decode cX7_readCount 81 = .ok (.ifCond .ne 12, 3) := by decide +kernel
theorem dX7_readCount_84 : decode cX7_readCount 84 = .ok (.lload_n 3, 1) := by decide +kernel
theorem dX7_readCount_85 : decode cX7_readCount 85 = .ok (.bipush 57, 2) := by decide +kernel
theorem dX7_readCount_87 : decode cX7_readCount 87 = .ok (.lushr, 1) := by decide +kernel
theorem dX7_readCount_88 : decode cX7_readCount 88 = .ok (.lconst 0, 1) := by decide +kernel
theorem dX7_readCount_89 : decode cX7_readCount 89 = .ok (.lcmp, 1) := by decide +kernel
theorem dX7_readCount_90 : decode cX7_readCount 90 = .ok (.ifCond .eq 7, 3) := by decide +kernel
theorem dX7_readCount_93 : decode cX7_readCount 93 = .ok (.iconst 1, 1) := by decide +kernel
theorem dX7_readCount_94 : decode cX7_readCount 94 = .ok (.goto 4, 3) := by decide +kernel
theorem dX7_readCount_97 : decode cX7_readCount 97 = .ok (.iconst 0, 1) := by decide +kernel
theorem dX7_readCount_98 : decode cX7_readCount 98 = .ok (.istore 5, 2) := by decide +kernel
theorem dX7_readCount_100 : decode cX7_readCount 100 = .ok (.lload_n 3, 1) := by decide +kernel
theorem dX7_readCount_101 : decode cX7_readCount 101 = .ok (.bipush 7, 2) := by decide +kernel
theorem dX7_readCount_103 : decode cX7_readCount 103 = .ok (.lshl, 1) := by decide +kernel
theorem dX7_readCount_104 : decode cX7_readCount 104 = .ok (.iload 7, 2) := by decide +kernel
theorem dX7_readCount_106 : decode cX7_readCount 106 = .ok (.i2l, 1) := by decide +kernel
theorem dX7_readCount_107 : decode cX7_readCount 107 = .ok (.lor, 1) := by decide +kernel
theorem dX7_readCount_108 : decode cX7_readCount 108 = .ok (.lstore_n 3, 1) := by decide +kernel
theorem dX7_readCount_109 : decode cX7_readCount 109 = .ok (.goto 75, 3) := by decide +kernel
theorem dX7_readCount_112 : decode cX7_readCount 112 = .ok (.aload_n 0, 1) := by decide +kernel
theorem dX7_readCount_113 : decode cX7_readCount 113 = .ok (.getfield 190, 3) := by decide +kernel
theorem dX7_readCount_116 : decode cX7_readCount 116 = .ok (.ifCond .ne 68, 3) := by decide +kernel
theorem dX7_readCount_119 : decode cX7_readCount 119 = .ok (.iload 5, 2) := by decide +kernel
theorem dX7_readCount_121 : decode cX7_readCount 121 = .ok (.ifCond .ne 12, 3) := by decide +kernel
theorem dX7_readCount_124 : decode cX7_readCount 124 = .ok (.lload_n 3, 1) := by decide +kernel
theorem dX7_readCount_125 : decode cX7_readCount 125 = .ok (.bipush 58, 2) := by decide +kernel
theorem dX7_readCount_127 : decode cX7_readCount 127 = .ok (.lushr, 1) := by decide +kernel
theorem dX7_readCount_128 : decode cX7_readCount 128 = .ok (.lconst 0, 1) := by decide +kernel
theorem dX7_readCount_129 : decode cX7_readCount 129 = .ok (.lcmp, 1) := by decide +kernel
theorem dX7_readCount_130 : decode cX7_readCount 130 = .ok (.ifCond .eq 7, 3) := by decide +kernel
theorem dX7_readCount_133 : decode cX7_readCount 133 = .ok (.iconst 1, 1) := by decide +kernel
theorem dX7_readCount_134 : decode cX7_readCount 134 = .ok (.goto 4, 3) := by decide +kernel
theorem dX7_readCount_137 : decode cX7_readCount 137 = .ok (.iconst 0, 1) := by decide +kernel
theorem dX7_readCount_138 : decode cX7_readCount 138 = .ok (.istore 5, 2) := by decide +kernel
theorem dX7_readCount_140 : decode cX7_readCount 140 = .ok (.lload_n 3, 1) := by decide +kernel
theorem dX7_readCount_141 : decode cX7_readCount 141 = .ok (.bipush 6, 2) := by decide +kernel
theorem dX7_readCount_143 : decode cX7_readCount 143 = .ok (.lshl, 1) := by decide +kernel
theorem dX7_readCount_144 : decode cX7_readCount 144 = .ok (.iload 7, 2) := by decide +kernel
theorem dX7_readCount_146 : decode cX7_readCount 146 = .ok (.bipush 63, 2) := by decide +kernel
theorem dX7_readCount_148 : decode cX7_readCount 148 = .ok (.iand, 1) := by decide +kernel
theorem dX7_readCount_149 : decode cX7_readCount 149 = .ok (.i2l, 1) := by decide +kernel
theorem dX7_readCount_150 : decode cX7_readCount 150 = .ok (.lor, 1) := by decide +kernel
theorem dX7_readCount_151 : decode cX7_readCount 151 = .ok (.lstore_n 3, 1) := by decide +kernel
theorem dX7_readCount_152 : decode cX7_readCount 152 = .ok (.iload 5, 2) := by decide +kernel
theorem dX7_readCount_154 : decode cX7_readCount 154 = .ok (.ifCond .ne 18, 3) := by decide +kernel
theorem dX7_readCount_157 : decode cX7_readCount 157 = .ok (.iload_n 2, 1) := by decide +kernel
theorem dX7_readCount_158 : decode cX7_readCount 158 = .ok (.bipush 32, 2) := by decide +kernel
theorem dX7_readCount_160 : decode cX7_readCount 160 = .ok (.if_icmp .ne 22, 3) := by decide +kernel
theorem dX7_readCount_163 : decode cX7_readCount 163 = .ok (.lload_n 3, 1) := by decide +kernel
theorem dX7_readCount_164 : decode cX7_readCount 164 = .ok (.bipush 32, 2) := by decide +kernel
theorem dX7_readCount_166 : decode cX7_readCount 166 = .ok (.lushr, 1) := by decide +kernel
theorem dX7_readCount_167 : decode cX7_readCount 167 = .ok (.lconst 0, 1) := by decide +kernel
theorem dX7_readCount_168 : decode cX7_readCount 168 = .ok (.lcmp, 1) := by decide +kernel
theorem dX7_readCount_169 : decode cX7_readCount 169 = .ok (.ifCond .eq 13, 3) := by decide +kernel
theorem dX7_readCount_172 : decode cX7_readCount 172 = .ok (.aload_n 0, 1) := by decide +kernel
theorem dX7_readCount_173 : decode cX7_readCount 173 = .ok (.bipush 6, 2) := by decide +kernel
theorem dX7_readCount_175 : decode cX7_readCount 175 = .ok (.aload_n 0, 1) := by decide +kernel
theorem dX7_readCount_176 : decode cX7_readCount 176 = .ok (.getfield 203, 3) := by decide +kernel
theorem dX7_readCount_179 : decode cX7_readCount 179 = .ok (.invokevirtual 196, 3) := by decide +kernel
theorem dX7_readCount_182 : decode cX7_readCount 182 = .ok (.lload_n 3, 1) := by decide +kernel
theorem dX7_readCount_183 : decode cX7_readCount 183 = .ok (.lreturn, 1) := by decide +kernel
theorem dX7_readCount_184 : decode cX7_readCount 184 = .ok (.iinc 6 1, 3) := by decide +kernel
theorem dX7_readCount_187 : decode cX7_readCount 187 = .ok (.goto (-179), 3) := by decide +kernel
theorem dX7_readCount_190 : decode cX7_readCount 190 = .ok (.lconst 0, 1) := by decide +kernel
theorem dX7_readCount_191 : decode cX7_readCount 191 = .ok (.lreturn, 1) := by decide +kernel
theorem dX7_readHead_0 : decode cX7_readHead 0 = .ok (.iconst 0, 1) := by decide +kernel
theorem dX7_readHead_1 : decode cX7_readHead 1 = .ok (.istore_n 1, 1) := by decide +kernel
theorem dX7_readHead_2 : decode cX7_readHead 2 = .ok (.iload_n 1, 1) := by decide +kernel
theorem dX7_readHead_3 : decode cX7_readHead 3 = .ok (.iconst 4, 1) := by decide +kernel
theorem dX7_readHead_4 : decode cX7_readHead 4 = .ok (.if_icmp .ge 132, 3) := by decide +kernel
theorem dX7_readHead_7 : decode cX7_readHead 7 = .ok (.aload_n 0, 1) := by decide +kernel
theorem dX7_readHead_8 : decode cX7_readHead 8 = .ok (.getfield 190, 3) := by decide +kernel
theorem dX7_readHead_11 : decode cX7_readHead 11 = .ok (.ifCond .ne 125, 3) := by decide +kernel
theorem dX7_readHead_14 : decode cX7_readHead 14 = .ok (.aload_n 0, 1) := by decide +kernel
theorem dX7_readHead_15 : decode cX7_readHead 15 = .ok (.getfield 193, 3) := by decide +kernel
theorem dX7_readHead_18 : decode cX7_readHead 18 = .ok (.aload_n 0, 1) := by decide +kernel
theorem dX7_readHead_19 : decode cX7_readHead 19 = .ok (.getfield 74, 3) := by decide +kernel
theorem dX7_readHead_22 : decode cX7_readHead 22 = .ok (.if_icmp .ne 13, 3) := by decide +kernel
theorem dX7_readHead_25 : decode cX7_readHead 25 = .ok (.aload_n 0, 1) := by decide +kernel
theorem dX7_readHead_26 : decode cX7_readHead 26 = .ok (.iconst 1, 1) := by decide +kernel
theorem dX7_readHead_27 : decode cX7_readHead 27 = .ok (.aload_n 0, 1) := by decide +kernel
theorem dX7_readHead_28 : decode cX7_readHead 28 = .ok (.getfield 193, 3) := by decide +kernel
theorem dX7_readHead_31 : decode cX7_readHead 31 = .ok (.invokevirtual 196, 3) := by decide +kernel
theorem dX7_readHead_34 : decode cX7_readHead 34 = .ok (.return_, 1) := by decide +kernel
theorem dX7_readHead_35 : decode cX7_readHead 35 = .ok (.aload_n 0, 1) := by decide +kernel
theorem dX7_readHead_36 : decode cX7_readHead 36 = .ok (.invokevirtual 199, 3) := by decide +kernel
theorem dX7_readHead_39 : decode cX7_readHead 39 = .ok (.istore_n 2, 1) := by decide +kernel
theorem dX7_readHead_40 : decode cX7_readHead 40 = .ok (.iload_n 1, 1) := by decide +kernel
theorem dX7_readHead_41 : decode cX7_readHead 41 = .ok (.ifCond .ne 17, 3) := by decide +kernel
theorem dX7_readHead_44 : decode cX7_readHead 44 = .ok (.iload_n 2, 1) := by decide +kernel
theorem dX7_readHead_45 : decode cX7_readHead 45 = .ok (.bipush 58, 2) := by decide +kernel
theorem dX7_readHead_47 : decode cX7_readHead 47 = .ok (.if_icmp .ne 7, 3) := by decide +kernel
theorem dX7_readHead_50 : decode cX7_readHead 50 = .ok (.iconst 1, 1) := by decide +kernel
theorem dX7_readHead_51 : decode cX7_readHead 51 = .ok (.goto 56, 3) := by decide +kernel
theorem dX7_readHead_54 : decode cX7_readHead 54 = .ok (.iconst 0, 1) := by decide +kernel
theorem dX7_readHead_55 : decode cX7_readHead 55 = .ok (.goto 52, 3) := by decide +kernel
theorem dX7_readHead_58 : decode cX7_readHead 58 = .ok (.iload_n 1, 1) := by decide +kernel
theorem dX7_readHead_59 : decode cX7_readHead 59 = .ok (.iconst 1, 1) := by decide +kernel
theorem dX7_readHead_60 : decode cX7_readHead 60 = .ok (.if_icmp .ne 17, 3) := by decide +kernel
theorem dX7_readHead_63 : decode cX7_readHead 63 = .ok (.iload_n 2, 1) := by decide +kernel
theorem dX7_readHead_64 : decode cX7_readHead 64 = .ok (.bipush 41, 2) := by decide +kernel
theorem dX7_readHead_66 : decode cX7_readHead 66 = .ok (.if_icmp .ne 7, 3) := by decide +kernel
theorem dX7_readHead_69 : decode cX7_readHead 69 = .ok (.iconst 1, 1) := by decide +kernel
theorem dX7_readHead_70 : decode cX7_readHead 70 = .ok (.goto 37, 3) := by decide +kernel
theorem dX7_readHead_73 : decode cX7_readHead 73 = .ok (.iconst 0, 1) := by decide +kernel
theorem dX7_readHead_74 : decode cX7_readHead 74 = .ok (.goto 33, 3) := by decide +kernel
theorem dX7_readHead_77 : decode cX7_readHead 77 = .ok (.iload_n 1, 1) := by decide +kernel
theorem dX7_readHead_78 : decode cX7_readHead 78 = .ok (.iconst 2, 1) := by decide +kernel
theorem dX7_readHead_79 : decode cX7_readHead 79 = .ok (.if_icmp .ne 17, 3) := by decide +kernel
theorem dX7_readHead_82 : decode cX7_readHead 82 = .ok (.iload_n 2, 1) := by decide +kernel
theorem dX7_readHead_83 : decode cX7_readHead 83 = .ok (.bipush 10, 2) := by decide +kernel
theorem dX7_readHead_85 : decode cX7_readHead 85 = .ok (.if_icmp .ne 7, 3) := by decide +kernel
theorem dX7_readHead_88 : decode cX7_readHead 88 = .ok (.iconst 1, 1) := by decide +kernel
theorem dX7_readHead_89 : decode cX7_readHead 89 = .ok (.goto 18, 3) := by decide +kernel
theorem dX7_readHead_92 : decode cX7_readHead 92 = .ok (.iconst 0, 1) := by decide +kernel
theorem dX7_readHead_93 : decode cX7_readHead 93 = .ok (.goto 14, 3) := by decide +kernel
theorem dX7_readHead_96 : decode cX7_readHead 96 = .ok (.iload_n 2, 1) := by decide +kernel
theorem dX7_readHead_97 : decode cX7_readHead 97 = .ok (.bipush 7, 2) := by decide +kernel
theorem dX7_readHead_99 : decode cX7_readHead 99 = .ok (.if_icmp .gt 7, 3) := by decide +kernel
theorem dX7_readHead_102 : decode cX7_readHead 102 = .ok (.iconst 1, 1) := by decide +kernel
theorem dX7_readHead_103 : decode cX7_readHead 103 = .ok (.goto 4, 3) := by decide +kernel
theorem dX7_readHead_106 : decode cX7_readHead 106 = .ok (.iconst 0, 1) := by decide +kernel
theorem dX7_readHead_107 : decode cX7_readHead 107 = .ok (.istore_n 3, 1) := by decide +kernel
theorem dX7_readHead_108 : decode cX7_readHead 108 = .ok (.aload_n 0, 1) := by decide +kernel
theorem dX7_readHead_109 : decode cX7_readHead 109 = .ok (.getfield 190, 3) := by decide +kernel
theorem dX7_readHead_112 : decode cX7_readHead 112 = .ok (.ifCond .ne 13, 3) := by decide +kernel
theorem dX7_readHead_115 : decode cX7_readHead 115 = .ok (.iload_n 3, 1) := by decide +kernel
theorem dX7_readHead_116 : decode cX7_readHead 116 = .ok (.ifCond .ne 9, 3) := by decide +kernel
theorem dX7_readHead_119 : decode cX7_readHead 119 = .ok (.aload_n 0, 1) := by decide +kernel
theorem dX7_readHead_120 : decode cX7_readHead 120 = .ok (.iconst 1, 1) := by decide +kernel
theorem dX7_readHead_121 : decode cX7_readHead 121 = .ok (.iload_n 1, 1) := by decide +kernel
theorem dX7_readHead_122 : decode cX7_readHead 122 = .ok (.invokevirtual 196, 3) := by decide +kernel
theorem dX7_readHead_125 : decode cX7_readHead 125 = .ok (.aload_n 0, 1) := by decide +kernel
theorem dX7_readHead_126 : decode cX7_readHead 126 = .ok (.iload_n 2, 1) := by decide +kernel
theorem dX7_readHead_127 : decode cX7_readHead 127 = .ok (.putfield 219, 3) := by decide +kernel
theorem dX7_readHead_130 : decode cX7_readHead 130 = .ok (.iinc 1 1, 3) := by decide +kernel
theorem dX7_readHead_133 : decode cX7_readHead 133 = .ok (.goto (-131), 3) := by decide +kernel
theorem dX7_readHead_136 : decode cX7_readHead 136 = .ok (.return_, 1) := by decide +kernel
theorem dX7_readName_0 : decode cX7_readName 0 = .ok (.aload_n 0, 1) := by decide +kernel
theorem dX7_readName_1 : decode cX7_readName 1 = .ok (.getfield 219, 3) := by decide +kernel
theorem dX7_readName_4 : decode cX7_readName 4 = .ok (.iconst 1, 1) := by decide +kernel
theorem dX7_readName_5 : decode cX7_readName 5 = .ok (.iand, 1) := by decide +kernel
theorem dX7_readName_6 : decode cX7_readName 6 = .ok (.iconst 1, 1) := by decide +kernel
theorem dX7_readName_7 : decode cX7_readName 7 = .ok (.if_icmp .ne 7, 3) := by decide +kernel
theorem dX7_readName_10 : decode cX7_readName 10 = .ok (.iconst 1, 1) := by decide +kernel
theorem dX7_readName_11 : decode cX7_readName 11 = .ok (.goto 4, 3) := by decide +kernel
theorem dX7_readName_14 : decode cX7_readName 14 = .ok (.iconst 0, 1) := by decide +kernel
theorem dX7_readName_15 : decode cX7_readName 15 = .ok (.istore_n 2, 1) := by decide +kernel
theorem dX7_readName_16 : decode cX7_readName 16 = .ok (.iload_n 1, 1) := by decide +kernel
theorem dX7_readName_17 : decode cX7_readName 17 = .ok (.bipush 32, 2) := by decide +kernel
theorem dX7_readName_19 : decode cX7_readName 19 = .ok (.if_icmp .ne 14, 3) := by decide +kernel
theorem dX7_readName_22 : decode cX7_readName 22 = .ok (.aload_n 0, 1) := by decide +kernel
theorem dX7_readName_23 : decode cX7_readName 23 = .ok (.bipush 10, 2) := by decide +kernel
theorem dX7_readName_25 : decode cX7_readName 25 = .ok (.iconst 1, 1) := by decide +kernel
theorem dX7_readName_26 : decode cX7_readName 26 = .ok (.iconst 0, 1) := by decide +kernel
theorem dX7_readName_27 : decode cX7_readName 27 = .ok (.invokevirtual 222, 3) := by decide +kernel
theorem dX7_readName_30 : decode cX7_readName 30 = .ok (.goto 194, 3) := by decide +kernel
theorem dX7_readName_33 : decode cX7_readName 33 = .ok (.iload_n 1, 1) := by decide +kernel
theorem dX7_readName_34 : decode cX7_readName 34 = .ok (.bipush 48, 2) := by decide +kernel
theorem dX7_readName_36 : decode cX7_readName 36 = .ok (.if_icmp .lt 38, 3) := by decide +kernel
theorem dX7_readName_39 : decode cX7_readName 39 = .ok (.iload_n 1, 1) := by decide +kernel
theorem dX7_readName_40 : decode cX7_readName 40 = .ok (.bipush 51, 2) := by decide +kernel
theorem dX7_readName_42 : decode cX7_readName 42 = .ok (.if_icmp .gt 32, 3) := by decide +kernel
theorem dX7_readName_45 : decode cX7_readName 45 = .ok (.iload_n 2, 1) := by decide +kernel
theorem dX7_readName_46 : decode cX7_readName 46 = .ok (.ifCond .eq 28, 3) := by decide +kernel
theorem dX7_readName_49 : decode cX7_readName 49 = .ok (.aload_n 0, 1) := by decide +kernel
theorem dX7_readName_50 : decode cX7_readName 50 = .ok (.invokevirtual 199, 3) := by decide +kernel
theorem dX7_readName_53 : decode cX7_readName 53 = .ok (.istore_n 3, 1) := by decide +kernel
theorem dX7_readName_54 : decode cX7_readName 54 = .ok (.aload_n 0, 1) := by decide +kernel
theorem dX7_readName_55 : decode cX7_readName 55 = .ok (.bipush 10, 2) := by decide +kernel
theorem dX7_readName_57 : decode cX7_readName 57 = .ok (.iconst 0, 1) := by decide +kernel
theorem dX7_readName_58 : decode cX7_readName 58 = .ok (.sipush 256, 3) := by decide +kernel
theorem dX7_readName_61 : decode cX7_readName 61 = .ok (.iload_n 1, 1) := by decide +kernel
theorem dX7_readName_62 : decode cX7_readName 62 = .ok (.bipush 48, 2) := by decide +kernel
theorem dX7_readName_64 : decode cX7_readName 64 = .ok (.isub, 1) := by decide +kernel
theorem dX7_readName_65 : decode cX7_readName 65 = .ok (.imul, 1) := by decide +kernel
theorem dX7_readName_66 : decode cX7_readName 66 = .ok (.iload_n 3, 1) := by decide +kernel
theorem dX7_readName_67 : decode cX7_readName 67 = .ok (.iadd, 1) := by decide +kernel
theorem dX7_readName_68 : decode cX7_readName 68 = .ok (.invokevirtual 226, 3) := by decide +kernel
theorem dX7_readName_71 : decode cX7_readName 71 = .ok (.goto 153, 3) := by decide +kernel
theorem dX7_readName_74 : decode cX7_readName 74 = .ok (.iload_n 1, 1) := by decide +kernel
theorem dX7_readName_75 : decode cX7_readName 75 = .ok (.bipush 52, 2) := by decide +kernel
theorem dX7_readName_77 : decode cX7_readName 77 = .ok (.if_icmp .ne 18, 3) := by decide +kernel
theorem dX7_readName_80 : decode cX7_readName 80 = .ok (.aload_n 0, 1) := by decide +kernel
theorem dX7_readName_81 : decode cX7_readName 81 = .ok (.invokevirtual 229, 3) := by decide +kernel
theorem dX7_readName_84 : decode cX7_readName 84 = .ok (.aload_n 0, 1) := by decide +kernel
theorem dX7_readName_85 : decode cX7_readName 85 = .ok (.bipush 10, 2) := by decide +kernel
theorem dX7_readName_87 : decode cX7_readName 87 = .ok (.iconst 1, 1) := by decide +kernel
theorem dX7_readName_88 : decode cX7_readName 88 = .ok (.iconst 0, 1) := by decide +kernel
theorem dX7_readName_89 : decode cX7_readName 89 = .ok (.invokevirtual 222, 3) := by decide +kernel
theorem dX7_readName_92 : decode cX7_readName 92 = .ok (.goto 132, 3) := by decide +kernel
theorem dX7_readName_95 : decode cX7_readName 95 = .ok (.iload_n 1, 1) := by decide +kernel
theorem dX7_readName_96 : decode cX7_readName 96 = .ok (.bipush 64, 2) := by decide +kernel
theorem dX7_readName_98 : decode cX7_readName 98 = .ok (.if_icmp .lt 27, 3) := by decide +kernel
theorem dX7_readName_101 : decode cX7_readName 101 = .ok (.iload_n 1, 1) := by decide +kernel
theorem dX7_readName_102 : decode cX7_readName 102 = .ok (.bipush 127, 2) := by decide +kernel
theorem dX7_readName_104 : decode cX7_readName 104 = .ok (.if_icmp .gt 21, 3) := by decide +kernel
theorem dX7_readName_107 : decode cX7_readName 107 = .ok (.iload_n 2, 1) := by decide +kernel
theorem dX7_readName_108 : decode cX7_readName 108 = .ok (.ifCond .eq 17, 3) := by decide +kernel
theorem dX7_readName_111 : decode cX7_readName 111 = .ok (.aload_n 0, 1) := by decide +kernel
theorem dX7_readName_112 : decode cX7_readName 112 = .ok (.bipush 10, 2) := by decide +kernel
theorem dX7_readName_114 : decode cX7_readName 114 = .ok (.iconst 0, 1) := by decide +kernel
theorem dX7_readName_115 : decode cX7_readName 115 = .ok (.iload_n 1, 1) := by decide +kernel
theorem dX7_readName_116 : decode cX7_readName 116 = .ok (.bipush 64, 2) := by decide +kernel
theorem dX7_readName_118 : decode cX7_readName 118 = .ok (.isub, 1) := by decide +kernel
theorem dX7_readName_119 : decode cX7_readName 119 = .ok (.invokevirtual 226, 3) := by decide +kernel
theorem dX7_readName_122 : decode cX7_readName 122 = .ok (.goto 102, 3) := by decide +kernel
theorem dX7_readName_125 : decode cX7_readName 125 = .ok (.iload_n 1, 1) := by decide +kernel
theorem dX7_readName_126 : decode cX7_readName 126 = .ok (.sipush 128, 3) := by decide +kernel
theorem dX7_readName_129 : decode cX7_readName 129 = .ok (.if_icmp .lt 32, 3) := by decide +kernel
theorem dX7_readName_132 : decode cX7_readName 132 = .ok (.iload_n 1, 1) := by decide +kernel
theorem dX7_readName_133 : decode cX7_readName 133 = .ok (.sipush 191, 3) := by decide +kernel
theorem dX7_readName_136 : decode cX7_readName 136 = .ok (.if_icmp .gt 25, 3) := by decide +kernel
theorem dX7_readName_139 : decode cX7_readName 139 = .ok (.aload_n 0, 1) := by decide +kernel
theorem dX7_readName_140 : decode cX7_readName 140 = .ok (.iload_n 1, 1) := by decide +kernel
theorem dX7_readName_141 : decode cX7_readName 141 = .ok (.sipush 128, 3) := by decide +kernel
theorem dX7_readName_144 : decode cX7_readName 144 = .ok (.isub, 1) := by decide +kernel
theorem dX7_readName_145 : decode cX7_readName 145 = .ok (.iconst 1, 1) := by decide +kernel
theorem dX7_readName_146 : decode cX7_readName 146 = .ok (.iadd, 1) := by decide +kernel
theorem dX7_readName_147 : decode cX7_readName 147 = .ok (.invokevirtual 232, 3) := by decide +kernel
theorem dX7_readName_150 : decode cX7_readName 150 = .ok (.aload_n 0, 1) := by decide +kernel
theorem dX7_readName_151 : decode cX7_readName 151 = .ok (.bipush 10, 2) := by decide +kernel
theorem dX7_readName_153 : decode cX7_readName 153 = .ok (.iconst 1, 1) := by decide +kernel
theorem dX7_readName_154 : decode cX7_readName 154 = .ok (.iconst 1, 1) := by decide +kernel
theorem dX7_readName_155 : decode cX7_readName 155 = .ok (.invokevirtual 222, 3) := by decide +kernel
theorem dX7_readName_158 : decode cX7_readName 158 = .ok (.goto 66, 3) := by decide +kernel
theorem dX7_readName_161 : decode cX7_readName 161 = .ok (.iload_n 1, 1) := by decide +kernel
theorem dX7_readName_162 : decode cX7_readName 162 = .ok (.sipush 192, 3) := by decide +kernel
theorem dX7_readName_165 : decode cX7_readName 165 = .ok (.if_icmp .lt 32, 3) := by decide +kernel
theorem dX7_readName_168 : decode cX7_readName 168 = .ok (.iload_n 1, 1) := by decide +kernel
theorem dX7_readName_169 : decode cX7_readName 169 = .ok (.sipush 247, 3) := by decide +kernel
theorem dX7_readName_172 : decode cX7_readName 172 = .ok (.if_icmp .gt 25, 3) := by decide +kernel
theorem dX7_readName_175 : decode cX7_readName 175 = .ok (.aload_n 0, 1) := by decide +kernel
theorem dX7_readName_176 : decode cX7_readName 176 = .ok (.iload_n 1, 1) := by decide +kernel
theorem dX7_readName_177 : decode cX7_readName 177 = .ok (.sipush 192, 3) := by decide +kernel
theorem dX7_readName_180 : decode cX7_readName 180 = .ok (.isub, 1) := by decide +kernel
theorem dX7_readName_181 : decode cX7_readName 181 = .ok (.iconst 2, 1) := by decide +kernel
theorem dX7_readName_182 : decode cX7_readName 182 = .ok (.iadd, 1) := by decide +kernel
theorem dX7_readName_183 : decode cX7_readName 183 = .ok (.invokevirtual 232, 3) := by decide +kernel
theorem dX7_readName_186 : decode cX7_readName 186 = .ok (.aload_n 0, 1) := by decide +kernel
theorem dX7_readName_187 : decode cX7_readName 187 = .ok (.bipush 10, 2) := by decide +kernel
theorem dX7_readName_189 : decode cX7_readName 189 = .ok (.iconst 1, 1) := by decide +kernel
theorem dX7_readName_190 : decode cX7_readName 190 = .ok (.iconst 0, 1) := by decide +kernel
theorem dX7_readName_191 : decode cX7_readName 191 = .ok (.invokevirtual 222, 3) := by decide +kernel
theorem dX7_readName_194 : decode cX7_readName 194 = .ok (.goto 30, 3) := by decide +kernel
theorem dX7_readName_197 : decode cX7_readName 197 = .ok (.iload_n 1, 1) := by decide +kernel
theorem dX7_readName_198 : decode cX7_readName 198 = .ok (.sipush 251, 3) := by decide +kernel
theorem dX7_readName_201 : decode cX7_readName 201 = .ok (.if_icmp .ne 14, 3) := by decide +kernel
theorem dX7_readName_204 : decode cX7_readName 204 = .ok (.aload_n 0, 1) := by decide +kernel
theorem dX7_readName_205 : decode cX7_readName 205 = .ok (.bipush 11, 2) := by decide +kernel
theorem dX7_readName_207 : decode cX7_readName 207 = .ok (.lconst 0, 1) := by decide +kernel
theorem dX7_readName_208 : decode cX7_readName 208 = .ok (.iconst 0, 1) := by decide +kernel
theorem dX7_readName_209 : decode cX7_readName 209 = .ok (.invokevirtual 235, 3) := by decide +kernel
theorem dX7_readName_212 : decode cX7_readName 212 = .ok (.goto 12, 3) := by decide +kernel
theorem dX7_readName_215 : decode cX7_readName 215 = .ok (.aload_n 0, 1) := by decide +kernel
theorem dX7_readName_216 : decode cX7_readName 216 = .ok (.iconst 3, 1) := by decide +kernel
theorem dX7_readName_217 : decode cX7_readName 217 = .ok (.aload_n 0, 1) := by decide +kernel
theorem dX7_readName_218 : decode cX7_readName 218 = .ok (.getfield 203, 3) := by decide +kernel
theorem dX7_readName_221 : decode cX7_readName 221 = .ok (.invokevirtual 196, 3) := by decide +kernel
theorem dX7_readName_224 : decode cX7_readName 224 = .ok (.return_, 1) := by decide +kernel
theorem dX7_readReal_0 : decode cX7_readReal 0 = .ok (.lconst 0, 1) := by decide +kernel
theorem dX7_readReal_1 : decode cX7_readReal 1 = .ok (.lstore_n 3, 1) := by decide +kernel
theorem dX7_readReal_2 : decode cX7_readReal 2 = .ok (.iconst 0, 1) := by decide +kernel
theorem dX7_readReal_3 : decode cX7_readReal 3 = .ok (.istore 5, 2) := by decide +kernel
theorem dX7_readReal_5 : decode cX7_readReal 5 = .ok (.iconst 0, 1) := by decide +kernel
theorem dX7_readReal_6 : decode cX7_readReal 6 = .ok (.istore 6, 2) := by decide +kernel
theorem dX7_readReal_8 : decode cX7_readReal 8 = .ok (.iload 6, 2) := by decide +kernel
theorem dX7_readReal_10 : decode cX7_readReal 10 = .ok (.iload_n 1, 1) := by decide +kernel
theorem dX7_readReal_11 : decode cX7_readReal 11 = .ok (.if_icmp .ge 82, 3) := by decide +kernel
theorem dX7_readReal_14 : decode cX7_readReal 14 = .ok (.aload_n 0, 1) := by decide +kernel
theorem dX7_readReal_15 : decode cX7_readReal 15 = .ok (.invokevirtual 199, 3) := by decide +kernel
theorem dX7_readReal_18 : decode cX7_readReal 18 = .ok (.istore 7, 2) := by decide +kernel
theorem dX7_readReal_20 : decode cX7_readReal 20 = .ok (.aload_n 0, 1) := by decide +kernel
theorem dX7_readReal_21 : decode cX7_readReal 21 = .ok (.getfield 190, 3) := by decide +kernel
theorem dX7_readReal_24 : decode cX7_readReal 24 = .ok (.ifCond .ne 22, 3) := by decide +kernel
theorem dX7_readReal_27 : decode cX7_readReal 27 = .ok (.iload 7, 2) := by decide +kernel
theorem dX7_readReal_29 : decode cX7_readReal 29 = .ok (.sipush 128, 3) := by decide +kernel
theorem dX7_readReal_32 : decode cX7_readReal 32 = .ok (.if_icmp .lt 14, 3) := by decide +kernel
theorem dX7_readReal_35 : decode cX7_readReal 35 = .ok (.aload_n 0, 1) := by decide +kernel
theorem dX7_readReal_36 : decode cX7_readReal 36 = .ok (.iconst 3, 1) := by decide +kernel
theorem dX7_readReal_37 : decode cX7_readReal 37 = .ok (.aload_n 0, 1) := by decide +kernel
theorem dX7_readReal_38 : decode cX7_readReal 38 = .ok (.getfield 193, 3) := by decide +kernel
theorem dX7_readReal_41 : decode cX7_readReal 41 = .ok (.iconst 1, 1) := by decide +kernel
theorem dX7_readReal_42 : decode cX7_readReal 42 = .ok (.isub, 1) := by decide +kernel
theorem dX7_readReal_43 : decode cX7_readReal 43 = .ok (.invokevirtual 196, 3) := by decide +kernel
theorem dX7_readReal_46 : decode cX7_readReal 46 = .ok (.iload 5, 2) := by decide +kernel
theorem dX7_readReal_48 : decode cX7_readReal 48 = .ok (.ifCond .ne 12, 3) := by decide +kernel
theorem dX7_readReal_51 : decode cX7_readReal 51 = .ok (.lload_n 3, 1) := by decide +kernel
theorem dX7_readReal_52 : decode cX7_readReal 52 = .ok (.bipush 57, 2) := by decide +kernel
theorem dX7_readReal_54 : decode cX7_readReal 54 = .ok (.lushr, 1) := by decide +kernel
theorem dX7_readReal_55 : decode cX7_readReal 55 = .ok (.lconst 0, 1) := by decide +kernel
theorem dX7_readReal_56 : decode cX7_readReal 56 = .ok (.lcmp, 1) := by decide +kernel
theorem dX7_readReal_57 : decode cX7_readReal 57 = .ok (.ifCond .eq 7, 3) := by decide +kernel
theorem dX7_readReal_60 : decode cX7_readReal 60 = .ok (.iconst 1, 1) := by decide +kernel
theorem dX7_readReal_61 : decode cX7_readReal 61 = .ok (.goto 4, 3) := by decide +kernel
theorem dX7_readReal_64 : decode cX7_readReal 64 = .ok (.iconst 0, 1) := by decide +kernel
theorem dX7_readReal_65 : decode cX7_readReal 65 = .ok (.istore 5, 2) := by decide +kernel
theorem dX7_readReal_67 : decode cX7_readReal 67 = .ok (.aload_n 0, 1) := by decide +kernel
theorem dX7_readReal_68 : decode cX7_readReal 68 = .ok (.getfield 190, 3) := by decide +kernel
theorem dX7_readReal_71 : decode cX7_readReal 71 = .ok (.ifCond .le 7, 3) := by decide +kernel
theorem dX7_readReal_74 : decode cX7_readReal 74 = .ok (.lconst 0, 1) := by decide +kernel
theorem dX7_readReal_75 : decode cX7_readReal 75 = .ok (.goto 11, 3) := by decide +kernel
theorem dX7_readReal_78 : decode cX7_readReal 78 = .ok (.lload_n 3, 1) := by decide +kernel
theorem dX7_readReal_79 : decode cX7_readReal 79 = .ok (.bipush 7, 2) := by decide +kernel
theorem dX7_readReal_81 : decode cX7_readReal 81 = .ok (.lshl, 1) := by decide +kernel
theorem dX7_readReal_82 : decode cX7_readReal 82 = .ok (.iload 7, 2) := by decide +kernel
theorem dX7_readReal_84 : decode cX7_readReal 84 = .ok (.i2l, 1) := by decide +kernel
theorem dX7_readReal_85 : decode cX7_readReal 85 = .ok (.lor, 1) := by decide +kernel
theorem dX7_readReal_86 : decode cX7_readReal 86 = .ok (.lstore_n 3, 1) := by decide +kernel
theorem dX7_readReal_87 : decode cX7_readReal 87 = .ok (.iinc 6 1, 3) := by decide +kernel
theorem dX7_readReal_90 : decode cX7_readReal 90 = .ok (.goto (-82), 3) := by decide +kernel
theorem dX7_readReal_93 : decode cX7_readReal 93 = .ok (.iload 5, 2) := by decide +kernel
theorem dX7_readReal_95 : decode cX7_readReal 95 = .ok (.ifCond .ne 18, 3) := by decide +kernel
theorem dX7_readReal_98 : decode cX7_readReal 98 = .ok (.iload_n 2, 1) := by decide +kernel
theorem dX7_readReal_99 : decode cX7_readReal 99 = .ok (.bipush 32, 2) := by decide +kernel
theorem dX7_readReal_101 : decode cX7_readReal 101 = .ok (.if_icmp .ne 22, 3) := by decide +kernel
theorem dX7_readReal_104 : decode cX7_readReal 104 = .ok (.lload_n 3, 1) := by decide +kernel
theorem dX7_readReal_105 : decode cX7_readReal 105 = .ok (.bipush 32, 2) := by decide +kernel
theorem dX7_readReal_107 : decode cX7_readReal 107 = .ok (.lushr, 1) := by decide +kernel
theorem dX7_readReal_108 : decode cX7_readReal 108 = .ok (.lconst 0, 1) := by decide +kernel
theorem dX7_readReal_109 : decode cX7_readReal 109 = .ok (.lcmp, 1) := by decide +kernel
theorem dX7_readReal_110 : decode cX7_readReal 110 = .ok (.ifCond .eq 13, 3) := by decide +kernel
theorem dX7_readReal_113 : decode cX7_readReal 113 = .ok (.aload_n 0, 1) := by decide +kernel
theorem dX7_readReal_114 : decode cX7_readReal 114 = .ok (.bipush 6, 2) := by decide +kernel
theorem dX7_readReal_116 : decode cX7_readReal 116 = .ok (.aload_n 0, 1) := by decide +kernel
theorem dX7_readReal_117 : decode cX7_readReal 117 = .ok (.getfield 203, 3) := by decide +kernel
theorem dX7_readReal_120 : decode cX7_readReal 120 = .ok (.invokevirtual 196, 3) := by decide +kernel
theorem dX7_readReal_123 : decode cX7_readReal 123 = .ok (.lload_n 3, 1) := by decide +kernel
theorem dX7_readReal_124 : decode cX7_readReal 124 = .ok (.lreturn, 1) := by decide +kernel
theorem dX7_readText_0 : decode cX7_readText 0 = .ok (.aload_n 0, 1) := by decide +kernel
theorem dX7_readText_1 : decode cX7_readText 1 = .ok (.getfield 219, 3) := by decide +kernel
theorem dX7_readText_4 : decode cX7_readText 4 = .ok (.iconst 2, 1) := by decide +kernel
theorem dX7_readText_5 : decode cX7_readText 5 = .ok (.iand, 1) := by decide +kernel
theorem dX7_readText_6 : decode cX7_readText 6 = .ok (.iconst 2, 1) := by decide +kernel
theorem dX7_readText_7 : decode cX7_readText 7 = .ok (.if_icmp .ne 7, 3) := by decide +kernel
theorem dX7_readText_10 : decode cX7_readText 10 = .ok (.iconst 1, 1) := by decide +kernel
theorem dX7_readText_11 : decode cX7_readText 11 = .ok (.goto 4, 3) := by decide +kernel
theorem dX7_readText_14 : decode cX7_readText 14 = .ok (.iconst 0, 1) := by decide +kernel
theorem dX7_readText_15 : decode cX7_readText 15 = .ok (.istore_n 2, 1) := by decide +kernel
theorem dX7_readText_16 : decode cX7_readText 16 = .ok (.iload_n 1, 1) := by decide +kernel
theorem dX7_readText_17 : decode cX7_readText 17 = .ok (.iconst 1, 1) := by decide +kernel
theorem dX7_readText_18 : decode cX7_readText 18 = .ok (.if_icmp .lt 25, 3) := by decide +kernel
theorem dX7_readText_21 : decode cX7_readText 21 = .ok (.iload_n 1, 1) := by decide +kernel
theorem dX7_readText_22 : decode cX7_readText 22 = .ok (.bipush 31, 2) := by decide +kernel
theorem dX7_readText_24 : decode cX7_readText 24 = .ok (.if_icmp .gt 19, 3) := by decide +kernel
theorem dX7_readText_27 : decode cX7_readText 27 = .ok (.iload_n 2, 1) := by decide +kernel
theorem dX7_readText_28 : decode cX7_readText 28 = .ok (.ifCond .eq 15, 3) := by decide +kernel
theorem dX7_readText_31 : decode cX7_readText 31 = .ok (.aload_n 0, 1) := by decide +kernel
theorem dX7_readText_32 : decode cX7_readText 32 = .ok (.iconst 3, 1) := by decide +kernel
theorem dX7_readText_33 : decode cX7_readText 33 = .ok (.iconst 1, 1) := by decide +kernel
theorem dX7_readText_34 : decode cX7_readText 34 = .ok (.iload_n 1, 1) := by decide +kernel
theorem dX7_readText_35 : decode cX7_readText 35 = .ok (.iconst 1, 1) := by decide +kernel
theorem dX7_readText_36 : decode cX7_readText 36 = .ok (.isub, 1) := by decide +kernel
theorem dX7_readText_37 : decode cX7_readText 37 = .ok (.invokevirtual 226, 3) := by decide +kernel
theorem dX7_readText_40 : decode cX7_readText 40 = .ok (.goto 195, 3) := by decide +kernel
theorem dX7_readText_43 : decode cX7_readText 43 = .ok (.iload_n 1, 1) := by decide +kernel
theorem dX7_readText_44 : decode cX7_readText 44 = .ok (.sipush 236, 3) := by decide +kernel
theorem dX7_readText_47 : decode cX7_readText 47 = .ok (.if_icmp .lt 39, 3) := by decide +kernel
theorem dX7_readText_50 : decode cX7_readText 50 = .ok (.iload_n 1, 1) := by decide +kernel
theorem dX7_readText_51 : decode cX7_readText 51 = .ok (.sipush 239, 3) := by decide +kernel
theorem dX7_readText_54 : decode cX7_readText 54 = .ok (.if_icmp .gt 32, 3) := by decide +kernel
theorem dX7_readText_57 : decode cX7_readText 57 = .ok (.iload_n 2, 1) := by decide +kernel
theorem dX7_readText_58 : decode cX7_readText 58 = .ok (.ifCond .eq 28, 3) := by decide +kernel
theorem dX7_readText_61 : decode cX7_readText 61 = .ok (.aload_n 0, 1) := by decide +kernel
theorem dX7_readText_62 : decode cX7_readText 62 = .ok (.invokevirtual 199, 3) := by decide +kernel
theorem dX7_readText_65 : decode cX7_readText 65 = .ok (.istore_n 3, 1) := by decide +kernel
theorem dX7_readText_66 : decode cX7_readText 66 = .ok (.aload_n 0, 1) := by decide +kernel
theorem dX7_readText_67 : decode cX7_readText 67 = .ok (.iconst 3, 1) := by decide +kernel
theorem dX7_readText_68 : decode cX7_readText 68 = .ok (.iconst 1, 1) := by decide +kernel
theorem dX7_readText_69 : decode cX7_readText 69 = .ok (.sipush 256, 3) := by decide +kernel
theorem dX7_readText_72 : decode cX7_readText 72 = .ok (.iload_n 1, 1) := by decide +kernel
theorem dX7_readText_73 : decode cX7_readText 73 = .ok (.sipush 236, 3) := by decide +kernel
theorem dX7_readText_76 : decode cX7_readText 76 = .ok (.isub, 1) := by decide +kernel
theorem dX7_readText_77 : decode cX7_readText 77 = .ok (.imul, 1) := by decide +kernel
theorem dX7_readText_78 : decode cX7_readText 78 = .ok (.iload_n 3, 1) := by decide +kernel
theorem dX7_readText_79 : decode cX7_readText 79 = .ok (.iadd, 1) := by decide +kernel
theorem dX7_readText_80 : decode cX7_readText 80 = .ok (.invokevirtual 226, 3) := by decide +kernel
theorem dX7_readText_83 : decode cX7_readText 83 = .ok (.goto 152, 3) := by decide +kernel
theorem dX7_readText_86 : decode cX7_readText 86 = .ok (.iload_n 1, 1) := by decide +kernel
theorem dX7_readText_87 : decode cX7_readText 87 = .ok (.bipush 32, 2) := by decide +kernel
theorem dX7_readText_89 : decode cX7_readText 89 = .ok (.if_icmp .ne 13, 3) := by decide +kernel
theorem dX7_readText_92 : decode cX7_readText 92 = .ok (.aload_n 0, 1) := by decide +kernel
theorem dX7_readText_93 : decode cX7_readText 93 = .ok (.iconst 3, 1) := by decide +kernel
theorem dX7_readText_94 : decode cX7_readText 94 = .ok (.iconst 1, 1) := by decide +kernel
theorem dX7_readText_95 : decode cX7_readText 95 = .ok (.iconst 0, 1) := by decide +kernel
theorem dX7_readText_96 : decode cX7_readText 96 = .ok (.invokevirtual 222, 3) := by decide +kernel
theorem dX7_readText_99 : decode cX7_readText 99 = .ok (.goto 136, 3) := by decide +kernel
theorem dX7_readText_102 : decode cX7_readText 102 = .ok (.iload_n 1, 1) := by decide +kernel
theorem dX7_readText_103 : decode cX7_readText 103 = .ok (.bipush 64, 2) := by decide +kernel
theorem dX7_readText_105 : decode cX7_readText 105 = .ok (.if_icmp .lt 29, 3) := by decide +kernel
theorem dX7_readText_108 : decode cX7_readText 108 = .ok (.iload_n 1, 1) := by decide +kernel
theorem dX7_readText_109 : decode cX7_readText 109 = .ok (.bipush 127, 2) := by decide +kernel
theorem dX7_readText_111 : decode cX7_readText 111 = .ok (.if_icmp .gt 23, 3) := by decide +kernel
theorem dX7_readText_114 : decode cX7_readText 114 = .ok (.aload_n 0, 1) := by decide +kernel
theorem dX7_readText_115 : decode cX7_readText 115 = .ok (.iload_n 1, 1) := by decide +kernel
theorem dX7_readText_116 : decode cX7_readText 116 = .ok (.bipush 64, 2) := by decide +kernel
theorem dX7_readText_118 : decode cX7_readText 118 = .ok (.isub, 1) := by decide +kernel
theorem dX7_readText_119 : decode cX7_readText 119 = .ok (.iconst 1, 1) := by decide +kernel
theorem dX7_readText_120 : decode cX7_readText 120 = .ok (.iadd, 1) := by decide +kernel
theorem dX7_readText_121 : decode cX7_readText 121 = .ok (.invokevirtual 232, 3) := by decide +kernel
theorem dX7_readText_124 : decode cX7_readText 124 = .ok (.aload_n 0, 1) := by decide +kernel
theorem dX7_readText_125 : decode cX7_readText 125 = .ok (.iconst 3, 1) := by decide +kernel
theorem dX7_readText_126 : decode cX7_readText 126 = .ok (.iconst 1, 1) := by decide +kernel
theorem dX7_readText_127 : decode cX7_readText 127 = .ok (.iconst 1, 1) := by decide +kernel
theorem dX7_readText_128 : decode cX7_readText 128 = .ok (.invokevirtual 222, 3) := by decide +kernel
theorem dX7_readText_131 : decode cX7_readText 131 = .ok (.goto 104, 3) := by decide +kernel
theorem dX7_readText_134 : decode cX7_readText 134 = .ok (.iload_n 1, 1) := by decide +kernel
theorem dX7_readText_135 : decode cX7_readText 135 = .ok (.sipush 128, 3) := by decide +kernel
theorem dX7_readText_138 : decode cX7_readText 138 = .ok (.if_icmp .lt 49, 3) := by decide +kernel
theorem dX7_readText_141 : decode cX7_readText 141 = .ok (.iload_n 1, 1) := by decide +kernel
theorem dX7_readText_142 : decode cX7_readText 142 = .ok (.sipush 190, 3) := by decide +kernel
theorem dX7_readText_145 : decode cX7_readText 145 = .ok (.if_icmp .gt 42, 3) := by decide +kernel
theorem dX7_readText_148 : decode cX7_readText 148 = .ok (.aload_n 0, 1) := by decide +kernel
theorem dX7_readText_149 : decode cX7_readText 149 = .ok (.iload_n 1, 1) := by decide +kernel
theorem dX7_readText_150 : decode cX7_readText 150 = .ok (.sipush 160, 3) := by decide +kernel
theorem dX7_readText_153 : decode cX7_readText 153 = .ok (.if_icmp .ge 13, 3) := by decide +kernel
theorem dX7_readText_156 : decode cX7_readText 156 = .ok (.iload_n 1, 1) := by decide +kernel
theorem dX7_readText_157 : decode cX7_readText 157 = .ok (.sipush 128, 3) := by decide +kernel
theorem dX7_readText_160 : decode cX7_readText 160 = .ok (.isub, 1) := by decide +kernel
theorem dX7_readText_161 : decode cX7_readText 161 = .ok (.iconst 2, 1) := by decide +kernel
theorem dX7_readText_162 : decode cX7_readText 162 = .ok (.iadd, 1) := by decide +kernel
theorem dX7_readText_163 : decode cX7_readText 163 = .ok (.goto 11, 3) := by decide +kernel
theorem dX7_readText_166 : decode cX7_readText 166 = .ok (.iload_n 1, 1) := by decide +kernel
theorem dX7_readText_167 : decode cX7_readText 167 = .ok (.sipush 160, 3) := by decide +kernel
theorem dX7_readText_170 : decode cX7_readText 170 = .ok (.isub, 1) := by decide +kernel
theorem dX7_readText_171 : decode cX7_readText 171 = .ok (.bipush 34, 2) := by decide +kernel
theorem dX7_readText_173 : decode cX7_readText 173 = .ok (.iadd, 1) := by decide +kernel
theorem dX7_readText_174 : decode cX7_readText 174 = .ok (.invokevirtual 232, 3) := by decide +kernel
theorem dX7_readText_177 : decode cX7_readText 177 = .ok (.aload_n 0, 1) := by decide +kernel
theorem dX7_readText_178 : decode cX7_readText 178 = .ok (.iconst 3, 1) := by decide +kernel
theorem dX7_readText_179 : decode cX7_readText 179 = .ok (.iconst 1, 1) := by decide +kernel
theorem dX7_readText_180 : decode cX7_readText 180 = .ok (.iconst 0, 1) := by decide +kernel
theorem dX7_readText_181 : decode cX7_readText 181 = .ok (.invokevirtual 222, 3) := by decide +kernel
theorem dX7_readText_184 : decode cX7_readText 184 = .ok (.goto 51, 3) := by decide +kernel
theorem dX7_readText_187 : decode cX7_readText 187 = .ok (.iload_n 1, 1) := by decide +kernel
theorem dX7_readText_188 : decode cX7_readText 188 = .ok (.sipush 224, 3) := by decide +kernel
theorem dX7_readText_191 : decode cX7_readText 191 = .ok (.if_icmp .eq 10, 3) := by decide +kernel
theorem dX7_readText_194 : decode cX7_readText 194 = .ok (.iload_n 1, 1) := by decide +kernel
theorem dX7_readText_195 : decode cX7_readText 195 = .ok (.sipush 228, 3) := by decide +kernel
theorem dX7_readText_198 : decode cX7_readText 198 = .ok (.if_icmp .ne 28, 3) := by decide +kernel
theorem dX7_readText_201 : decode cX7_readText 201 = .ok (.aload_n 0, 1) := by decide +kernel
theorem dX7_readText_202 : decode cX7_readText 202 = .ok (.invokevirtual 229, 3) := by decide +kernel
theorem dX7_readText_205 : decode cX7_readText 205 = .ok (.aload_n 0, 1) := by decide +kernel
theorem dX7_readText_206 : decode cX7_readText 206 = .ok (.iconst 3, 1) := by decide +kernel
theorem dX7_readText_207 : decode cX7_readText 207 = .ok (.iconst 1, 1) := by decide +kernel
theorem dX7_readText_208 : decode cX7_readText 208 = .ok (.iload_n 1, 1) := by decide +kernel
theorem dX7_readText_209 : decode cX7_readText 209 = .ok (.sipush 224, 3) := by decide +kernel
theorem dX7_readText_212 : decode cX7_readText 212 = .ok (.if_icmp .ne 7, 3) := by decide +kernel
theorem dX7_readText_215 : decode cX7_readText 215 = .ok (.iconst 1, 1) := by decide +kernel
theorem dX7_readText_216 : decode cX7_readText 216 = .ok (.goto 4, 3) := by decide +kernel
theorem dX7_readText_219 : decode cX7_readText 219 = .ok (.iconst 0, 1) := by decide +kernel
theorem dX7_readText_220 : decode cX7_readText 220 = .ok (.invokevirtual 222, 3) := by decide +kernel
theorem dX7_readText_223 : decode cX7_readText 223 = .ok (.goto 12, 3) := by decide +kernel
theorem dX7_readText_226 : decode cX7_readText 226 = .ok (.aload_n 0, 1) := by decide +kernel
theorem dX7_readText_227 : decode cX7_readText 227 = .ok (.iconst 3, 1) := by decide +kernel
theorem dX7_readText_228 : decode cX7_readText 228 = .ok (.aload_n 0, 1) := by decide +kernel
theorem dX7_readText_229 : decode cX7_readText 229 = .ok (.getfield 203, 3) := by decide +kernel
theorem dX7_readText_232 : decode cX7_readText 232 = .ok (.invokevirtual 196, 3) := by decide +kernel
theorem dX7_readText_235 : decode cX7_readText 235 = .ok (.return_, 1) := by decide +kernel
theorem dX7_readValue_0 : decode cX7_readValue 0 = .ok (.iload_n 1, 1) := by decide +kernel
theorem dX7_readValue_1 : decode cX7_readValue 1 = .ok (.bipush 33, 2) := by decide +kernel
theorem dX7_readValue_3 : decode cX7_readValue 3 = .ok (.if_icmp .lt 22, 3) := by decide +kernel
theorem dX7_readValue_6 : decode cX7_readValue 6 = .ok (.iload_n 1, 1) := by decide +kernel
theorem dX7_readValue_7 : decode cX7_readValue 7 = .ok (.bipush 35, 2) := by decide +kernel
theorem dX7_readValue_9 : decode cX7_readValue 9 = .ok (.if_icmp .gt 16, 3) := by decide +kernel
theorem dX7_readValue_12 : decode cX7_readValue 12 = .ok (.aload_n 0, 1) := by decide +kernel
theorem dX7_readValue_13 : decode cX7_readValue 13 = .ok (.iload_n 1, 1) := by decide +kernel
theorem dX7_readValue_14 : decode cX7_readValue 14 = .ok (.bipush 33, 2) := by decide +kernel
theorem dX7_readValue_16 : decode cX7_readValue 16 = .ok (.isub, 1) := by decide +kernel
theorem dX7_readValue_17 : decode cX7_readValue 17 = .ok (.lconst 0, 1) := by decide +kernel
theorem dX7_readValue_18 : decode cX7_readValue 18 = .ok (.iconst 0, 1) := by decide +kernel
theorem dX7_readValue_19 : decode cX7_readValue 19 = .ok (.invokevirtual 235, 3) := by decide +kernel
theorem dX7_readValue_22 : decode cX7_readValue 22 = .ok (.goto 296, 3) := by decide +kernel
theorem dX7_readValue_25 : decode cX7_readValue 25 = .ok (.iload_n 1, 1) := by decide +kernel
theorem dX7_readValue_26 : decode cX7_readValue 26 = .ok (.bipush 36, 2) := by decide +kernel
theorem dX7_readValue_28 : decode cX7_readValue 28 = .ok (.if_icmp .eq 9, 3) := by decide +kernel
theorem dX7_readValue_31 : decode cX7_readValue 31 = .ok (.iload_n 1, 1) := by decide +kernel
theorem dX7_readValue_32 : decode cX7_readValue 32 = .ok (.bipush 37, 2) := by decide +kernel
theorem dX7_readValue_34 : decode cX7_readValue 34 = .ok (.if_icmp .ne 42, 3) := by decide +kernel
theorem dX7_readValue_37 : decode cX7_readValue 37 = .ok (.iload_n 1, 1) := by decide +kernel
theorem dX7_readValue_38 : decode cX7_readValue 38 = .ok (.bipush 36, 2) := by decide +kernel
theorem dX7_readValue_40 : decode cX7_readValue 40 = .ok (.if_icmp .ne 13, 3) := by decide +kernel
theorem dX7_readValue_43 : decode cX7_readValue 43 = .ok (.aload_n 0, 1) := by decide +kernel
theorem dX7_readValue_44 : decode cX7_readValue 44 = .ok (.iconst 5, 1) := by decide +kernel
theorem dX7_readValue_45 : decode cX7_readValue 45 = .ok (.bipush 32, 2) := by decide +kernel
theorem dX7_readValue_47 : decode cX7_readValue 47 = .ok (.invokevirtual 239, 3) := by decide +kernel
theorem dX7_readValue_50 : decode cX7_readValue 50 = .ok (.goto 11, 3) := by decide +kernel
theorem dX7_readValue_53 : decode cX7_readValue 53 = .ok (.aload_n 0, 1) := by decide +kernel
theorem dX7_readValue_54 : decode cX7_readValue 54 = .ok (.bipush 10, 2) := by decide +kernel
theorem dX7_readValue_56 : decode cX7_readValue 56 = .ok (.bipush 64, 2) := by decide +kernel
theorem dX7_readValue_58 : decode cX7_readValue 58 = .ok (.invokevirtual 239, 3) := by decide +kernel
theorem dX7_readValue_61 : decode cX7_readValue 61 = .ok (.lstore_n 2, 1) := by decide +kernel
theorem dX7_readValue_62 : decode cX7_readValue 62 = .ok (.aload_n 0, 1) := by decide +kernel
theorem dX7_readValue_63 : decode cX7_readValue 63 = .ok (.bipush 7, 2) := by decide +kernel
theorem dX7_readValue_65 : decode cX7_readValue 65 = .ok (.lload_n 2, 1) := by decide +kernel
theorem dX7_readValue_66 : decode cX7_readValue 66 = .ok (.invokestatic 243, 3) := by decide +kernel
theorem dX7_readValue_69 : decode cX7_readValue 69 = .ok (.iconst 0, 1) := by decide +kernel
theorem dX7_readValue_70 : decode cX7_readValue 70 = .ok (.invokevirtual 235, 3) := by decide +kernel
theorem dX7_readValue_73 : decode cX7_readValue 73 = .ok (.goto 245, 3) := by decide +kernel
theorem dX7_readValue_76 : decode cX7_readValue 76 = .ok (.iload_n 1, 1) := by decide +kernel
theorem dX7_readValue_77 : decode cX7_readValue 77 = .ok (.bipush 40, 2) := by decide +kernel
theorem dX7_readValue_79 : decode cX7_readValue 79 = .ok (.if_icmp .ne 22, 3) := by decide +kernel
theorem dX7_readValue_82 : decode cX7_readValue 82 = .ok (.aload_n 0, 1) := by decide +kernel
theorem dX7_readValue_83 : decode cX7_readValue 83 = .ok (.iconst 5, 1) := by decide +kernel
theorem dX7_readValue_84 : decode cX7_readValue 84 = .ok (.bipush 32, 2) := by decide +kernel
theorem dX7_readValue_86 : decode cX7_readValue 86 = .ok (.invokevirtual 247, 3) := by decide +kernel
theorem dX7_readValue_89 : decode cX7_readValue 89 = .ok (.lstore_n 2, 1) := by decide +kernel
theorem dX7_readValue_90 : decode cX7_readValue 90 = .ok (.aload_n 0, 1) := by decide +kernel
theorem dX7_readValue_91 : decode cX7_readValue 91 = .ok (.bipush 8, 2) := by decide +kernel
theorem dX7_readValue_93 : decode cX7_readValue 93 = .ok (.lload_n 2, 1) := by decide +kernel
theorem dX7_readValue_94 : decode cX7_readValue 94 = .ok (.iconst 0, 1) := by decide +kernel
theorem dX7_readValue_95 : decode cX7_readValue 95 = .ok (.invokevirtual 235, 3) := by decide +kernel
theorem dX7_readValue_98 : decode cX7_readValue 98 = .ok (.goto 220, 3) := by decide +kernel
theorem dX7_readValue_101 : decode cX7_readValue 101 = .ok (.iload_n 1, 1) := by decide +kernel
theorem dX7_readValue_102 : decode cX7_readValue 102 = .ok (.bipush 41, 2) := by decide +kernel
theorem dX7_readValue_104 : decode cX7_readValue 104 = .ok (.if_icmp .ne 23, 3) := by decide +kernel
theorem dX7_readValue_107 : decode cX7_readValue 107 = .ok (.aload_n 0, 1) := by decide +kernel
theorem dX7_readValue_108 : decode cX7_readValue 108 = .ok (.bipush 10, 2) := by decide +kernel
theorem dX7_readValue_110 : decode cX7_readValue 110 = .ok (.bipush 64, 2) := by decide +kernel
theorem dX7_readValue_112 : decode cX7_readValue 112 = .ok (.invokevirtual 247, 3) := by decide +kernel
theorem dX7_readValue_115 : decode cX7_readValue 115 = .ok (.lstore_n 2, 1) := by decide +kernel
theorem dX7_readValue_116 : decode cX7_readValue 116 = .ok (.aload_n 0, 1) := by decide +kernel
theorem dX7_readValue_117 : decode cX7_readValue 117 = .ok (.bipush 9, 2) := by decide +kernel
theorem dX7_readValue_119 : decode cX7_readValue 119 = .ok (.lload_n 2, 1) := by decide +kernel
theorem dX7_readValue_120 : decode cX7_readValue 120 = .ok (.iconst 0, 1) := by decide +kernel
theorem dX7_readValue_121 : decode cX7_readValue 121 = .ok (.invokevirtual 235, 3) := by decide +kernel
theorem dX7_readValue_124 : decode cX7_readValue 124 = .ok (.goto 194, 3) := by decide +kernel
theorem dX7_readValue_127 : decode cX7_readValue 127 = .ok (.iload_n 1, 1) := by decide +kernel
theorem dX7_readValue_128 : decode cX7_readValue 128 = .ok (.sipush 192, 3) := by decide +kernel
theorem dX7_readValue_131 : decode cX7_readValue 131 = .ok (.if_icmp .lt 29, 3) := by decide +kernel
theorem dX7_readValue_134 : decode cX7_readValue 134 = .ok (.iload_n 1, 1) := by decide +kernel
theorem dX7_readValue_135 : decode cX7_readValue 135 = .ok (.sipush 223, 3) := by decide +kernel
theorem dX7_readValue_138 : decode cX7_readValue 138 = .ok (.if_icmp .gt 22, 3) := by decide +kernel
theorem dX7_readValue_141 : decode cX7_readValue 141 = .ok (.aload_n 0, 1) := by decide +kernel
theorem dX7_readValue_142 : decode cX7_readValue 142 = .ok (.bipush 7, 2) := by decide +kernel
theorem dX7_readValue_144 : decode cX7_readValue 144 = .ok (.iload_n 1, 1) := by decide +kernel
theorem dX7_readValue_145 : decode cX7_readValue 145 = .ok (.sipush 192, 3) := by decide +kernel
theorem dX7_readValue_148 : decode cX7_readValue 148 = .ok (.isub, 1) := by decide +kernel
theorem dX7_readValue_149 : decode cX7_readValue 149 = .ok (.i2l, 1) := by decide +kernel
theorem dX7_readValue_150 : decode cX7_readValue 150 = .ok (.invokestatic 243, 3) := by decide +kernel
theorem dX7_readValue_153 : decode cX7_readValue 153 = .ok (.iconst 0, 1) := by decide +kernel
theorem dX7_readValue_154 : decode cX7_readValue 154 = .ok (.invokevirtual 235, 3) := by decide +kernel
theorem dX7_readValue_157 : decode cX7_readValue 157 = .ok (.goto 161, 3) := by decide +kernel
theorem dX7_readValue_160 : decode cX7_readValue 160 = .ok (.iload_n 1, 1) := by decide +kernel
theorem dX7_readValue_161 : decode cX7_readValue 161 = .ok (.sipush 232, 3) := by decide +kernel
theorem dX7_readValue_164 : decode cX7_readValue 164 = .ok (.if_icmp .ne 24, 3) := by decide +kernel
theorem dX7_readValue_167 : decode cX7_readValue 167 = .ok (.aload_n 0, 1) := by decide +kernel
theorem dX7_readValue_168 : decode cX7_readValue 168 = .ok (.aload_n 0, 1) := by decide +kernel
theorem dX7_readValue_169 : decode cX7_readValue 169 = .ok (.iconst 5, 1) := by decide +kernel
theorem dX7_readValue_170 : decode cX7_readValue 170 = .ok (.bipush 32, 2) := by decide +kernel
theorem dX7_readValue_172 : decode cX7_readValue 172 = .ok (.invokevirtual 239, 3) := by decide +kernel
theorem dX7_readValue_175 : decode cX7_readValue 175 = .ok (.invokevirtual 250, 3) := by decide +kernel
theorem dX7_readValue_178 : decode cX7_readValue 178 = .ok (.aload_n 0, 1) := by decide +kernel
theorem dX7_readValue_179 : decode cX7_readValue 179 = .ok (.iconst 4, 1) := by decide +kernel
theorem dX7_readValue_180 : decode cX7_readValue 180 = .ok (.iconst 0, 1) := by decide +kernel
theorem dX7_readValue_181 : decode cX7_readValue 181 = .ok (.iconst 0, 1) := by decide +kernel
theorem dX7_readValue_182 : decode cX7_readValue 182 = .ok (.invokevirtual 222, 3) := by decide +kernel
theorem dX7_readValue_185 : decode cX7_readValue 185 = .ok (.goto 133, 3) := by decide +kernel
theorem dX7_readValue_188 : decode cX7_readValue 188 = .ok (.iload_n 1, 1) := by decide +kernel
theorem dX7_readValue_189 : decode cX7_readValue 189 = .ok (.sipush 253, 3) := by decide +kernel
theorem dX7_readValue_192 : decode cX7_readValue 192 = .ok (.if_icmp .ne 50, 3) := by decide +kernel
theorem dX7_readValue_195 : decode cX7_readValue 195 = .ok (.aload_n 0, 1) := by decide +kernel
theorem dX7_readValue_196 : decode cX7_readValue 196 = .ok (.getfield 219, 3) := by decide +kernel
theorem dX7_readValue_199 : decode cX7_readValue 199 = .ok (.iconst 4, 1) := by decide +kernel
theorem dX7_readValue_200 : decode cX7_readValue 200 = .ok (.iand, 1) := by decide +kernel
theorem dX7_readValue_201 : decode cX7_readValue 201 = .ok (.iconst 4, 1) := by decide +kernel
theorem dX7_readValue_202 : decode cX7_readValue 202 = .ok (.if_icmp .ne 40, 3) := by decide +kernel
theorem dX7_readValue_205 : decode cX7_readValue 205 = .ok (.aload_n 0, 1) := by decide +kernel
theorem dX7_readValue_206 : decode cX7_readValue 206 = .ok (.iconst 5, 1) := by decide +kernel
theorem dX7_readValue_207 : decode cX7_readValue 207 = .ok (.bipush 32, 2) := by decide +kernel
theorem dX7_readValue_209 : decode cX7_readValue 209 = .ok (.invokevirtual 239, 3) := by decide +kernel
theorem dX7_readValue_212 : decode cX7_readValue 212 = .ok (.lstore_n 2, 1) := by decide +kernel
theorem dX7_readValue_213 : decode cX7_readValue 213 = .ok (.aload_n 0, 1) := by decide +kernel
theorem dX7_readValue_214 : decode cX7_readValue 214 = .ok (.lload_n 2, 1) := by decide +kernel
theorem dX7_readValue_215 : decode cX7_readValue 215 = .ok (.ldc2_w 253, 3) := by decide +kernel
theorem dX7_readValue_218 : decode cX7_readValue 218 = .ok (.lcmp, 1) := by decide +kernel
theorem dX7_readValue_219 : decode cX7_readValue 219 = .ok (.ifCond .le 8, 3) := by decide +kernel
theorem dX7_readValue_222 : decode cX7_readValue 222 = .ok (.ldc 255, 2) := by decide +kernel
theorem dX7_readValue_224 : decode cX7_readValue 224 = .ok (.goto 5, 3) := by decide +kernel
theorem dX7_readValue_227 : decode cX7_readValue 227 = .ok (.lload_n 2, 1) := by decide +kernel
theorem dX7_readValue_228 : decode cX7_readValue 228 = .ok (.l2i, 1) := by decide +kernel
theorem dX7_readValue_229 : decode cX7_readValue 229 = .ok (.invokevirtual 232, 3) := by decide +kernel
theorem dX7_readValue_232 : decode cX7_readValue 232 = .ok (.aload_n 0, 1) := by decide +kernel
theorem dX7_readValue_233 : decode cX7_readValue 233 = .ok (.iconst 4, 1) := by decide +kernel
theorem dX7_readValue_234 : decode cX7_readValue 234 = .ok (.iconst 0, 1) := by decide +kernel
theorem dX7_readValue_235 : decode cX7_readValue 235 = .ok (.iconst 0, 1) := by decide +kernel
theorem dX7_readValue_236 : decode cX7_readValue 236 = .ok (.invokevirtual 222, 3) := by decide +kernel
theorem dX7_readValue_239 : decode cX7_readValue 239 = .ok (.goto 79, 3) := by decide +kernel
theorem dX7_readValue_242 : decode cX7_readValue 242 = .ok (.iload_n 1, 1) := by decide +kernel
theorem dX7_readValue_243 : decode cX7_readValue 243 = .ok (.sipush 248, 3) := by decide +kernel
theorem dX7_readValue_246 : decode cX7_readValue 246 = .ok (.if_icmp .eq 10, 3) := by decide +kernel
theorem dX7_readValue_249 : decode cX7_readValue 249 = .ok (.iload_n 1, 1) := by decide +kernel
theorem dX7_readValue_250 : decode cX7_readValue 250 = .ok (.sipush 250, 3) := by decide +kernel
theorem dX7_readValue_253 : decode cX7_readValue 253 = .ok (.if_icmp .ne 25, 3) := by decide +kernel
theorem dX7_readValue_256 : decode cX7_readValue 256 = .ok (.aload_n 0, 1) := by decide +kernel
theorem dX7_readValue_257 : decode cX7_readValue 257 = .ok (.iload_n 1, 1) := by decide +kernel
theorem dX7_readValue_258 : decode cX7_readValue 258 = .ok (.sipush 248, 3) := by decide +kernel
theorem dX7_readValue_261 : decode cX7_readValue 261 = .ok (.if_icmp .ne 7, 3) := by decide +kernel
theorem dX7_readValue_264 : decode cX7_readValue 264 = .ok (.iconst 5, 1) := by decide +kernel
theorem dX7_readValue_265 : decode cX7_readValue 265 = .ok (.goto 5, 3) := by decide +kernel
theorem dX7_readValue_268 : decode cX7_readValue 268 = .ok (.bipush 6, 2) := by decide +kernel
theorem dX7_readValue_270 : decode cX7_readValue 270 = .ok (.lconst 0, 1) := by decide +kernel
theorem dX7_readValue_271 : decode cX7_readValue 271 = .ok (.iconst 1, 1) := by decide +kernel
theorem dX7_readValue_272 : decode cX7_readValue 272 = .ok (.invokevirtual 235, 3) := by decide +kernel
theorem dX7_readValue_275 : decode cX7_readValue 275 = .ok (.goto 43, 3) := by decide +kernel
theorem dX7_readValue_278 : decode cX7_readValue 278 = .ok (.iload_n 1, 1) := by decide +kernel
theorem dX7_readValue_279 : decode cX7_readValue 279 = .ok (.sipush 249, 3) := by decide +kernel
theorem dX7_readValue_282 : decode cX7_readValue 282 = .ok (.if_icmp .ne 31, 3) := by decide +kernel
theorem dX7_readValue_285 : decode cX7_readValue 285 = .ok (.aload_n 0, 1) := by decide +kernel
theorem dX7_readValue_286 : decode cX7_readValue 286 = .ok (.getfield 55, 3) := by decide +kernel
theorem dX7_readValue_289 : decode cX7_readValue 289 = .ok (.iconst 1, 1) := by decide +kernel
theorem dX7_readValue_290 : decode cX7_readValue 290 = .ok (.iaload, 1) := by decide +kernel
theorem dX7_readValue_291 : decode cX7_readValue 291 = .ok (.ifCond .le 22, 3) := by decide +kernel
theorem dX7_readValue_294 : decode cX7_readValue 294 = .ok (.aload_n 0, 1) := by decide +kernel
theorem dX7_readValue_295 : decode cX7_readValue 295 = .ok (.iconst 1, 1) := by decide +kernel
theorem dX7_readValue_296 : decode cX7_readValue 296 = .ok (.invokevirtual 89, 3) := by decide +kernel
theorem dX7_readValue_299 : decode cX7_readValue 299 = .ok (.ifCond .ne 14, 3) := by decide +kernel
theorem dX7_readValue_302 : decode cX7_readValue 302 = .ok (.aload_n 0, 1) := by decide +kernel
theorem dX7_readValue_303 : decode cX7_readValue 303 = .ok (.bipush 11, 2) := by decide +kernel
theorem dX7_readValue_305 : decode cX7_readValue 305 = .ok (.lconst 0, 1) := by decide +kernel
theorem dX7_readValue_306 : decode cX7_readValue 306 = .ok (.iconst 0, 1) := by decide +kernel
theorem dX7_readValue_307 : decode cX7_readValue 307 = .ok (.invokevirtual 235, 3) := by decide +kernel
theorem dX7_readValue_310 : decode cX7_readValue 310 = .ok (.goto 8, 3) := by decide +kernel
theorem dX7_readValue_313 : decode cX7_readValue 313 = .ok (.aload_n 0, 1) := by decide +kernel
theorem dX7_readValue_314 : decode cX7_readValue 314 = .ok (.iload_n 1, 1) := by decide +kernel
theorem dX7_readValue_315 : decode cX7_readValue 315 = .ok (.invokevirtual 256, 3) := by decide +kernel
theorem dX7_readValue_318 : decode cX7_readValue 318 = .ok (.return_, 1) := by decide +kernel
theorem dX7_real_0 : decode cX7_real 0 = .ok (.iload_n 3, 1) := by decide +kernel
theorem dX7_real_1 : decode cX7_real 1 = .ok (.iconst 1, 1) := by decide +kernel
theorem dX7_real_2 : decode cX7_real 2 = .ok (.if_icmp .eq 21, 3) := by decide +kernel
theorem dX7_real_5 : decode cX7_real 5 = .ok (.iload_n 3, 1) := by decide +kernel
theorem dX7_real_6 : decode cX7_real 6 = .ok (.ifCond .ne 21, 3) := by decide +kernel
theorem dX7_real_9 : decode cX7_real 9 = .ok (.lload_n 1, 1) := by decide +kernel
theorem dX7_real_10 : decode cX7_real 10 = .ok (.lconst 0, 1) := by decide +kernel
theorem dX7_real_11 : decode cX7_real 11 = .ok (.lcmp, 1) := by decide +kernel
theorem dX7_real_12 : decode cX7_real 12 = .ok (.ifCond .lt 15, 3) := by decide +kernel
theorem dX7_real_15 : decode cX7_real 15 = .ok (.lload_n 1, 1) := by decide +kernel
theorem dX7_real_16 : decode cX7_real 16 = .ok (.ldc2_w 118, 3) := by decide +kernel
theorem dX7_real_19 : decode cX7_real 19 = .ok (.lcmp, 1) := by decide +kernel
theorem dX7_real_20 : decode cX7_real 20 = .ok (.ifCond .ge 7, 3) := by decide +kernel
theorem dX7_real_23 : decode cX7_real 23 = .ok (.iconst 1, 1) := by decide +kernel
theorem dX7_real_24 : decode cX7_real 24 = .ok (.goto 4, 3) := by decide +kernel
theorem dX7_real_27 : decode cX7_real 27 = .ok (.iconst 0, 1) := by decide +kernel
theorem dX7_real_28 : decode cX7_real 28 = .ok (.istore 4, 2) := by decide +kernel
theorem dX7_real_30 : decode cX7_real 30 = .ok (.iload 4, 2) := by decide +kernel
theorem dX7_real_32 : decode cX7_real 32 = .ok (.ifCond .eq 20, 3) := by decide +kernel
theorem dX7_real_35 : decode cX7_real 35 = .ok (.aload_n 0, 1) := by decide +kernel
theorem dX7_real_36 : decode cX7_real 36 = .ok (.invokevirtual 99, 3) := by decide +kernel
theorem dX7_real_39 : decode cX7_real 39 = .ok (.ifCond .eq 13, 3) := by decide +kernel
theorem dX7_real_42 : decode cX7_real 42 = .ok (.aload_n 0, 1) := by decide +kernel
theorem dX7_real_43 : decode cX7_real 43 = .ok (.iconst 0, 1) := by decide +kernel
theorem dX7_real_44 : decode cX7_real 44 = .ok (.iconst 0, 1) := by decide +kernel
theorem dX7_real_45 : decode cX7_real 45 = .ok (.iconst 0, 1) := by decide +kernel
theorem dX7_real_46 : decode cX7_real 46 = .ok (.invokevirtual 103, 3) := by decide +kernel
theorem dX7_real_49 : decode cX7_real 49 = .ok (.ifCond .ne 5, 3) := by decide +kernel
theorem dX7_real_52 : decode cX7_real 52 = .ok (.iconst (-1), 1) := by decide +kernel
theorem dX7_real_53 : decode cX7_real 53 = .ok (.ireturn, 1) := by decide +kernel
theorem dX7_real_54 : decode cX7_real 54 = .ok (.aload_n 0, 1) := by decide +kernel
theorem dX7_real_55 : decode cX7_real 55 = .ok (.iconst 0, 1) := by decide +kernel
theorem dX7_real_56 : decode cX7_real 56 = .ok (.bipush 8, 2) := by decide +kernel
theorem dX7_real_58 : decode cX7_real 58 = .ok (.iload_n 3, 1) := by decide +kernel
theorem dX7_real_59 : decode cX7_real 59 = .ok (.iadd, 1) := by decide +kernel
theorem dX7_real_60 : decode cX7_real 60 = .ok (.lload_n 1, 1) := by decide +kernel
theorem dX7_real_61 : decode cX7_real 61 = .ok (.iconst 0, 1) := by decide +kernel
theorem dX7_real_62 : decode cX7_real 62 = .ok (.invokevirtual 114, 3) := by decide +kernel
theorem dX7_real_65 : decode cX7_real 65 = .ok (.aload_n 0, 1) := by decide +kernel
theorem dX7_real_66 : decode cX7_real 66 = .ok (.getfield 42, 3) := by decide +kernel
theorem dX7_real_69 : decode cX7_real 69 = .ok (.iconst 0, 1) := by decide +kernel
theorem dX7_real_70 : decode cX7_real 70 = .ok (.iaload, 1) := by decide +kernel
theorem dX7_real_71 : decode cX7_real 71 = .ok (.ireturn, 1) := by decide +kernel
theorem dX7_take_0 : decode cX7_take 0 = .ok (.aload_n 0, 1) := by decide +kernel
theorem dX7_take_1 : decode cX7_take 1 = .ok (.getfield 39, 3) := by decide +kernel
theorem dX7_take_4 : decode cX7_take 4 = .ok (.sipush 10000, 3) := by decide +kernel
theorem dX7_take_7 : decode cX7_take 7 = .ok (.aload_n 0, 1) := by decide +kernel
theorem dX7_take_8 : decode cX7_take 8 = .ok (.getfield 206, 3) := by decide +kernel
theorem dX7_take_11 : decode cX7_take 11 = .ok (.iadd, 1) := by decide +kernel
theorem dX7_take_12 : decode cX7_take 12 = .ok (.iload_n 1, 1) := by decide +kernel
theorem dX7_take_13 : decode cX7_take 13 = .ok (.i2b, 1) := by decide +kernel
theorem dX7_take_14 : decode cX7_take 14 = .ok (.bastore, 1) := by decide +kernel
theorem dX7_take_15 : decode cX7_take 15 = .ok (.aload_n 0, 1) := by decide +kernel
theorem dX7_take_16 : decode cX7_take 16 = .ok (.dup, 1) := by decide +kernel
theorem dX7_take_17 : decode cX7_take 17 = .ok (.getfield 206, 3) := by decide +kernel
theorem dX7_take_20 : decode cX7_take 20 = .ok (.iconst 1, 1) := by decide +kernel
theorem dX7_take_21 : decode cX7_take 21 = .ok (.iadd, 1) := by decide +kernel
theorem dX7_take_22 : decode cX7_take 22 = .ok (.putfield 206, 3) := by decide +kernel
theorem dX7_take_25 : decode cX7_take 25 = .ok (.return_, 1) := by decide +kernel
theorem dX7_takeLong_0 : decode cX7_takeLong 0 = .ok (.aload_n 0, 1) := by decide +kernel
theorem dX7_takeLong_1 : decode cX7_takeLong 1 = .ok (.invokevirtual 199, 3) := by decide +kernel
theorem dX7_takeLong_4 : decode cX7_takeLong 4 = .ok (.istore_n 1, 1) := by decide +kernel
theorem dX7_takeLong_5 : decode cX7_takeLong 5 = .ok (.aload_n 0, 1) := by decide +kernel
theorem dX7_takeLong_6 : decode cX7_takeLong 6 = .ok (.getfield 190, 3) := by decide +kernel
theorem dX7_takeLong_9 : decode cX7_takeLong 9 = .ok (.ifCond .ne 23, 3) := by decide +kernel
theorem dX7_takeLong_12 : decode cX7_takeLong 12 = .ok (.iload_n 1, 1) := by decide +kernel
theorem dX7_takeLong_13 : decode cX7_takeLong 13 = .ok (.sipush 252, 3) := by decide +kernel
theorem dX7_takeLong_16 : decode cX7_takeLong 16 = .ok (.if_icmp .eq 16, 3) := by decide +kernel
theorem dX7_takeLong_19 : decode cX7_takeLong 19 = .ok (.aload_n 0, 1) := by decide +kernel
theorem dX7_takeLong_20 : decode cX7_takeLong 20 = .ok (.iload_n 1, 1) := by decide +kernel
theorem dX7_takeLong_21 : decode cX7_takeLong 21 = .ok (.invokevirtual 209, 3) := by decide +kernel
theorem dX7_takeLong_24 : decode cX7_takeLong 24 = .ok (.aload_n 0, 1) := by decide +kernel
theorem dX7_takeLong_25 : decode cX7_takeLong 25 = .ok (.invokevirtual 199, 3) := by decide +kernel
theorem dX7_takeLong_28 : decode cX7_takeLong 28 = .ok (.istore_n 1, 1) := by decide +kernel
theorem dX7_takeLong_29 : decode cX7_takeLong 29 = .ok (.goto (-24), 3) := by decide +kernel
theorem dX7_takeLong_32 : decode cX7_takeLong 32 = .ok (.return_, 1) := by decide +kernel
theorem dX7_takeMany_0 : decode cX7_takeMany 0 = .ok (.iconst 0, 1) := by decide +kernel
theorem dX7_takeMany_1 : decode cX7_takeMany 1 = .ok (.istore_n 2, 1) := by decide +kernel
theorem dX7_takeMany_2 : decode cX7_takeMany 2 = .ok (.iload_n 2, 1) := by decide +kernel
theorem dX7_takeMany_3 : decode cX7_takeMany 3 = .ok (.iload_n 1, 1) := by decide +kernel
theorem dX7_takeMany_4 : decode cX7_takeMany 4 = .ok (.if_icmp .ge 33, 3) := by decide +kernel
theorem dX7_takeMany_7 : decode cX7_takeMany 7 = .ok (.aload_n 0, 1) := by decide +kernel
theorem dX7_takeMany_8 : decode cX7_takeMany 8 = .ok (.getfield 190, 3) := by decide +kernel
theorem dX7_takeMany_11 : decode cX7_takeMany 11 = .ok (.ifCond .ne 26, 3) := by decide +kernel
theorem dX7_takeMany_14 : decode cX7_takeMany 14 = .ok (.aload_n 0, 1) := by decide +kernel
theorem dX7_takeMany_15 : decode cX7_takeMany 15 = .ok (.invokevirtual 199, 3) := by decide +kernel
theorem dX7_takeMany_18 : decode cX7_takeMany 18 = .ok (.istore_n 3, 1) := by decide +kernel
theorem dX7_takeMany_19 : decode cX7_takeMany 19 = .ok (.aload_n 0, 1) := by decide +kernel
theorem dX7_takeMany_20 : decode cX7_takeMany 20 = .ok (.getfield 190, 3) := by decide +kernel
theorem dX7_takeMany_23 : decode cX7_takeMany 23 = .ok (.ifCond .ne 8, 3) := by decide +kernel
theorem dX7_takeMany_26 : decode cX7_takeMany 26 = .ok (.aload_n 0, 1) := by decide +kernel
theorem dX7_takeMany_27 : decode cX7_takeMany 27 = .ok (.iload_n 3, 1) := by decide +kernel
theorem dX7_takeMany_28 : decode cX7_takeMany 28 = .ok (.invokevirtual 209, 3) := by decide +kernel
theorem dX7_takeMany_31 : decode cX7_takeMany 31 = .ok (.iinc 2 1, 3) := by decide +kernel
theorem dX7_takeMany_34 : decode cX7_takeMany 34 = .ok (.goto (-32), 3) := by decide +kernel
theorem dX7_takeMany_37 : decode cX7_takeMany 37 = .ok (.return_, 1) := by decide +kernel
theorem dX7_takeSeven_0 : decode cX7_takeSeven 0 = .ok (.ldc2_w 212, 3) := by decide +kernel
theorem dX7_takeSeven_3 : decode cX7_takeSeven 3 = .ok (.lload_n 1, 1) := by decide +kernel
theorem dX7_takeSeven_4 : decode cX7_takeSeven 4 = .ok (.lmul, 1) := by decide +kernel
theorem dX7_takeSeven_5 : decode cX7_takeSeven 5 = .ok (.lstore_n 3, 1) := by decide +kernel
theorem dX7_takeSeven_6 : decode cX7_takeSeven 6 = .ok (.iconst 0, 1) := by decide +kernel
theorem dX7_takeSeven_7 : decode cX7_takeSeven 7 = .ok (.istore 5, 2) := by decide +kernel
theorem dX7_takeSeven_9 : decode cX7_takeSeven 9 = .ok (.iconst 0, 1) := by decide +kernel
theorem dX7_takeSeven_10 : decode cX7_takeSeven 10 = .ok (.istore 6, 2) := by decide +kernel
theorem dX7_takeSeven_12 : decode cX7_takeSeven 12 = .ok (.lload_n 3, 1) := by decide +kernel
theorem dX7_takeSeven_13 : decode cX7_takeSeven 13 = .ok (.lconst 0, 1) := by decide +kernel
theorem dX7_takeSeven_14 : decode cX7_takeSeven 14 = .ok (.lcmp, 1) := by decide +kernel
theorem dX7_takeSeven_15 : decode cX7_takeSeven 15 = .ok (.ifCond .le 144, 3) := by decide +kernel
theorem dX7_takeSeven_18 : decode cX7_takeSeven 18 = .ok (.aload_n 0, 1) := by decide +kernel
theorem dX7_takeSeven_19 : decode cX7_takeSeven 19 = .ok (.getfield 190, 3) := by decide +kernel
theorem dX7_takeSeven_22 : decode cX7_takeSeven 22 = .ok (.ifCond .ne 137, 3) := by decide +kernel
theorem dX7_takeSeven_25 : decode cX7_takeSeven 25 = .ok (.aload_n 0, 1) := by decide +kernel
theorem dX7_takeSeven_26 : decode cX7_takeSeven 26 = .ok (.invokevirtual 199, 3) := by decide +kernel
theorem dX7_takeSeven_29 : decode cX7_takeSeven 29 = .ok (.istore 7, 2) := by decide +kernel
theorem dX7_takeSeven_31 : decode cX7_takeSeven 31 = .ok (.lload_n 3, 1) := by decide +kernel
theorem dX7_takeSeven_32 : decode cX7_takeSeven 32 = .ok (.ldc2_w 214, 3) := by decide +kernel
theorem dX7_takeSeven_35 : decode cX7_takeSeven 35 = .ok (.lcmp, 1) := by decide +kernel
theorem dX7_takeSeven_36 : decode cX7_takeSeven 36 = .ok (.ifCond .ge 8, 3) := by decide +kernel
theorem dX7_takeSeven_39 : decode cX7_takeSeven 39 = .ok (.lload_n 3, 1) := by decide +kernel
theorem dX7_takeSeven_40 : decode cX7_takeSeven 40 = .ok (.l2i, 1) := by decide +kernel
theorem dX7_takeSeven_41 : decode cX7_takeSeven 41 = .ok (.goto 5, 3) := by decide +kernel
theorem dX7_takeSeven_44 : decode cX7_takeSeven 44 = .ok (.bipush 7, 2) := by decide +kernel
theorem dX7_takeSeven_46 : decode cX7_takeSeven 46 = .ok (.istore 8, 2) := by decide +kernel
theorem dX7_takeSeven_48 : decode cX7_takeSeven 48 = .ok (.aload_n 0, 1) := by decide +kernel
theorem dX7_takeSeven_49 : decode cX7_takeSeven 49 = .ok (.getfield 190, 3) := by decide +kernel
theorem dX7_takeSeven_52 : decode cX7_takeSeven 52 = .ok (.ifCond .ne 22, 3) := by decide +kernel
theorem dX7_takeSeven_55 : decode cX7_takeSeven 55 = .ok (.iload 7, 2) := by decide +kernel
theorem dX7_takeSeven_57 : decode cX7_takeSeven 57 = .ok (.sipush 128, 3) := by decide +kernel
theorem dX7_takeSeven_60 : decode cX7_takeSeven 60 = .ok (.if_icmp .lt 14, 3) := by decide +kernel
theorem dX7_takeSeven_63 : decode cX7_takeSeven 63 = .ok (.aload_n 0, 1) := by decide +kernel
theorem dX7_takeSeven_64 : decode cX7_takeSeven 64 = .ok (.iconst 3, 1) := by decide +kernel
theorem dX7_takeSeven_65 : decode cX7_takeSeven 65 = .ok (.aload_n 0, 1) := by decide +kernel
theorem dX7_takeSeven_66 : decode cX7_takeSeven 66 = .ok (.getfield 193, 3) := by decide +kernel
theorem dX7_takeSeven_69 : decode cX7_takeSeven 69 = .ok (.iconst 1, 1) := by decide +kernel
theorem dX7_takeSeven_70 : decode cX7_takeSeven 70 = .ok (.isub, 1) := by decide +kernel
theorem dX7_takeSeven_71 : decode cX7_takeSeven 71 = .ok (.invokevirtual 196, 3) := by decide +kernel
theorem dX7_takeSeven_74 : decode cX7_takeSeven 74 = .ok (.aload_n 0, 1) := by decide +kernel
theorem dX7_takeSeven_75 : decode cX7_takeSeven 75 = .ok (.getfield 190, 3) := by decide +kernel
theorem dX7_takeSeven_78 : decode cX7_takeSeven 78 = .ok (.ifCond .ne 78, 3) := by decide +kernel
theorem dX7_takeSeven_81 : decode cX7_takeSeven 81 = .ok (.iload 7, 2) := by decide +kernel
theorem dX7_takeSeven_83 : decode cX7_takeSeven 83 = .ok (.iload 8, 2) := by decide +kernel
theorem dX7_takeSeven_85 : decode cX7_takeSeven 85 = .ok (.ishr, 1) := by decide +kernel
theorem dX7_takeSeven_86 : decode cX7_takeSeven 86 = .ok (.ifCond .eq 13, 3) := by decide +kernel
theorem dX7_takeSeven_89 : decode cX7_takeSeven 89 = .ok (.aload_n 0, 1) := by decide +kernel
theorem dX7_takeSeven_90 : decode cX7_takeSeven 90 = .ok (.bipush 6, 2) := by decide +kernel
theorem dX7_takeSeven_92 : decode cX7_takeSeven 92 = .ok (.aload_n 0, 1) := by decide +kernel
theorem dX7_takeSeven_93 : decode cX7_takeSeven 93 = .ok (.getfield 203, 3) := by decide +kernel
theorem dX7_takeSeven_96 : decode cX7_takeSeven 96 = .ok (.invokevirtual 196, 3) := by decide +kernel
theorem dX7_takeSeven_99 : decode cX7_takeSeven 99 = .ok (.iload 6, 2) := by decide +kernel
theorem dX7_takeSeven_101 : decode cX7_takeSeven 101 = .ok (.iload 8, 2) := by decide +kernel
theorem dX7_takeSeven_103 : decode cX7_takeSeven 103 = .ok (.ishl, 1) := by decide +kernel
theorem dX7_takeSeven_104 : decode cX7_takeSeven 104 = .ok (.iload 7, 2) := by decide +kernel
theorem dX7_takeSeven_106 : decode cX7_takeSeven 106 = .ok (.ior, 1) := by decide +kernel
theorem dX7_takeSeven_107 : decode cX7_takeSeven 107 = .ok (.istore 6, 2) := by decide +kernel
theorem dX7_takeSeven_109 : decode cX7_takeSeven 109 = .ok (.iload 5, 2) := by decide +kernel
theorem dX7_takeSeven_111 : decode cX7_takeSeven 111 = .ok (.iload 8, 2) := by decide +kernel
theorem dX7_takeSeven_113 : decode cX7_takeSeven 113 = .ok (.iadd, 1) := by decide +kernel
theorem dX7_takeSeven_114 : decode cX7_takeSeven 114 = .ok (.istore 5, 2) := by decide +kernel
theorem dX7_takeSeven_116 : decode cX7_takeSeven 116 = .ok (.lload_n 3, 1) := by decide +kernel
theorem dX7_takeSeven_117 : decode cX7_takeSeven 117 = .ok (.iload 8, 2) := by decide +kernel
theorem dX7_takeSeven_119 : decode cX7_takeSeven 119 = .ok (.i2l, 1) := by decide +kernel
theorem dX7_takeSeven_120 : decode cX7_takeSeven 120 = .ok (.lsub, 1) := by decide +kernel
theorem dX7_takeSeven_121 : decode cX7_takeSeven 121 = .ok (.lstore_n 3, 1) := by decide +kernel
theorem dX7_takeSeven_122 : decode cX7_takeSeven 122 = .ok (.iload 5, 2) := by decide +kernel
theorem dX7_takeSeven_124 : decode cX7_takeSeven 124 = .ok (.bipush 8, 2) := by decide +kernel
theorem dX7_takeSeven_126 : decode cX7_takeSeven 126 = .ok (.if_icmp .lt 30, 3) := by decide +kernel
theorem dX7_takeSeven_129 : decode cX7_takeSeven 129 = .ok (.iinc 5 (-8), 3) := by decide +kernel
theorem dX7_takeSeven_132 : decode cX7_takeSeven 132 = .ok (.aload_n 0, 1) := by decide +kernel
theorem dX7_takeSeven_133 : decode cX7_takeSeven 133 = .ok (.iload 6, 2) := by decide +kernel
theorem dX7_takeSeven_135 : decode cX7_takeSeven 135 = .ok (.iload 5, 2) := by decide +kernel
theorem dX7_takeSeven_137 : decode cX7_takeSeven 137 = .ok (.ishr, 1) := by decide +kernel
theorem dX7_takeSeven_138 : decode cX7_takeSeven 138 = .ok (.sipush 255, 3) := by decide +kernel
theorem dX7_takeSeven_141 : decode cX7_takeSeven 141 = .ok (.iand, 1) := by decide +kernel
theorem dX7_takeSeven_142 : decode cX7_takeSeven 142 = .ok (.invokevirtual 209, 3) := by decide +kernel
theorem dX7_takeSeven_145 : decode cX7_takeSeven 145 = .ok (.iload 6, 2) := by decide +kernel
theorem dX7_takeSeven_147 : decode cX7_takeSeven 147 = .ok (.iconst 1, 1) := by decide +kernel
theorem dX7_takeSeven_148 : decode cX7_takeSeven 148 = .ok (.iload 5, 2) := by decide +kernel
theorem dX7_takeSeven_150 : decode cX7_takeSeven 150 = .ok (.ishl, 1) := by decide +kernel
theorem dX7_takeSeven_151 : decode cX7_takeSeven 151 = .ok (.iconst 1, 1) := by decide +kernel
theorem dX7_takeSeven_152 : decode cX7_takeSeven 152 = .ok (.isub, 1) := by decide +kernel
theorem dX7_takeSeven_153 : decode cX7_takeSeven 153 = .ok (.iand, 1) := by decide +kernel
theorem dX7_takeSeven_154 : decode cX7_takeSeven 154 = .ok (.istore 6, 2) := by decide +kernel
theorem dX7_takeSeven_156 : decode cX7_takeSeven 156 = .ok (.goto (-144), 3) := by decide +kernel
theorem dX7_takeSeven_159 : decode cX7_takeSeven 159 = .ok (.return_, 1) := by decide +kernel
theorem dX7_takesValue_0 : decode cX7_takesValue 0 = .ok (.aload_n 0, 1) := by decide +kernel
theorem dX7_takesValue_1 : decode cX7_takesValue 1 = .ok (.iconst 0, 1) := by decide +kernel
theorem dX7_takesValue_2 : decode cX7_takesValue 2 = .ok (.invokevirtual 93, 3) := by decide +kernel
theorem dX7_takesValue_5 : decode cX7_takesValue 5 = .ok (.ifCond .ne 15, 3) := by decide +kernel
theorem dX7_takesValue_8 : decode cX7_takesValue 8 = .ok (.aload_n 0, 1) := by decide +kernel
theorem dX7_takesValue_9 : decode cX7_takesValue 9 = .ok (.iconst 0, 1) := by decide +kernel
theorem dX7_takesValue_10 : decode cX7_takesValue 10 = .ok (.invokevirtual 96, 3) := by decide +kernel
theorem dX7_takesValue_13 : decode cX7_takesValue 13 = .ok (.ifCond .ne 7, 3) := by decide +kernel
theorem dX7_takesValue_16 : decode cX7_takesValue 16 = .ok (.iconst 1, 1) := by decide +kernel
theorem dX7_takesValue_17 : decode cX7_takesValue 17 = .ok (.goto 4, 3) := by decide +kernel
theorem dX7_takesValue_20 : decode cX7_takesValue 20 = .ok (.iconst 0, 1) := by decide +kernel
theorem dX7_takesValue_21 : decode cX7_takesValue 21 = .ok (.ireturn, 1) := by decide +kernel
theorem dX7_top_0 : decode cX7_top 0 = .ok (.bipush 30, 2) := by decide +kernel
theorem dX7_top_2 : decode cX7_top 2 = .ok (.iload_n 1, 1) := by decide +kernel
theorem dX7_top_3 : decode cX7_top 3 = .ok (.imul, 1) := by decide +kernel
theorem dX7_top_4 : decode cX7_top 4 = .ok (.aload_n 0, 1) := by decide +kernel
theorem dX7_top_5 : decode cX7_top 5 = .ok (.getfield 55, 3) := by decide +kernel
theorem dX7_top_8 : decode cX7_top 8 = .ok (.iload_n 1, 1) := by decide +kernel
theorem dX7_top_9 : decode cX7_top 9 = .ok (.iaload, 1) := by decide +kernel
theorem dX7_top_10 : decode cX7_top 10 = .ok (.iadd, 1) := by decide +kernel
theorem dX7_top_11 : decode cX7_top 11 = .ok (.iconst 1, 1) := by decide +kernel
theorem dX7_top_12 : decode cX7_top 12 = .ok (.isub, 1) := by decide +kernel
theorem dX7_top_13 : decode cX7_top 13 = .ok (.ireturn, 1) := by decide +kernel
theorem dX7_type_0 : decode cX7_type 0 = .ok (.iload_n 3, 1) := by decide +kernel
theorem dX7_type_1 : decode cX7_type 1 = .ok (.iconst 1, 1) := by decide +kernel
theorem dX7_type_2 : decode cX7_type 2 = .ok (.if_icmp .lt 21, 3) := by decide +kernel
theorem dX7_type_5 : decode cX7_type 5 = .ok (.iload_n 3, 1) := by decide +kernel
theorem dX7_type_6 : decode cX7_type 6 = .ok (.bipush 8, 2) := by decide +kernel
theorem dX7_type_8 : decode cX7_type 8 = .ok (.if_icmp .gt 15, 3) := by decide +kernel
theorem dX7_type_11 : decode cX7_type 11 = .ok (.aload_n 0, 1) := by decide +kernel
theorem dX7_type_12 : decode cX7_type 12 = .ok (.getfield 71, 3) := by decide +kernel
theorem dX7_type_15 : decode cX7_type 15 = .ok (.iload_n 3, 1) := by decide +kernel
theorem dX7_type_16 : decode cX7_type 16 = .ok (.iadd, 1) := by decide +kernel
theorem dX7_type_17 : decode cX7_type 17 = .ok (.sipush 1000, 3) := by decide +kernel
theorem dX7_type_20 : decode cX7_type 20 = .ok (.if_icmp .le 5, 3) := by decide +kernel
theorem dX7_type_23 : decode cX7_type 23 = .ok (.iconst (-1), 1) := by decide +kernel
theorem dX7_type_24 : decode cX7_type 24 = .ok (.ireturn, 1) := by decide +kernel
theorem dX7_type_25 : decode cX7_type 25 = .ok (.iload_n 3, 1) := by decide +kernel
theorem dX7_type_26 : decode cX7_type 26 = .ok (.iconst 1, 1) := by decide +kernel
theorem dX7_type_27 : decode cX7_type 27 = .ok (.isub, 1) := by decide +kernel
theorem dX7_type_28 : decode cX7_type 28 = .ok (.istore 4, 2) := by decide +kernel
theorem dX7_type_30 : decode cX7_type 30 = .ok (.iload 4, 2) := by decide +kernel
theorem dX7_type_32 : decode cX7_type 32 = .ok (.ifCond .lt 37, 3) := by decide +kernel
theorem dX7_type_35 : decode cX7_type 35 = .ok (.aload_n 0, 1) := by decide +kernel
theorem dX7_type_36 : decode cX7_type 36 = .ok (.getfield 7, 3) := by decide +kernel
theorem dX7_type_39 : decode cX7_type 39 = .ok (.aload_n 0, 1) := by decide +kernel
theorem dX7_type_40 : decode cX7_type 40 = .ok (.getfield 71, 3) := by decide +kernel
theorem dX7_type_43 : decode cX7_type 43 = .ok (.lload_n 1, 1) := by decide +kernel
theorem dX7_type_44 : decode cX7_type 44 = .ok (.bipush 8, 2) := by decide +kernel
theorem dX7_type_46 : decode cX7_type 46 = .ok (.iload 4, 2) := by decide +kernel
theorem dX7_type_48 : decode cX7_type 48 = .ok (.imul, 1) := by decide +kernel
theorem dX7_type_49 : decode cX7_type 49 = .ok (.lshr, 1) := by decide +kernel
theorem dX7_type_50 : decode cX7_type 50 = .ok (.l2i, 1) := by decide +kernel
theorem dX7_type_51 : decode cX7_type 51 = .ok (.i2b, 1) := by decide +kernel
theorem dX7_type_52 : decode cX7_type 52 = .ok (.bastore, 1) := by decide +kernel
theorem dX7_type_53 : decode cX7_type 53 = .ok (.aload_n 0, 1) := by decide +kernel
theorem dX7_type_54 : decode cX7_type 54 = .ok (.dup, 1) := by decide +kernel
theorem dX7_type_55 : decode cX7_type 55 = .ok (.getfield 71, 3) := by decide +kernel
theorem dX7_type_58 : decode cX7_type 58 = .ok (.iconst 1, 1) := by decide +kernel
theorem dX7_type_59 : decode cX7_type 59 = .ok (.iadd, 1) := by decide +kernel
theorem dX7_type_60 : decode cX7_type 60 = .ok (.putfield 71, 3) := by decide +kernel
theorem dX7_type_63 : decode cX7_type 63 = .ok (.iinc 4 (-1), 3) := by decide +kernel
theorem dX7_type_66 : decode cX7_type 66 = .ok (.goto (-36), 3) := by decide +kernel
theorem dX7_type_69 : decode cX7_type 69 = .ok (.aload_n 0, 1) := by decide +kernel
theorem dX7_type_70 : decode cX7_type 70 = .ok (.getfield 71, 3) := by decide +kernel
theorem dX7_type_73 : decode cX7_type 73 = .ok (.ireturn, 1) := by decide +kernel
theorem dX7_unzigzag_0 : decode cX7_unzigzag 0 = .ok (.lload_n 0, 1) := by decide +kernel
theorem dX7_unzigzag_1 : decode cX7_unzigzag 1 = .ok (.lconst 1, 1) := by decide +kernel
theorem dX7_unzigzag_2 : decode cX7_unzigzag 2 = .ok (.land, 1) := by decide +kernel
theorem dX7_unzigzag_3 : decode cX7_unzigzag 3 = .ok (.lconst 0, 1) := by decide +kernel
theorem dX7_unzigzag_4 : decode cX7_unzigzag 4 = .ok (.lcmp, 1) := by decide +kernel
theorem dX7_unzigzag_5 : decode cX7_unzigzag 5 = .ok (.ifCond .ne 9, 3) := by decide +kernel
theorem dX7_unzigzag_8 : decode cX7_unzigzag 8 = .ok (.lload_n 0, 1) := by decide +kernel
theorem dX7_unzigzag_9 : decode cX7_unzigzag 9 = .ok (.iconst 1, 1) := by decide +kernel
theorem dX7_unzigzag_10 : decode cX7_unzigzag 10 = .ok (.lushr, 1) := by decide +kernel
theorem dX7_unzigzag_11 : decode cX7_unzigzag 11 = .ok (.goto 9, 3) := by decide +kernel
theorem dX7_unzigzag_14 : decode cX7_unzigzag 14 = .ok (.lload_n 0, 1) := by decide +kernel
theorem dX7_unzigzag_15 : decode cX7_unzigzag 15 = .ok (.iconst 1, 1) := by decide +kernel
theorem dX7_unzigzag_16 : decode cX7_unzigzag 16 = .ok (.lushr, 1) := by decide +kernel
theorem dX7_unzigzag_17 : decode cX7_unzigzag 17 = .ok (.lneg, 1) := by decide +kernel
theorem dX7_unzigzag_18 : decode cX7_unzigzag 18 = .ok (.lconst 1, 1) := by decide +kernel
theorem dX7_unzigzag_19 : decode cX7_unzigzag 19 = .ok (.lsub, 1) := by decide +kernel
theorem dX7_unzigzag_20 : decode cX7_unzigzag 20 = .ok (.lreturn, 1) := by decide +kernel
theorem dX7_value_0 : decode cX7_value 0 = .ok (.iload_n 1, 1) := by decide +kernel
theorem dX7_value_1 : decode cX7_value 1 = .ok (.iconst 3, 1) := by decide +kernel
theorem dX7_value_2 : decode cX7_value 2 = .ok (.if_icmp .eq 8, 3) := by decide +kernel
theorem dX7_value_5 : decode cX7_value 5 = .ok (.iload_n 1, 1) := by decide +kernel
theorem dX7_value_6 : decode cX7_value 6 = .ok (.iconst 4, 1) := by decide +kernel
theorem dX7_value_7 : decode cX7_value 7 = .ok (.if_icmp .ne 7, 3) := by decide +kernel
theorem dX7_value_10 : decode cX7_value 10 = .ok (.iconst 1, 1) := by decide +kernel
theorem dX7_value_11 : decode cX7_value 11 = .ok (.goto 4, 3) := by decide +kernel
theorem dX7_value_14 : decode cX7_value 14 = .ok (.iconst 0, 1) := by decide +kernel
theorem dX7_value_15 : decode cX7_value 15 = .ok (.istore_n 2, 1) := by decide +kernel
theorem dX7_value_16 : decode cX7_value 16 = .ok (.iload_n 1, 1) := by decide +kernel
theorem dX7_value_17 : decode cX7_value 17 = .ok (.ifCond .lt 46, 3) := by decide +kernel
theorem dX7_value_20 : decode cX7_value 20 = .ok (.iload_n 1, 1) := by decide +kernel
theorem dX7_value_21 : decode cX7_value 21 = .ok (.bipush 6, 2) := by decide +kernel
theorem dX7_value_23 : decode cX7_value 23 = .ok (.if_icmp .gt 40, 3) := by decide +kernel
theorem dX7_value_26 : decode cX7_value 26 = .ok (.aload_n 0, 1) := by decide +kernel
theorem dX7_value_27 : decode cX7_value 27 = .ok (.invokevirtual 99, 3) := by decide +kernel
theorem dX7_value_30 : decode cX7_value 30 = .ok (.ifCond .eq 33, 3) := by decide +kernel
theorem dX7_value_33 : decode cX7_value 33 = .ok (.aload_n 0, 1) := by decide +kernel
theorem dX7_value_34 : decode cX7_value 34 = .ok (.iconst 0, 1) := by decide +kernel
theorem dX7_value_35 : decode cX7_value 35 = .ok (.iload_n 2, 1) := by decide +kernel
theorem dX7_value_36 : decode cX7_value 36 = .ok (.ifCond .eq 10, 3) := by decide +kernel
theorem dX7_value_39 : decode cX7_value 39 = .ok (.aload_n 0, 1) := by decide +kernel
theorem dX7_value_40 : decode cX7_value 40 = .ok (.getfield 71, 3) := by decide +kernel
theorem dX7_value_43 : decode cX7_value 43 = .ok (.goto 4, 3) := by decide +kernel
theorem dX7_value_46 : decode cX7_value 46 = .ok (.iconst 0, 1) := by decide +kernel
theorem dX7_value_47 : decode cX7_value 47 = .ok (.iload_n 1, 1) := by decide +kernel
theorem dX7_value_48 : decode cX7_value 48 = .ok (.iconst 4, 1) := by decide +kernel
theorem dX7_value_49 : decode cX7_value 49 = .ok (.if_icmp .le 7, 3) := by decide +kernel
theorem dX7_value_52 : decode cX7_value 52 = .ok (.iconst 1, 1) := by decide +kernel
theorem dX7_value_53 : decode cX7_value 53 = .ok (.goto 4, 3) := by decide +kernel
theorem dX7_value_56 : decode cX7_value 56 = .ok (.iconst 0, 1) := by decide +kernel
theorem dX7_value_57 : decode cX7_value 57 = .ok (.invokevirtual 103, 3) := by decide +kernel
theorem dX7_value_60 : decode cX7_value 60 = .ok (.ifCond .ne 5, 3) := by decide +kernel
theorem dX7_value_63 : decode cX7_value 63 = .ok (.iconst (-1), 1) := by decide +kernel
theorem dX7_value_64 : decode cX7_value 64 = .ok (.ireturn, 1) := by decide +kernel
theorem dX7_value_65 : decode cX7_value 65 = .ok (.iload_n 2, 1) := by decide +kernel
theorem dX7_value_66 : decode cX7_value 66 = .ok (.ifCond .eq 34, 3) := by decide +kernel
theorem dX7_value_69 : decode cX7_value 69 = .ok (.aload_n 0, 1) := by decide +kernel
theorem dX7_value_70 : decode cX7_value 70 = .ok (.invokevirtual 107, 3) := by decide +kernel
theorem dX7_value_73 : decode cX7_value 73 = .ok (.ifCond .eq 25, 3) := by decide +kernel
theorem dX7_value_76 : decode cX7_value 76 = .ok (.iload_n 1, 1) := by decide +kernel
theorem dX7_value_77 : decode cX7_value 77 = .ok (.iconst 3, 1) := by decide +kernel
theorem dX7_value_78 : decode cX7_value 78 = .ok (.if_icmp .ne 22, 3) := by decide +kernel
theorem dX7_value_81 : decode cX7_value 81 = .ok (.aload_n 0, 1) := by decide +kernel
theorem dX7_value_82 : decode cX7_value 82 = .ok (.aload_n 0, 1) := by decide +kernel
theorem dX7_value_83 : decode cX7_value 83 = .ok (.getfield 45, 3) := by decide +kernel
theorem dX7_value_86 : decode cX7_value 86 = .ok (.iconst 0, 1) := by decide +kernel
theorem dX7_value_87 : decode cX7_value 87 = .ok (.iaload, 1) := by decide +kernel
theorem dX7_value_88 : decode cX7_value 88 = .ok (.aload_n 0, 1) := by decide +kernel
theorem dX7_value_89 : decode cX7_value 89 = .ok (.getfield 71, 3) := by decide +kernel
theorem dX7_value_92 : decode cX7_value 92 = .ok (.invokevirtual 110, 3) := by decide +kernel
theorem dX7_value_95 : decode cX7_value 95 = .ok (.ifCond .ne 5, 3) := by decide +kernel
theorem dX7_value_98 : decode cX7_value 98 = .ok (.iconst (-1), 1) := by decide +kernel
theorem dX7_value_99 : decode cX7_value 99 = .ok (.ireturn, 1) := by decide +kernel
theorem dX7_value_100 : decode cX7_value 100 = .ok (.aload_n 0, 1) := by decide +kernel
theorem dX7_value_101 : decode cX7_value 101 = .ok (.iconst 0, 1) := by decide +kernel
theorem dX7_value_102 : decode cX7_value 102 = .ok (.iload_n 1, 1) := by decide +kernel
theorem dX7_value_103 : decode cX7_value 103 = .ok (.lconst 0, 1) := by decide +kernel
theorem dX7_value_104 : decode cX7_value 104 = .ok (.iload_n 2, 1) := by decide +kernel
theorem dX7_value_105 : decode cX7_value 105 = .ok (.ifCond .eq 10, 3) := by decide +kernel
theorem dX7_value_108 : decode cX7_value 108 = .ok (.aload_n 0, 1) := by decide +kernel
theorem dX7_value_109 : decode cX7_value 109 = .ok (.getfield 71, 3) := by decide +kernel
theorem dX7_value_112 : decode cX7_value 112 = .ok (.goto 4, 3) := by decide +kernel
theorem dX7_value_115 : decode cX7_value 115 = .ok (.iconst 0, 1) := by decide +kernel
theorem dX7_value_116 : decode cX7_value 116 = .ok (.invokevirtual 114, 3) := by decide +kernel
theorem dX7_value_119 : decode cX7_value 119 = .ok (.aload_n 0, 1) := by decide +kernel
theorem dX7_value_120 : decode cX7_value 120 = .ok (.iload_n 2, 1) := by decide +kernel
theorem dX7_value_121 : decode cX7_value 121 = .ok (.ifCond .eq 7, 3) := by decide +kernel
theorem dX7_value_124 : decode cX7_value 124 = .ok (.iconst 0, 1) := by decide +kernel
theorem dX7_value_125 : decode cX7_value 125 = .ok (.goto 7, 3) := by decide +kernel
theorem dX7_value_128 : decode cX7_value 128 = .ok (.aload_n 0, 1) := by decide +kernel
theorem dX7_value_129 : decode cX7_value 129 = .ok (.getfield 71, 3) := by decide +kernel
theorem dX7_value_132 : decode cX7_value 132 = .ok (.putfield 71, 3) := by decide +kernel
theorem dX7_value_135 : decode cX7_value 135 = .ok (.aload_n 0, 1) := by decide +kernel
theorem dX7_value_136 : decode cX7_value 136 = .ok (.getfield 42, 3) := by decide +kernel
theorem dX7_value_139 : decode cX7_value 139 = .ok (.iconst 0, 1) := by decide +kernel
theorem dX7_value_140 : decode cX7_value 140 = .ok (.iaload, 1) := by decide +kernel
theorem dX7_value_141 : decode cX7_value 141 = .ok (.ireturn, 1) := by decide +kernel
theorem dX7_wantsName_0 : decode cX7_wantsName 0 = .ok (.aload_n 0, 1) := by decide +kernel
theorem dX7_wantsName_1 : decode cX7_wantsName 1 = .ok (.iload_n 1, 1) := by decide +kernel
theorem dX7_wantsName_2 : decode cX7_wantsName 2 = .ok (.invokevirtual 89, 3) := by decide +kernel
theorem dX7_wantsName_5 : decode cX7_wantsName 5 = .ok (.ifCond .eq 20, 3) := by decide +kernel
theorem dX7_wantsName_8 : decode cX7_wantsName 8 = .ok (.aload_n 0, 1) := by decide +kernel
theorem dX7_wantsName_9 : decode cX7_wantsName 9 = .ok (.getfield 52, 3) := by decide +kernel
theorem dX7_wantsName_12 : decode cX7_wantsName 12 = .ok (.aload_n 0, 1) := by decide +kernel
theorem dX7_wantsName_13 : decode cX7_wantsName 13 = .ok (.iload_n 1, 1) := by decide +kernel
theorem dX7_wantsName_14 : decode cX7_wantsName 14 = .ok (.invokevirtual 85, 3) := by decide +kernel
theorem dX7_wantsName_17 : decode cX7_wantsName 17 = .ok (.baload, 1) := by decide +kernel
theorem dX7_wantsName_18 : decode cX7_wantsName 18 = .ok (.ifCond .ne 7, 3) := by decide +kernel
theorem dX7_wantsName_21 : decode cX7_wantsName 21 = .ok (.iconst 1, 1) := by decide +kernel
theorem dX7_wantsName_22 : decode cX7_wantsName 22 = .ok (.goto 4, 3) := by decide +kernel
theorem dX7_wantsName_25 : decode cX7_wantsName 25 = .ok (.iconst 0, 1) := by decide +kernel
theorem dX7_wantsName_26 : decode cX7_wantsName 26 = .ok (.ireturn, 1) := by decide +kernel
theorem dX7_write_0 : decode cX7_write 0 = .ok (.aload_n 0, 1) := by decide +kernel
theorem dX7_write_1 : decode cX7_write 1 = .ok (.iconst 0, 1) := by decide +kernel
theorem dX7_write_2 : decode cX7_write 2 = .ok (.invokevirtual 93, 3) := by decide +kernel
theorem dX7_write_5 : decode cX7_write 5 = .ok (.ifCond .eq 13, 3) := by decide +kernel
theorem dX7_write_8 : decode cX7_write 8 = .ok (.iload_n 1, 1) := by decide +kernel
theorem dX7_write_9 : decode cX7_write 9 = .ok (.ifCond .lt 9, 3) := by decide +kernel
theorem dX7_write_12 : decode cX7_write 12 = .ok (.iload_n 1, 1) := by decide +kernel
theorem dX7_write_13 : decode cX7_write 13 = .ok (.bipush 7, 2) := by decide +kernel
theorem dX7_write_15 : decode cX7_write 15 = .ok (.if_icmp .le 5, 3) := by decide +kernel
theorem dX7_write_18 : decode cX7_write 18 = .ok (.iconst (-1), 1) := by decide +kernel
theorem dX7_write_19 : decode cX7_write 19 = .ok (.ireturn, 1) := by decide +kernel
theorem dX7_write_20 : decode cX7_write 20 = .ok (.aload_n 0, 1) := by decide +kernel
theorem dX7_write_21 : decode cX7_write 21 = .ok (.iconst 0, 1) := by decide +kernel
theorem dX7_write_22 : decode cX7_write 22 = .ok (.putfield 127, 3) := by decide +kernel
theorem dX7_write_25 : decode cX7_write 25 = .ok (.aload_n 0, 1) := by decide +kernel
theorem dX7_write_26 : decode cX7_write 26 = .ok (.getfield 61, 3) := by decide +kernel
theorem dX7_write_29 : decode cX7_write 29 = .ok (.iconst 0, 1) := by decide +kernel
theorem dX7_write_30 : decode cX7_write 30 = .ok (.iconst 0, 1) := by decide +kernel
theorem dX7_write_31 : decode cX7_write 31 = .ok (.iastore, 1) := by decide +kernel
theorem dX7_write_32 : decode cX7_write 32 = .ok (.aload_n 0, 1) := by decide +kernel
theorem dX7_write_33 : decode cX7_write 33 = .ok (.getfield 61, 3) := by decide +kernel
theorem dX7_write_36 : decode cX7_write 36 = .ok (.iconst 1, 1) := by decide +kernel
theorem dX7_write_37 : decode cX7_write 37 = .ok (.iconst 0, 1) := by decide +kernel
theorem dX7_write_38 : decode cX7_write 38 = .ok (.iastore, 1) := by decide +kernel
theorem dX7_write_39 : decode cX7_write 39 = .ok (.aload_n 0, 1) := by decide +kernel
theorem dX7_write_40 : decode cX7_write 40 = .ok (.bipush 58, 2) := by decide +kernel
theorem dX7_write_42 : decode cX7_write 42 = .ok (.invokevirtual 130, 3) := by decide +kernel
theorem dX7_write_45 : decode cX7_write 45 = .ok (.aload_n 0, 1) := by decide +kernel
theorem dX7_write_46 : decode cX7_write 46 = .ok (.bipush 41, 2) := by decide +kernel
theorem dX7_write_48 : decode cX7_write 48 = .ok (.invokevirtual 130, 3) := by decide +kernel
theorem dX7_write_51 : decode cX7_write 51 = .ok (.aload_n 0, 1) := by decide +kernel
theorem dX7_write_52 : decode cX7_write 52 = .ok (.bipush 10, 2) := by decide +kernel
theorem dX7_write_54 : decode cX7_write 54 = .ok (.invokevirtual 130, 3) := by decide +kernel
theorem dX7_write_57 : decode cX7_write 57 = .ok (.aload_n 0, 1) := by decide +kernel
theorem dX7_write_58 : decode cX7_write 58 = .ok (.iload_n 1, 1) := by decide +kernel
theorem dX7_write_59 : decode cX7_write 59 = .ok (.invokevirtual 130, 3) := by decide +kernel
theorem dX7_write_62 : decode cX7_write 62 = .ok (.aload_n 0, 1) := by decide +kernel
theorem dX7_write_63 : decode cX7_write 63 = .ok (.getfield 68, 3) := by decide +kernel
theorem dX7_write_66 : decode cX7_write 66 = .ok (.astore_n 2, 1) := by decide +kernel
theorem dX7_write_67 : decode cX7_write 67 = .ok (.iconst 0, 1) := by decide +kernel
theorem dX7_write_68 : decode cX7_write 68 = .ok (.istore_n 3, 1) := by decide +kernel
theorem dX7_write_69 : decode cX7_write 69 = .ok (.iload_n 3, 1) := by decide +kernel
theorem dX7_write_70 : decode cX7_write 70 = .ok (.aload_n 0, 1) := by decide +kernel
theorem dX7_write_71 : decode cX7_write 71 = .ok (.getfield 42, 3) := by decide +kernel
theorem dX7_write_74 : decode cX7_write 74 = .ok (.iconst 0, 1) := by decide +kernel
theorem dX7_write_75 : decode cX7_write 75 = .ok (.iaload, 1) := by decide +kernel
theorem dX7_write_76 : decode cX7_write 76 = .ok (.if_icmp .ge 87, 3) := by decide +kernel
theorem dX7_write_79 : decode cX7_write 79 = .ok (.aload_n 0, 1) := by decide +kernel
theorem dX7_write_80 : decode cX7_write 80 = .ok (.getfield 22, 3) := by decide +kernel
theorem dX7_write_83 : decode cX7_write 83 = .ok (.iload_n 3, 1) := by decide +kernel
theorem dX7_write_84 : decode cX7_write 84 = .ok (.iaload, 1) := by decide +kernel
theorem dX7_write_85 : decode cX7_write 85 = .ok (.iconst 5, 1) := by decide +kernel
theorem dX7_write_86 : decode cX7_write 86 = .ok (.if_icmp .eq 14, 3) := by decide +kernel
theorem dX7_write_89 : decode cX7_write 89 = .ok (.aload_n 0, 1) := by decide +kernel
theorem dX7_write_90 : decode cX7_write 90 = .ok (.getfield 22, 3) := by decide +kernel
theorem dX7_write_93 : decode cX7_write 93 = .ok (.iload_n 3, 1) := by decide +kernel
theorem dX7_write_94 : decode cX7_write 94 = .ok (.iaload, 1) := by decide +kernel
theorem dX7_write_95 : decode cX7_write 95 = .ok (.bipush 6, 2) := by decide +kernel
theorem dX7_write_97 : decode cX7_write 97 = .ok (.if_icmp .ne 27, 3) := by decide +kernel
theorem dX7_write_100 : decode cX7_write 100 = .ok (.aload_n 2, 1) := by decide +kernel
theorem dX7_write_101 : decode cX7_write 101 = .ok (.aload_n 0, 1) := by decide +kernel
theorem dX7_write_102 : decode cX7_write 102 = .ok (.getfield 36, 3) := by decide +kernel
theorem dX7_write_105 : decode cX7_write 105 = .ok (.iload_n 3, 1) := by decide +kernel
theorem dX7_write_106 : decode cX7_write 106 = .ok (.iaload, 1) := by decide +kernel
theorem dX7_write_107 : decode cX7_write 107 = .ok (.aload_n 0, 1) := by decide +kernel
theorem dX7_write_108 : decode cX7_write 108 = .ok (.getfield 22, 3) := by decide +kernel
theorem dX7_write_111 : decode cX7_write 111 = .ok (.iload_n 3, 1) := by decide +kernel
theorem dX7_write_112 : decode cX7_write 112 = .ok (.iaload, 1) := by decide +kernel
theorem dX7_write_113 : decode cX7_write 113 = .ok (.bipush 6, 2) := by decide +kernel
theorem dX7_write_115 : decode cX7_write 115 = .ok (.if_icmp .ne 7, 3) := by decide +kernel
theorem dX7_write_118 : decode cX7_write 118 = .ok (.iconst 1, 1) := by decide +kernel
theorem dX7_write_119 : decode cX7_write 119 = .ok (.goto 4, 3) := by decide +kernel
theorem dX7_write_122 : decode cX7_write 122 = .ok (.iconst 0, 1) := by decide +kernel
theorem dX7_write_123 : decode cX7_write 123 = .ok (.bastore, 1) := by decide +kernel
theorem dX7_write_124 : decode cX7_write 124 = .ok (.aload_n 0, 1) := by decide +kernel
theorem dX7_write_125 : decode cX7_write 125 = .ok (.iload_n 3, 1) := by decide +kernel
theorem dX7_write_126 : decode cX7_write 126 = .ok (.iload_n 1, 1) := by decide +kernel
theorem dX7_write_127 : decode cX7_write 127 = .ok (.aload_n 0, 1) := by decide +kernel
theorem dX7_write_128 : decode cX7_write 128 = .ok (.getfield 22, 3) := by decide +kernel
theorem dX7_write_131 : decode cX7_write 131 = .ok (.iload_n 3, 1) := by decide +kernel
theorem dX7_write_132 : decode cX7_write 132 = .ok (.iaload, 1) := by decide +kernel
theorem dX7_write_133 : decode cX7_write 133 = .ok (.bipush 11, 2) := by decide +kernel
theorem dX7_write_135 : decode cX7_write 135 = .ok (.if_icmp .ne 18, 3) := by decide +kernel
theorem dX7_write_138 : decode cX7_write 138 = .ok (.aload_n 2, 1) := by decide +kernel
theorem dX7_write_139 : decode cX7_write 139 = .ok (.aload_n 0, 1) := by decide +kernel
theorem dX7_write_140 : decode cX7_write 140 = .ok (.getfield 36, 3) := by decide +kernel
theorem dX7_write_143 : decode cX7_write 143 = .ok (.iload_n 3, 1) := by decide +kernel
theorem dX7_write_144 : decode cX7_write 144 = .ok (.iaload, 1) := by decide +kernel
theorem dX7_write_145 : decode cX7_write 145 = .ok (.baload, 1) := by decide +kernel
theorem dX7_write_146 : decode cX7_write 146 = .ok (.ifCond .eq 7, 3) := by decide +kernel
theorem dX7_write_149 : decode cX7_write 149 = .ok (.iconst 1, 1) := by decide +kernel
theorem dX7_write_150 : decode cX7_write 150 = .ok (.goto 4, 3) := by decide +kernel
theorem dX7_write_153 : decode cX7_write 153 = .ok (.iconst 0, 1) := by decide +kernel
theorem dX7_write_154 : decode cX7_write 154 = .ok (.invokevirtual 183, 3) := by decide +kernel
theorem dX7_write_157 : decode cX7_write 157 = .ok (.iinc 3 1, 3) := by decide +kernel
theorem dX7_write_160 : decode cX7_write 160 = .ok (.goto (-91), 3) := by decide +kernel
theorem dX7_write_163 : decode cX7_write 163 = .ok (.aload_n 0, 1) := by decide +kernel
theorem dX7_write_164 : decode cX7_write 164 = .ok (.getfield 127, 3) := by decide +kernel
theorem dX7_write_167 : decode cX7_write 167 = .ok (.sipush 6000, 3) := by decide +kernel
theorem dX7_write_170 : decode cX7_write 170 = .ok (.if_icmp .le 6, 3) := by decide +kernel
theorem dX7_write_173 : decode cX7_write 173 = .ok (.bipush (-2), 2) := by decide +kernel
theorem dX7_write_175 : decode cX7_write 175 = .ok (.ireturn, 1) := by decide +kernel
theorem dX7_write_176 : decode cX7_write 176 = .ok (.aload_n 0, 1) := by decide +kernel
theorem dX7_write_177 : decode cX7_write 177 = .ok (.aload_n 0, 1) := by decide +kernel
theorem dX7_write_178 : decode cX7_write 178 = .ok (.getfield 127, 3) := by decide +kernel
theorem dX7_write_181 : decode cX7_write 181 = .ok (.putfield 187, 3) := by decide +kernel
theorem dX7_write_184 : decode cX7_write 184 = .ok (.iconst 0, 1) := by decide +kernel
theorem dX7_write_185 : decode cX7_write 185 = .ok (.istore_n 3, 1) := by decide +kernel
theorem dX7_write_186 : decode cX7_write 186 = .ok (.iload_n 3, 1) := by decide +kernel
theorem dX7_write_187 : decode cX7_write 187 = .ok (.aload_n 0, 1) := by decide +kernel
theorem dX7_write_188 : decode cX7_write 188 = .ok (.getfield 187, 3) := by decide +kernel
theorem dX7_write_191 : decode cX7_write 191 = .ok (.if_icmp .ge 21, 3) := by decide +kernel
theorem dX7_write_194 : decode cX7_write 194 = .ok (.aload_n 0, 1) := by decide +kernel
theorem dX7_write_195 : decode cX7_write 195 = .ok (.getfield 16, 3) := by decide +kernel
theorem dX7_write_198 : decode cX7_write 198 = .ok (.iload_n 3, 1) := by decide +kernel
theorem dX7_write_199 : decode cX7_write 199 = .ok (.aload_n 0, 1) := by decide +kernel
theorem dX7_write_200 : decode cX7_write 200 = .ok (.getfield 19, 3) := by decide +kernel
theorem dX7_write_203 : decode cX7_write 203 = .ok (.iload_n 3, 1) := by decide +kernel
theorem dX7_write_204 : decode cX7_write 204 = .ok (.baload, 1) := by decide +kernel
theorem dX7_write_205 : decode cX7_write 205 = .ok (.bastore, 1) := by decide +kernel
theorem dX7_write_206 : decode cX7_write 206 = .ok (.iinc 3 1, 3) := by decide +kernel
theorem dX7_write_209 : decode cX7_write 209 = .ok (.goto (-23), 3) := by decide +kernel
theorem dX7_write_212 : decode cX7_write 212 = .ok (.aload_n 0, 1) := by decide +kernel
theorem dX7_write_213 : decode cX7_write 213 = .ok (.getfield 187, 3) := by decide +kernel
theorem dX7_write_216 : decode cX7_write 216 = .ok (.ireturn, 1) := by decide +kernel
theorem dX7_written_0 : decode cX7_written 0 = .ok (.iload_n 1, 1) := by decide +kernel
theorem dX7_written_1 : decode cX7_written 1 = .ok (.ifCond .lt 24, 3) := by decide +kernel
theorem dX7_written_4 : decode cX7_written 4 = .ok (.iload_n 1, 1) := by decide +kernel
theorem dX7_written_5 : decode cX7_written 5 = .ok (.aload_n 0, 1) := by decide +kernel
theorem dX7_written_6 : decode cX7_written 6 = .ok (.getfield 187, 3) := by decide +kernel
theorem dX7_written_9 : decode cX7_written 9 = .ok (.if_icmp .ge 16, 3) := by decide +kernel
theorem dX7_written_12 : decode cX7_written 12 = .ok (.aload_n 0, 1) := by decide +kernel
theorem dX7_written_13 : decode cX7_written 13 = .ok (.getfield 16, 3) := by decide +kernel
theorem dX7_written_16 : decode cX7_written 16 = .ok (.iload_n 1, 1) := by decide +kernel
theorem dX7_written_17 : decode cX7_written 17 = .ok (.baload, 1) := by decide +kernel
theorem dX7_written_18 : decode cX7_written 18 = .ok (.sipush 255, 3) := by decide +kernel
theorem dX7_written_21 : decode cX7_written 21 = .ok (.iand, 1) := by decide +kernel
theorem dX7_written_22 : decode cX7_written 22 = .ok (.goto 4, 3) := by decide +kernel
theorem dX7_written_25 : decode cX7_written 25 = .ok (.iconst (-1), 1) := by decide +kernel
theorem dX7_written_26 : decode cX7_written 26 = .ok (.ireturn, 1) := by decide +kernel
