theorem dX2_init_0 : decode cX2_init 0 = .ok (.aload_n 0, 1) := by decide +kernel
theorem dX2_init_1 : decode cX2_init 1 = .ok (.invokespecial 3, 3) := by decide +kernel
theorem dX2_init_4 : decode cX2_init 4 = .ok (.aload_n 0, 1) := by decide +kernel
theorem dX2_init_5 : decode cX2_init 5 = .ok (.iload_n 1, 1) := by decide +kernel
theorem dX2_init_6 : decode cX2_init 6 = .ok (.newarray .byte, 2) := by decide +kernel
theorem dX2_init_8 : decode cX2_init 8 = .ok (.putfield 9, 3) := by decide +kernel
theorem dX2_init_11 : decode cX2_init 11 = .ok (.return_, 1) := by decide +kernel
theorem dX0_init_0 : decode cX0_init 0 = .ok (.aload_n 0, 1) := by decide +kernel
theorem dX0_init_1 : decode cX0_init 1 = .ok (.invokespecial 3, 3) := by decide +kernel
theorem dX0_init_4 : decode cX0_init 4 = .ok (.aload_n 0, 1) := by decide +kernel
theorem dX0_init_5 : decode cX0_init 5 = .ok (.sipush 1500, 3) := by decide +kernel
theorem dX0_init_8 : decode cX0_init 8 = .ok (.newarray .int, 2) := by decide +kernel
theorem dX0_init_10 : decode cX0_init 10 = .ok (.putfield 9, 3) := by decide +kernel
theorem dX0_init_13 : decode cX0_init 13 = .ok (.aload_n 0, 1) := by decide +kernel
theorem dX0_init_14 : decode cX0_init 14 = .ok (.sipush 1500, 3) := by decide +kernel
theorem dX0_init_17 : decode cX0_init 17 = .ok (.newarray .int, 2) := by decide +kernel
theorem dX0_init_19 : decode cX0_init 19 = .ok (.putfield 15, 3) := by decide +kernel
theorem dX0_init_22 : decode cX0_init 22 = .ok (.aload_n 0, 1) := by decide +kernel
theorem dX0_init_23 : decode cX0_init 23 = .ok (.sipush 1500, 3) := by decide +kernel
theorem dX0_init_26 : decode cX0_init 26 = .ok (.newarray .int, 2) := by decide +kernel
theorem dX0_init_28 : decode cX0_init 28 = .ok (.putfield 18, 3) := by decide +kernel
theorem dX0_init_31 : decode cX0_init 31 = .ok (.aload_n 0, 1) := by decide +kernel
theorem dX0_init_32 : decode cX0_init 32 = .ok (.sipush 1500, 3) := by decide +kernel
theorem dX0_init_35 : decode cX0_init 35 = .ok (.newarray .int, 2) := by decide +kernel
theorem dX0_init_37 : decode cX0_init 37 = .ok (.putfield 21, 3) := by decide +kernel
theorem dX0_init_40 : decode cX0_init 40 = .ok (.aload_n 0, 1) := by decide +kernel
theorem dX0_init_41 : decode cX0_init 41 = .ok (.sipush 1500, 3) := by decide +kernel
theorem dX0_init_44 : decode cX0_init 44 = .ok (.newarray .long, 2) := by decide +kernel
theorem dX0_init_46 : decode cX0_init 46 = .ok (.putfield 24, 3) := by decide +kernel
theorem dX0_init_49 : decode cX0_init 49 = .ok (.aload_n 0, 1) := by decide +kernel
theorem dX0_init_50 : decode cX0_init 50 = .ok (.new 28, 3) := by decide +kernel
theorem dX0_init_53 : decode cX0_init 53 = .ok (.dup, 1) := by decide +kernel
theorem dX0_init_54 : decode cX0_init 54 = .ok (.sipush 5000, 3) := by decide +kernel
theorem dX0_init_57 : decode cX0_init 57 = .ok (.invokespecial 30, 3) := by decide +kernel
theorem dX0_init_60 : decode cX0_init 60 = .ok (.putfield 33, 3) := by decide +kernel
theorem dX0_init_63 : decode cX0_init 63 = .ok (.aload_n 0, 1) := by decide +kernel
theorem dX0_init_64 : decode cX0_init 64 = .ok (.bipush 30, 2) := by decide +kernel
theorem dX0_init_66 : decode cX0_init 66 = .ok (.newarray .int, 2) := by decide +kernel
theorem dX0_init_68 : decode cX0_init 68 = .ok (.putfield 37, 3) := by decide +kernel
theorem dX0_init_71 : decode cX0_init 71 = .ok (.return_, 1) := by decide +kernel
theorem dX3_init_0 : decode cX3_init 0 = .ok (.aload_n 0, 1) := by decide +kernel
theorem dX3_init_1 : decode cX3_init 1 = .ok (.invokespecial 3, 3) := by decide +kernel
theorem dX3_init_4 : decode cX3_init 4 = .ok (.aload_n 0, 1) := by decide +kernel
theorem dX3_init_5 : decode cX3_init 5 = .ok (.sipush 1024, 3) := by decide +kernel
theorem dX3_init_8 : decode cX3_init 8 = .ok (.newarray .int, 2) := by decide +kernel
theorem dX3_init_10 : decode cX3_init 10 = .ok (.putfield 9, 3) := by decide +kernel
theorem dX3_init_13 : decode cX3_init 13 = .ok (.aload_n 0, 1) := by decide +kernel
theorem dX3_init_14 : decode cX3_init 14 = .ok (.sipush 1024, 3) := by decide +kernel
theorem dX3_init_17 : decode cX3_init 17 = .ok (.newarray .int, 2) := by decide +kernel
theorem dX3_init_19 : decode cX3_init 19 = .ok (.putfield 15, 3) := by decide +kernel
theorem dX3_init_22 : decode cX3_init 22 = .ok (.aload_n 0, 1) := by decide +kernel
theorem dX3_init_23 : decode cX3_init 23 = .ok (.sipush 256, 3) := by decide +kernel
theorem dX3_init_26 : decode cX3_init 26 = .ok (.newarray .int, 2) := by decide +kernel
theorem dX3_init_28 : decode cX3_init 28 = .ok (.putfield 18, 3) := by decide +kernel
theorem dX3_init_31 : decode cX3_init 31 = .ok (.return_, 1) := by decide +kernel
theorem dX5_init_0 : decode cX5_init 0 = .ok (.aload_n 0, 1) := by decide +kernel
theorem dX5_init_1 : decode cX5_init 1 = .ok (.invokespecial 3, 3) := by decide +kernel
theorem dX5_init_4 : decode cX5_init 4 = .ok (.aload_n 0, 1) := by decide +kernel
theorem dX5_init_5 : decode cX5_init 5 = .ok (.bipush 30, 2) := by decide +kernel
theorem dX5_init_7 : decode cX5_init 7 = .ok (.newarray .int, 2) := by decide +kernel
theorem dX5_init_9 : decode cX5_init 9 = .ok (.putfield 9, 3) := by decide +kernel
theorem dX5_init_12 : decode cX5_init 12 = .ok (.aload_n 0, 1) := by decide +kernel
theorem dX5_init_13 : decode cX5_init 13 = .ok (.aload_n 1, 1) := by decide +kernel
theorem dX5_init_14 : decode cX5_init 14 = .ok (.putfield 15, 3) := by decide +kernel
theorem dX5_init_17 : decode cX5_init 17 = .ok (.aload_n 0, 1) := by decide +kernel
theorem dX5_init_18 : decode cX5_init 18 = .ok (.aload_n 2, 1) := by decide +kernel
theorem dX5_init_19 : decode cX5_init 19 = .ok (.putfield 19, 3) := by decide +kernel
theorem dX5_init_22 : decode cX5_init 22 = .ok (.return_, 1) := by decide +kernel
theorem dX1_init_0 : decode cX1_init 0 = .ok (.aload_n 0, 1) := by decide +kernel
theorem dX1_init_1 : decode cX1_init 1 = .ok (.invokespecial 3, 3) := by decide +kernel
theorem dX1_init_4 : decode cX1_init 4 = .ok (.aload_n 0, 1) := by decide +kernel
theorem dX1_init_5 : decode cX1_init 5 = .ok (.iconst (-1), 1) := by decide +kernel
theorem dX1_init_6 : decode cX1_init 6 = .ok (.putfield 9, 3) := by decide +kernel
theorem dX1_init_9 : decode cX1_init 9 = .ok (.aload_n 0, 1) := by decide +kernel
theorem dX1_init_10 : decode cX1_init 10 = .ok (.aload_n 1, 1) := by decide +kernel
theorem dX1_init_11 : decode cX1_init 11 = .ok (.putfield 15, 3) := by decide +kernel
theorem dX1_init_14 : decode cX1_init 14 = .ok (.aload_n 0, 1) := by decide +kernel
theorem dX1_init_15 : decode cX1_init 15 = .ok (.aload_n 2, 1) := by decide +kernel
theorem dX1_init_16 : decode cX1_init 16 = .ok (.putfield 19, 3) := by decide +kernel
theorem dX1_init_19 : decode cX1_init 19 = .ok (.return_, 1) := by decide +kernel
theorem dX6_init_0 : decode cX6_init 0 = .ok (.aload_n 0, 1) := by decide +kernel
theorem dX6_init_1 : decode cX6_init 1 = .ok (.invokespecial 1, 3) := by decide +kernel
theorem dX6_init_4 : decode cX6_init 4 = .ok (.aload_n 0, 1) := by decide +kernel
theorem dX6_init_5 : decode cX6_init 5 = .ok (.new 7, 3) := by decide +kernel
theorem dX6_init_8 : decode cX6_init 8 = .ok (.dup, 1) := by decide +kernel
theorem dX6_init_9 : decode cX6_init 9 = .ok (.sipush 1000, 3) := by decide +kernel
theorem dX6_init_12 : decode cX6_init 12 = .ok (.invokespecial 11, 3) := by decide +kernel
theorem dX6_init_15 : decode cX6_init 15 = .ok (.putfield 14, 3) := by decide +kernel
theorem dX6_init_18 : decode cX6_init 18 = .ok (.aload_n 0, 1) := by decide +kernel
theorem dX6_init_19 : decode cX6_init 19 = .ok (.new 7, 3) := by decide +kernel
theorem dX6_init_22 : decode cX6_init 22 = .ok (.dup, 1) := by decide +kernel
theorem dX6_init_23 : decode cX6_init 23 = .ok (.sipush 6000, 3) := by decide +kernel
theorem dX6_init_26 : decode cX6_init 26 = .ok (.invokespecial 11, 3) := by decide +kernel
theorem dX6_init_29 : decode cX6_init 29 = .ok (.putfield 18, 3) := by decide +kernel
theorem dX6_init_32 : decode cX6_init 32 = .ok (.aload_n 0, 1) := by decide +kernel
theorem dX6_init_33 : decode cX6_init 33 = .ok (.new 7, 3) := by decide +kernel
theorem dX6_init_36 : decode cX6_init 36 = .ok (.dup, 1) := by decide +kernel
theorem dX6_init_37 : decode cX6_init 37 = .ok (.sipush 6000, 3) := by decide +kernel
theorem dX6_init_40 : decode cX6_init 40 = .ok (.invokespecial 11, 3) := by decide +kernel
theorem dX6_init_43 : decode cX6_init 43 = .ok (.putfield 21, 3) := by decide +kernel
theorem dX6_init_46 : decode cX6_init 46 = .ok (.aload_n 0, 1) := by decide +kernel
theorem dX6_init_47 : decode cX6_init 47 = .ok (.new 7, 3) := by decide +kernel
theorem dX6_init_50 : decode cX6_init 50 = .ok (.dup, 1) := by decide +kernel
theorem dX6_init_51 : decode cX6_init 51 = .ok (.sipush 6000, 3) := by decide +kernel
theorem dX6_init_54 : decode cX6_init 54 = .ok (.invokespecial 11, 3) := by decide +kernel
theorem dX6_init_57 : decode cX6_init 57 = .ok (.putfield 24, 3) := by decide +kernel
theorem dX6_init_60 : decode cX6_init 60 = .ok (.aload_n 0, 1) := by decide +kernel
theorem dX6_init_61 : decode cX6_init 61 = .ok (.new 27, 3) := by decide +kernel
theorem dX6_init_64 : decode cX6_init 64 = .ok (.dup, 1) := by decide +kernel
theorem dX6_init_65 : decode cX6_init 65 = .ok (.invokespecial 29, 3) := by decide +kernel
theorem dX6_init_68 : decode cX6_init 68 = .ok (.putfield 30, 3) := by decide +kernel
theorem dX6_init_71 : decode cX6_init 71 = .ok (.aload_n 0, 1) := by decide +kernel
theorem dX6_init_72 : decode cX6_init 72 = .ok (.new 27, 3) := by decide +kernel
theorem dX6_init_75 : decode cX6_init 75 = .ok (.dup, 1) := by decide +kernel
theorem dX6_init_76 : decode cX6_init 76 = .ok (.invokespecial 29, 3) := by decide +kernel
theorem dX6_init_79 : decode cX6_init 79 = .ok (.putfield 34, 3) := by decide +kernel
theorem dX6_init_82 : decode cX6_init 82 = .ok (.new 37, 3) := by decide +kernel
theorem dX6_init_85 : decode cX6_init 85 = .ok (.dup, 1) := by decide +kernel
theorem dX6_init_86 : decode cX6_init 86 = .ok (.invokespecial 39, 3) := by decide +kernel
theorem dX6_init_89 : decode cX6_init 89 = .ok (.astore_n 1, 1) := by decide +kernel
theorem dX6_init_90 : decode cX6_init 90 = .ok (.new 37, 3) := by decide +kernel
theorem dX6_init_93 : decode cX6_init 93 = .ok (.dup, 1) := by decide +kernel
theorem dX6_init_94 : decode cX6_init 94 = .ok (.invokespecial 39, 3) := by decide +kernel
theorem dX6_init_97 : decode cX6_init 97 = .ok (.astore_n 2, 1) := by decide +kernel
theorem dX6_init_98 : decode cX6_init 98 = .ok (.aload_n 0, 1) := by decide +kernel
theorem dX6_init_99 : decode cX6_init 99 = .ok (.new 40, 3) := by decide +kernel
theorem dX6_init_102 : decode cX6_init 102 = .ok (.dup, 1) := by decide +kernel
theorem dX6_init_103 : decode cX6_init 103 = .ok (.aload_n 1, 1) := by decide +kernel
theorem dX6_init_104 : decode cX6_init 104 = .ok (.aload_n 2, 1) := by decide +kernel
theorem dX6_init_105 : decode cX6_init 105 = .ok (.invokespecial 42, 3) := by decide +kernel
theorem dX6_init_108 : decode cX6_init 108 = .ok (.putfield 45, 3) := by decide +kernel
theorem dX6_init_111 : decode cX6_init 111 = .ok (.aload_n 0, 1) := by decide +kernel
theorem dX6_init_112 : decode cX6_init 112 = .ok (.new 49, 3) := by decide +kernel
theorem dX6_init_115 : decode cX6_init 115 = .ok (.dup, 1) := by decide +kernel
theorem dX6_init_116 : decode cX6_init 116 = .ok (.aload_n 1, 1) := by decide +kernel
theorem dX6_init_117 : decode cX6_init 117 = .ok (.aload_n 2, 1) := by decide +kernel
theorem dX6_init_118 : decode cX6_init 118 = .ok (.invokespecial 51, 3) := by decide +kernel
theorem dX6_init_121 : decode cX6_init 121 = .ok (.putfield 52, 3) := by decide +kernel
theorem dX6_init_124 : decode cX6_init 124 = .ok (.return_, 1) := by decide +kernel
theorem dX7_init_0 : decode cX7_init 0 = .ok (.aload_n 0, 1) := by decide +kernel
theorem dX7_init_1 : decode cX7_init 1 = .ok (.invokespecial 1, 3) := by decide +kernel
theorem dX7_init_4 : decode cX7_init 4 = .ok (.aload_n 0, 1) := by decide +kernel
theorem dX7_init_5 : decode cX7_init 5 = .ok (.sipush 1000, 3) := by decide +kernel
theorem dX7_init_8 : decode cX7_init 8 = .ok (.newarray .byte, 2) := by decide +kernel
theorem dX7_init_10 : decode cX7_init 10 = .ok (.putfield 7, 3) := by decide +kernel
theorem dX7_init_13 : decode cX7_init 13 = .ok (.aload_n 0, 1) := by decide +kernel
theorem dX7_init_14 : decode cX7_init 14 = .ok (.sipush 6000, 3) := by decide +kernel
theorem dX7_init_17 : decode cX7_init 17 = .ok (.newarray .byte, 2) := by decide +kernel
theorem dX7_init_19 : decode cX7_init 19 = .ok (.putfield 13, 3) := by decide +kernel
theorem dX7_init_22 : decode cX7_init 22 = .ok (.aload_n 0, 1) := by decide +kernel
theorem dX7_init_23 : decode cX7_init 23 = .ok (.sipush 6000, 3) := by decide +kernel
theorem dX7_init_26 : decode cX7_init 26 = .ok (.newarray .byte, 2) := by decide +kernel
theorem dX7_init_28 : decode cX7_init 28 = .ok (.putfield 16, 3) := by decide +kernel
theorem dX7_init_31 : decode cX7_init 31 = .ok (.aload_n 0, 1) := by decide +kernel
theorem dX7_init_32 : decode cX7_init 32 = .ok (.sipush 6000, 3) := by decide +kernel
theorem dX7_init_35 : decode cX7_init 35 = .ok (.newarray .byte, 2) := by decide +kernel
theorem dX7_init_37 : decode cX7_init 37 = .ok (.putfield 19, 3) := by decide +kernel
theorem dX7_init_40 : decode cX7_init 40 = .ok (.aload_n 0, 1) := by decide +kernel
theorem dX7_init_41 : decode cX7_init 41 = .ok (.sipush 3000, 3) := by decide +kernel
theorem dX7_init_44 : decode cX7_init 44 = .ok (.newarray .int, 2) := by decide +kernel
theorem dX7_init_46 : decode cX7_init 46 = .ok (.putfield 22, 3) := by decide +kernel
theorem dX7_init_49 : decode cX7_init 49 = .ok (.aload_n 0, 1) := by decide +kernel
theorem dX7_init_50 : decode cX7_init 50 = .ok (.sipush 3000, 3) := by decide +kernel
theorem dX7_init_53 : decode cX7_init 53 = .ok (.newarray .long, 2) := by decide +kernel
theorem dX7_init_55 : decode cX7_init 55 = .ok (.putfield 26, 3) := by decide +kernel
theorem dX7_init_58 : decode cX7_init 58 = .ok (.aload_n 0, 1) := by decide +kernel
theorem dX7_init_59 : decode cX7_init 59 = .ok (.sipush 3000, 3) := by decide +kernel
theorem dX7_init_62 : decode cX7_init 62 = .ok (.newarray .int, 2) := by decide +kernel
theorem dX7_init_64 : decode cX7_init 64 = .ok (.putfield 30, 3) := by decide +kernel
theorem dX7_init_67 : decode cX7_init 67 = .ok (.aload_n 0, 1) := by decide +kernel
theorem dX7_init_68 : decode cX7_init 68 = .ok (.sipush 3000, 3) := by decide +kernel
theorem dX7_init_71 : decode cX7_init 71 = .ok (.newarray .int, 2) := by decide +kernel
theorem dX7_init_73 : decode cX7_init 73 = .ok (.putfield 33, 3) := by decide +kernel
theorem dX7_init_76 : decode cX7_init 76 = .ok (.aload_n 0, 1) := by decide +kernel
theorem dX7_init_77 : decode cX7_init 77 = .ok (.sipush 3000, 3) := by decide +kernel
theorem dX7_init_80 : decode cX7_init 80 = .ok (.newarray .int, 2) := by decide +kernel
theorem dX7_init_82 : decode cX7_init 82 = .ok (.putfield 36, 3) := by decide +kernel
theorem dX7_init_85 : decode cX7_init 85 = .ok (.aload_n 0, 1) := by decide +kernel
theorem dX7_init_86 : decode cX7_init 86 = .ok (.sipush 16000, 3) := by decide +kernel
theorem dX7_init_89 : decode cX7_init 89 = .ok (.newarray .byte, 2) := by decide +kernel
theorem dX7_init_91 : decode cX7_init 91 = .ok (.putfield 39, 3) := by decide +kernel
theorem dX7_init_94 : decode cX7_init 94 = .ok (.aload_n 0, 1) := by decide +kernel
theorem dX7_init_95 : decode cX7_init 95 = .ok (.iconst 2, 1) := by decide +kernel
theorem dX7_init_96 : decode cX7_init 96 = .ok (.newarray .int, 2) := by decide +kernel
theorem dX7_init_98 : decode cX7_init 98 = .ok (.putfield 42, 3) := by decide +kernel
theorem dX7_init_101 : decode cX7_init 101 = .ok (.aload_n 0, 1) := by decide +kernel
theorem dX7_init_102 : decode cX7_init 102 = .ok (.iconst 2, 1) := by decide +kernel
theorem dX7_init_103 : decode cX7_init 103 = .ok (.newarray .int, 2) := by decide +kernel
theorem dX7_init_105 : decode cX7_init 105 = .ok (.putfield 45, 3) := by decide +kernel
theorem dX7_init_108 : decode cX7_init 108 = .ok (.aload_n 0, 1) := by decide +kernel
theorem dX7_init_109 : decode cX7_init 109 = .ok (.bipush 60, 2) := by decide +kernel
theorem dX7_init_111 : decode cX7_init 111 = .ok (.newarray .boolean, 2) := by decide +kernel
theorem dX7_init_113 : decode cX7_init 113 = .ok (.putfield 48, 3) := by decide +kernel
theorem dX7_init_116 : decode cX7_init 116 = .ok (.aload_n 0, 1) := by decide +kernel
theorem dX7_init_117 : decode cX7_init 117 = .ok (.bipush 60, 2) := by decide +kernel
theorem dX7_init_119 : decode cX7_init 119 = .ok (.newarray .boolean, 2) := by decide +kernel
theorem dX7_init_121 : decode cX7_init 121 = .ok (.putfield 52, 3) := by decide +kernel
theorem dX7_init_124 : decode cX7_init 124 = .ok (.aload_n 0, 1) := by decide +kernel
theorem dX7_init_125 : decode cX7_init 125 = .ok (.iconst 2, 1) := by decide +kernel
theorem dX7_init_126 : decode cX7_init 126 = .ok (.newarray .int, 2) := by decide +kernel
theorem dX7_init_128 : decode cX7_init 128 = .ok (.putfield 55, 3) := by decide +kernel
theorem dX7_init_131 : decode cX7_init 131 = .ok (.aload_n 0, 1) := by decide +kernel
theorem dX7_init_132 : decode cX7_init 132 = .ok (.sipush 2048, 3) := by decide +kernel
theorem dX7_init_135 : decode cX7_init 135 = .ok (.newarray .int, 2) := by decide +kernel
theorem dX7_init_137 : decode cX7_init 137 = .ok (.putfield 58, 3) := by decide +kernel
theorem dX7_init_140 : decode cX7_init 140 = .ok (.aload_n 0, 1) := by decide +kernel
theorem dX7_init_141 : decode cX7_init 141 = .ok (.iconst 2, 1) := by decide +kernel
theorem dX7_init_142 : decode cX7_init 142 = .ok (.newarray .int, 2) := by decide +kernel
theorem dX7_init_144 : decode cX7_init 144 = .ok (.putfield 61, 3) := by decide +kernel
theorem dX7_init_147 : decode cX7_init 147 = .ok (.aload_n 0, 1) := by decide +kernel
theorem dX7_init_148 : decode cX7_init 148 = .ok (.iconst (-1), 1) := by decide +kernel
theorem dX7_init_149 : decode cX7_init 149 = .ok (.putfield 64, 3) := by decide +kernel
theorem dX7_init_152 : decode cX7_init 152 = .ok (.aload_n 0, 1) := by decide +kernel
theorem dX7_init_153 : decode cX7_init 153 = .ok (.bipush 31, 2) := by decide +kernel
theorem dX7_init_155 : decode cX7_init 155 = .ok (.newarray .boolean, 2) := by decide +kernel
theorem dX7_init_157 : decode cX7_init 157 = .ok (.putfield 68, 3) := by decide +kernel
theorem dX7_init_160 : decode cX7_init 160 = .ok (.return_, 1) := by decide +kernel
set_option maxRecDepth 100000 in
set_option maxHeartbeats 8000000 in
theorem qX2_init (l : Launch) (G : jG) (ad : Nat → Nat) {N : Nat} (hN : N ≤ 100000) : CT l G yX2_init cX2_init 2 none { frames := 1, cells := 1, slots := N, locals := 20 } ad [.ref (ad 0), .int (nI N)] [ob 2 [.null, .int 0, .int 0]] 1 (pd ad none [ob 2 [.ref (ad 1), .int 0, .int 0], aB G N (fun _ => 0)]) :=
  CT.of jyX2_init (Nat.le_of_ble_eq_true rfl) (fun X B E hn hAd => by
    refine jv_aload_n B dX2_init_0 rfl ?_
    refine jv_objInit B wm_X2_3 wobj_i wobj_c ⟨Nat.le_of_ble_eq_true rfl, Nat.le_of_ble_eq_true rfl⟩ dX2_init_1 ?_
    refine jv_aload_n B dX2_init_4 rfl ?_
    refine jv_iload_n B dX2_init_5 rfl ?_
    refine jv_newa (N := N) (a0 := (N, .inl (fun _ => 0))) (cA := G.2.2.1) (ws' := [ob 2 [.null, .int 0, .int 0], _]) B hAd rfl (by decide) (ty := .byte) rfl war_byte 1 rfl (fun _ h => h) (fun _ => rfl) rfl ⟨by omega, by show N * 1 ≤ _; omega⟩ ⟨Nat.le_of_ble_eq_true rfl, by show 0 + N ≤ N; omega⟩ rfl dX2_init_6 ?_
    refine jv_top (w := .ref (ad 1)) rfl ?_
    refine jv_putF (fs' := [.ref (ad 1), .int 0, .int 0]) (ws' := [ob 2 [.ref (ad 1), .int 0, .int 0], _]) B (hn.trans rfl) kX2 0 (by decide) wf_X2_9 rfl rfl rfl rfl rfl (Nat.le_of_ble_eq_true rfl) rfl rfl dX2_init_8 ?_
    exact jv_vret B E ⟨rfl, rfl⟩ ⟨Nat.le_of_ble_eq_true rfl, by show 0 + N ≤ N; omega⟩ dX2_init_11)
set_option maxRecDepth 100000 in
set_option maxHeartbeats 8000000 in
theorem qX0_init (l : Launch) (G : jG) (ad : Nat → Nat)   : CT l G yX0_init cX0_init 1 none { frames := 2, cells := 8, slots := 12533, locals := 41 } ad [.ref (ad 0)] [ob 0 [.null, .null, .null, .null, .null, .null, .null, .int 0, .int 0, .int 0]] 8 (pd ad none [ob 0 [.ref (ad 1), .ref (ad 2), .ref (ad 3), .ref (ad 4), .ref (ad 5), .ref (ad 6), .ref (ad 8), .int 0, .int 0, .int 0], aI G 1500 (fun _ => 0), aI G 1500 (fun _ => 0), aI G 1500 (fun _ => 0), aI G 1500 (fun _ => 0), aL G 1500 (fun _ => 0), ob 2 [.ref (ad 7), .int 0, .int 0], aB G 5000 (fun _ => 0), aI G 30 (fun _ => 0)]) :=
  CT.of jyX0_init (Nat.le_of_ble_eq_true rfl) (fun X B E hn hAd => by
    refine jv_aload_n B dX0_init_0 rfl ?_
    refine jv_objInit B wm_X0_3 wobj_i wobj_c ⟨Nat.le_of_ble_eq_true rfl, Nat.le_of_ble_eq_true rfl⟩ dX0_init_1 ?_
    refine jv_aload_n B dX0_init_4 rfl ?_
    refine jv_sipush (v := 1500) B dX0_init_5 (by decide) ?_
    refine jv_newa (N := 1500) (a0 := (1500, .inl (fun _ => 0))) (cA := G.2.1) (ws' := [ob 0 [.null, .null, .null, .null, .null, .null, .null, .int 0, .int 0, .int 0], _]) B hAd rfl (by decide) (ty := .int) rfl war_int 0 rfl (fun _ h => h) (fun _ => rfl) (by decide) (by decide) ⟨by decide, by decide⟩ rfl dX0_init_8 ?_
    refine jv_top (w := .ref (ad 1)) rfl ?_
    refine jv_putF (fs' := [.ref (ad 1), .null, .null, .null, .null, .null, .null, .int 0, .int 0, .int 0]) (ws' := [ob 0 [.ref (ad 1), .null, .null, .null, .null, .null, .null, .int 0, .int 0, .int 0], _]) B (hn.trans rfl) kX0 0 (by decide) wf_X0_9 rfl rfl rfl rfl rfl (Nat.le_of_ble_eq_true rfl) rfl rfl dX0_init_10 ?_
    refine jv_aload_n B dX0_init_13 rfl ?_
    refine jv_sipush (v := 1500) B dX0_init_14 (by decide) ?_
    refine jv_newa (N := 1500) (a0 := (1500, .inl (fun _ => 0))) (cA := G.2.1) (ws' := [ob 0 [.ref (ad 1), .null, .null, .null, .null, .null, .null, .int 0, .int 0, .int 0], _, _]) B hAd rfl (by decide) (ty := .int) rfl war_int 0 rfl (fun _ h => h) (fun _ => rfl) (by decide) (by decide) ⟨by decide, by decide⟩ rfl dX0_init_17 ?_
    refine jv_top (w := .ref (ad 2)) rfl ?_
    refine jv_putF (fs' := [.ref (ad 1), .ref (ad 2), .null, .null, .null, .null, .null, .int 0, .int 0, .int 0]) (ws' := [ob 0 [.ref (ad 1), .ref (ad 2), .null, .null, .null, .null, .null, .int 0, .int 0, .int 0], _, _]) B (hn.trans rfl) kX0 1 (by decide) wf_X0_15 rfl rfl rfl rfl rfl (Nat.le_of_ble_eq_true rfl) rfl rfl dX0_init_19 ?_
    refine jv_aload_n B dX0_init_22 rfl ?_
    refine jv_sipush (v := 1500) B dX0_init_23 (by decide) ?_
    refine jv_newa (N := 1500) (a0 := (1500, .inl (fun _ => 0))) (cA := G.2.1) (ws' := [ob 0 [.ref (ad 1), .ref (ad 2), .null, .null, .null, .null, .null, .int 0, .int 0, .int 0], _, _, _]) B hAd rfl (by decide) (ty := .int) rfl war_int 0 rfl (fun _ h => h) (fun _ => rfl) (by decide) (by decide) ⟨by decide, by decide⟩ rfl dX0_init_26 ?_
    refine jv_top (w := .ref (ad 3)) rfl ?_
    refine jv_putF (fs' := [.ref (ad 1), .ref (ad 2), .ref (ad 3), .null, .null, .null, .null, .int 0, .int 0, .int 0]) (ws' := [ob 0 [.ref (ad 1), .ref (ad 2), .ref (ad 3), .null, .null, .null, .null, .int 0, .int 0, .int 0], _, _, _]) B (hn.trans rfl) kX0 2 (by decide) wf_X0_18 rfl rfl rfl rfl rfl (Nat.le_of_ble_eq_true rfl) rfl rfl dX0_init_28 ?_
    refine jv_aload_n B dX0_init_31 rfl ?_
    refine jv_sipush (v := 1500) B dX0_init_32 (by decide) ?_
    refine jv_newa (N := 1500) (a0 := (1500, .inl (fun _ => 0))) (cA := G.2.1) (ws' := [ob 0 [.ref (ad 1), .ref (ad 2), .ref (ad 3), .null, .null, .null, .null, .int 0, .int 0, .int 0], _, _, _, _]) B hAd rfl (by decide) (ty := .int) rfl war_int 0 rfl (fun _ h => h) (fun _ => rfl) (by decide) (by decide) ⟨by decide, by decide⟩ rfl dX0_init_35 ?_
    refine jv_top (w := .ref (ad 4)) rfl ?_
    refine jv_putF (fs' := [.ref (ad 1), .ref (ad 2), .ref (ad 3), .ref (ad 4), .null, .null, .null, .int 0, .int 0, .int 0]) (ws' := [ob 0 [.ref (ad 1), .ref (ad 2), .ref (ad 3), .ref (ad 4), .null, .null, .null, .int 0, .int 0, .int 0], _, _, _, _]) B (hn.trans rfl) kX0 3 (by decide) wf_X0_21 rfl rfl rfl rfl rfl (Nat.le_of_ble_eq_true rfl) rfl rfl dX0_init_37 ?_
    refine jv_aload_n B dX0_init_40 rfl ?_
    refine jv_sipush (v := 1500) B dX0_init_41 (by decide) ?_
    refine jv_newa (N := 1500) (a0 := (1500, .inr (.inl (fun _ => 0)))) (cA := G.2.2.2.1) (ws' := [ob 0 [.ref (ad 1), .ref (ad 2), .ref (ad 3), .ref (ad 4), .null, .null, .null, .int 0, .int 0, .int 0], _, _, _, _, _]) B hAd rfl (by decide) (ty := .long) rfl war_long 2 rfl (fun _ h => h) (fun _ => rfl) (by decide) (by decide) ⟨by decide, by decide⟩ rfl dX0_init_44 ?_
    refine jv_top (w := .ref (ad 5)) rfl ?_
    refine jv_putF (fs' := [.ref (ad 1), .ref (ad 2), .ref (ad 3), .ref (ad 4), .ref (ad 5), .null, .null, .int 0, .int 0, .int 0]) (ws' := [ob 0 [.ref (ad 1), .ref (ad 2), .ref (ad 3), .ref (ad 4), .ref (ad 5), .null, .null, .int 0, .int 0, .int 0], _, _, _, _, _]) B (hn.trans rfl) kX0 4 (by decide) wf_X0_24 rfl rfl rfl rfl rfl (Nat.le_of_ble_eq_true rfl) rfl rfl dX0_init_46 ?_
    refine jv_aload_n B dX0_init_49 rfl ?_
    refine jv_new (fs := [.null, .int 0, .int 0]) (ws' := [ob 0 [.ref (ad 1), .ref (ad 2), .ref (ad 3), .ref (ad 4), .ref (ad 5), .null, .null, .int 0, .int 0, .int 0], _, _, _, _, _, ob 2 [.null, .int 0, .int 0]]) B hAd rfl (by decide) kX2 wcl_X0_28 wins_X2 wn_X2 (by intro j hj; rcases (show j = 0 ∨ j = 1 ∨ j = 2 by omega) with rfl | rfl | rfl <;> rfl) ⟨by decide, by decide⟩ rfl dX0_init_50 ?_
    refine jv_top (w := .ref (ad 6)) rfl ?_
    refine jv_dup B dX0_init_53 rfl ?_
    refine jv_sipush (v := 5000) B dX0_init_54 (by decide) ?_
    refine jv_callI (ws' := [ob 0 [.ref (ad 1), .ref (ad 2), .ref (ad 3), .ref (ad 4), .ref (ad 5), .null, .null, .int 0, .int 0, .int 0], _, _, _, _, _, ob 2 [.ref (ad 7), .int 0, .int 0], _]) B hAd rfl (by decide) jyX2_init jiX2_init wm_X0_30 [6, 7] (qX2_init _ G _ (N := 5000) (by decide)) rfl ⟨⟨by decide, by decide⟩, by decide, by decide⟩ rfl rfl (by decide) rfl rfl rfl (Nat.le_of_ble_eq_true rfl) dX0_init_57 ?_
    refine jv_putF (fs' := [.ref (ad 1), .ref (ad 2), .ref (ad 3), .ref (ad 4), .ref (ad 5), .ref (ad 6), .null, .int 0, .int 0, .int 0]) (ws' := [ob 0 [.ref (ad 1), .ref (ad 2), .ref (ad 3), .ref (ad 4), .ref (ad 5), .ref (ad 6), .null, .int 0, .int 0, .int 0], _, _, _, _, _, ob 2 [.ref (ad 7), .int 0, .int 0], _]) B (hn.trans rfl) kX0 5 (by decide) wf_X0_33 rfl rfl rfl rfl rfl (Nat.le_of_ble_eq_true rfl) rfl rfl dX0_init_60 ?_
    refine jv_aload_n B dX0_init_63 rfl ?_
    refine jv_bipush (v := 30) B dX0_init_64 (by decide) ?_
    refine jv_newa (N := 30) (a0 := (30, .inl (fun _ => 0))) (cA := G.2.1) (ws' := [ob 0 [.ref (ad 1), .ref (ad 2), .ref (ad 3), .ref (ad 4), .ref (ad 5), .ref (ad 6), .null, .int 0, .int 0, .int 0], _, _, _, _, _, ob 2 [.ref (ad 7), .int 0, .int 0], _, _]) B hAd rfl (by decide) (ty := .int) rfl war_int 0 rfl (fun _ h => h) (fun _ => rfl) (by decide) (by decide) ⟨by decide, by decide⟩ rfl dX0_init_66 ?_
    refine jv_top (w := .ref (ad 8)) rfl ?_
    refine jv_putF (fs' := [.ref (ad 1), .ref (ad 2), .ref (ad 3), .ref (ad 4), .ref (ad 5), .ref (ad 6), .ref (ad 8), .int 0, .int 0, .int 0]) (ws' := [ob 0 [.ref (ad 1), .ref (ad 2), .ref (ad 3), .ref (ad 4), .ref (ad 5), .ref (ad 6), .ref (ad 8), .int 0, .int 0, .int 0], _, _, _, _, _, ob 2 [.ref (ad 7), .int 0, .int 0], _, _]) B (hn.trans rfl) kX0 6 (by decide) wf_X0_37 rfl rfl rfl rfl rfl (Nat.le_of_ble_eq_true rfl) rfl rfl dX0_init_68 ?_
    exact jv_vret B E ⟨rfl, rfl⟩ ⟨by decide, by decide⟩ dX0_init_71)
set_option maxRecDepth 100000 in
set_option maxHeartbeats 8000000 in
theorem qX3_init (l : Launch) (G : jG) (ad : Nat → Nat)   : CT l G yX3_init cX3_init 1 none { frames := 1, cells := 3, slots := 2304, locals := 20 } ad [.ref (ad 0)] [ob 3 [.null, .null, .null, .int 0]] 3 (pd ad none [ob 3 [.ref (ad 1), .ref (ad 2), .ref (ad 3), .int 0], aI G 1024 (fun _ => 0), aI G 1024 (fun _ => 0), aI G 256 (fun _ => 0)]) :=
  CT.of jyX3_init (Nat.le_of_ble_eq_true rfl) (fun X B E hn hAd => by
    refine jv_aload_n B dX3_init_0 rfl ?_
    refine jv_objInit B wm_X3_3 wobj_i wobj_c ⟨Nat.le_of_ble_eq_true rfl, Nat.le_of_ble_eq_true rfl⟩ dX3_init_1 ?_
    refine jv_aload_n B dX3_init_4 rfl ?_
    refine jv_sipush (v := 1024) B dX3_init_5 (by decide) ?_
    refine jv_newa (N := 1024) (a0 := (1024, .inl (fun _ => 0))) (cA := G.2.1) (ws' := [ob 3 [.null, .null, .null, .int 0], _]) B hAd rfl (by decide) (ty := .int) rfl war_int 0 rfl (fun _ h => h) (fun _ => rfl) (by decide) (by decide) ⟨by decide, by decide⟩ rfl dX3_init_8 ?_
    refine jv_top (w := .ref (ad 1)) rfl ?_
    refine jv_putF (fs' := [.ref (ad 1), .null, .null, .int 0]) (ws' := [ob 3 [.ref (ad 1), .null, .null, .int 0], _]) B (hn.trans rfl) kX3 0 (by decide) wf_X3_9 rfl rfl rfl rfl rfl (Nat.le_of_ble_eq_true rfl) rfl rfl dX3_init_10 ?_
    refine jv_aload_n B dX3_init_13 rfl ?_
    refine jv_sipush (v := 1024) B dX3_init_14 (by decide) ?_
    refine jv_newa (N := 1024) (a0 := (1024, .inl (fun _ => 0))) (cA := G.2.1) (ws' := [ob 3 [.ref (ad 1), .null, .null, .int 0], _, _]) B hAd rfl (by decide) (ty := .int) rfl war_int 0 rfl (fun _ h => h) (fun _ => rfl) (by decide) (by decide) ⟨by decide, by decide⟩ rfl dX3_init_17 ?_
    refine jv_top (w := .ref (ad 2)) rfl ?_
    refine jv_putF (fs' := [.ref (ad 1), .ref (ad 2), .null, .int 0]) (ws' := [ob 3 [.ref (ad 1), .ref (ad 2), .null, .int 0], _, _]) B (hn.trans rfl) kX3 1 (by decide) wf_X3_15 rfl rfl rfl rfl rfl (Nat.le_of_ble_eq_true rfl) rfl rfl dX3_init_19 ?_
    refine jv_aload_n B dX3_init_22 rfl ?_
    refine jv_sipush (v := 256) B dX3_init_23 (by decide) ?_
    refine jv_newa (N := 256) (a0 := (256, .inl (fun _ => 0))) (cA := G.2.1) (ws' := [ob 3 [.ref (ad 1), .ref (ad 2), .null, .int 0], _, _, _]) B hAd rfl (by decide) (ty := .int) rfl war_int 0 rfl (fun _ h => h) (fun _ => rfl) (by decide) (by decide) ⟨by decide, by decide⟩ rfl dX3_init_26 ?_
    refine jv_top (w := .ref (ad 3)) rfl ?_
    refine jv_putF (fs' := [.ref (ad 1), .ref (ad 2), .ref (ad 3), .int 0]) (ws' := [ob 3 [.ref (ad 1), .ref (ad 2), .ref (ad 3), .int 0], _, _, _]) B (hn.trans rfl) kX3 2 (by decide) wf_X3_18 rfl rfl rfl rfl rfl (Nat.le_of_ble_eq_true rfl) rfl rfl dX3_init_28 ?_
    exact jv_vret B E ⟨rfl, rfl⟩ ⟨by decide, by decide⟩ dX3_init_31)
set_option maxRecDepth 100000 in
set_option maxHeartbeats 8000000 in
theorem qX5_init (l : Launch) (G : jG) (ad : Nat → Nat) {t1 t2 : Nat}  : CT l G yX5_init cX5_init 3 none { frames := 1, cells := 1, slots := 30, locals := 20 } ad [.ref (ad 0), .ref t1, .ref t2] [ob 4 [.null, .null, .null, .null, .null, .int 0]] 1 (pd ad none [ob 4 [.ref t1, .ref t2, .ref (ad 1), .null, .null, .int 0], aI G 30 (fun _ => 0)]) :=
  CT.of jyX5_init (Nat.le_of_ble_eq_true rfl) (fun X B E hn hAd => by
    refine jv_aload_n B dX5_init_0 rfl ?_
    refine jv_objInit B wm_X5_3 wobj_i wobj_c ⟨Nat.le_of_ble_eq_true rfl, Nat.le_of_ble_eq_true rfl⟩ dX5_init_1 ?_
    refine jv_aload_n B dX5_init_4 rfl ?_
    refine jv_bipush (v := 30) B dX5_init_5 (by decide) ?_
    refine jv_newa (N := 30) (a0 := (30, .inl (fun _ => 0))) (cA := G.2.1) (ws' := [ob 4 [.null, .null, .null, .null, .null, .int 0], _]) B hAd rfl (by decide) (ty := .int) rfl war_int 0 rfl (fun _ h => h) (fun _ => rfl) (by decide) (by decide) ⟨by decide, by decide⟩ rfl dX5_init_7 ?_
    refine jv_top (w := .ref (ad 1)) rfl ?_
    refine jv_putF (fs' := [.null, .null, .ref (ad 1), .null, .null, .int 0]) (ws' := [ob 4 [.null, .null, .ref (ad 1), .null, .null, .int 0], _]) B (hn.trans rfl) kX5 2 (by decide) wf_X5_9 rfl rfl rfl rfl rfl (Nat.le_of_ble_eq_true rfl) rfl rfl dX5_init_9 ?_
    refine jv_aload_n B dX5_init_12 rfl ?_
    refine jv_aload_n B dX5_init_13 rfl ?_
    refine jv_putF (fs' := [.ref t1, .null, .ref (ad 1), .null, .null, .int 0]) (ws' := [ob 4 [.ref t1, .null, .ref (ad 1), .null, .null, .int 0], _]) B (hn.trans rfl) kX5 0 (by decide) wf_X5_15 rfl rfl rfl rfl rfl (Nat.le_of_ble_eq_true rfl) rfl rfl dX5_init_14 ?_
    refine jv_aload_n B dX5_init_17 rfl ?_
    refine jv_aload_n B dX5_init_18 rfl ?_
    refine jv_putF (fs' := [.ref t1, .ref t2, .ref (ad 1), .null, .null, .int 0]) (ws' := [ob 4 [.ref t1, .ref t2, .ref (ad 1), .null, .null, .int 0], _]) B (hn.trans rfl) kX5 1 (by decide) wf_X5_19 rfl rfl rfl rfl rfl (Nat.le_of_ble_eq_true rfl) rfl rfl dX5_init_19 ?_
    exact jv_vret B E ⟨rfl, rfl⟩ ⟨by decide, by decide⟩ dX5_init_22)
set_option maxRecDepth 100000 in
set_option maxHeartbeats 8000000 in
theorem qX1_init (l : Launch) (G : jG) (ad : Nat → Nat) {t1 t2 : Nat}  : CT l G yX1_init cX1_init 3 none { frames := 1, cells := 0, slots := 0, locals := 20 } ad [.ref (ad 0), .ref t1, .ref t2] [ob 1 [.null, .null, .null, .null, .int 0, .int 0, .int 0, .int 0, .int 0, .int 0, .long 0, .int 0, .int 0, .int 0, .int 0, .int 0]] 0 (pd ad none [ob 1 [.ref t1, .ref t2, .null, .null, .int 0, .int 0, .int 0, .int (-1), .int 0, .int 0, .long 0, .int 0, .int 0, .int 0, .int 0, .int 0]]) :=
  CT.of jyX1_init (Nat.le_of_ble_eq_true rfl) (fun X B E hn hAd => by
    refine jv_aload_n B dX1_init_0 rfl ?_
    refine jv_objInit B wm_X1_3 wobj_i wobj_c ⟨Nat.le_of_ble_eq_true rfl, Nat.le_of_ble_eq_true rfl⟩ dX1_init_1 ?_
    refine jv_aload_n B dX1_init_4 rfl ?_
    refine jv_iconst (v := (-1)) B dX1_init_5 (by decide) ?_
    refine jv_put (fs' := [.null, .null, .null, .null, .int 0, .int 0, .int 0, .int (-1), .int 0, .int 0, .long 0, .int 0, .int 0, .int 0, .int 0, .int 0]) (ws' := [ob 1 [.null, .null, .null, .null, .int 0, .int 0, .int 0, .int (-1), .int 0, .int 0, .long 0, .int 0, .int 0, .int 0, .int 0, .int 0]]) B kX1 7 (by decide) wf_X1_9 rfl rfl rfl rfl (Nat.le_of_ble_eq_true rfl) rfl rfl dX1_init_6 ?_
    refine jv_aload_n B dX1_init_9 rfl ?_
    refine jv_aload_n B dX1_init_10 rfl ?_
    refine jv_putF (fs' := [.ref t1, .null, .null, .null, .int 0, .int 0, .int 0, .int (-1), .int 0, .int 0, .long 0, .int 0, .int 0, .int 0, .int 0, .int 0]) (ws' := [ob 1 [.ref t1, .null, .null, .null, .int 0, .int 0, .int 0, .int (-1), .int 0, .int 0, .long 0, .int 0, .int 0, .int 0, .int 0, .int 0]]) B (hn.trans rfl) kX1 0 (by decide) wf_X1_15 rfl rfl rfl rfl rfl (Nat.le_of_ble_eq_true rfl) rfl rfl dX1_init_11 ?_
    refine jv_aload_n B dX1_init_14 rfl ?_
    refine jv_aload_n B dX1_init_15 rfl ?_
    refine jv_putF (fs' := [.ref t1, .ref t2, .null, .null, .int 0, .int 0, .int 0, .int (-1), .int 0, .int 0, .long 0, .int 0, .int 0, .int 0, .int 0, .int 0]) (ws' := [ob 1 [.ref t1, .ref t2, .null, .null, .int 0, .int 0, .int 0, .int (-1), .int 0, .int 0, .long 0, .int 0, .int 0, .int 0, .int 0, .int 0]]) B (hn.trans rfl) kX1 1 (by decide) wf_X1_19 rfl rfl rfl rfl rfl (Nat.le_of_ble_eq_true rfl) rfl rfl dX1_init_16 ?_
    exact jv_vret B E ⟨rfl, rfl⟩ ⟨by decide, by decide⟩ dX1_init_19)
set_option maxRecDepth 100000 in
set_option maxHeartbeats 8000000 in
theorem qX6_init (l : Launch) (G : jG) (ad : Nat → Nat)   : CT l G yX6_init cX6_init 3 none { frames := 3, cells := 37, slots := 48766, locals := 61 } ad [.ref (ad 0)] [ob 5 [.null, .null, .null, .null, .null, .null, .null, .null]] 37 (pd ad none [ob 5 [.ref (ad 1), .ref (ad 3), .ref (ad 35), .ref (ad 37), .ref (ad 5), .ref (ad 7), .ref (ad 9), .ref (ad 18)], ob 2 [.ref (ad 2), .int 0, .int 0], aB G 1000 (fun _ => 0), ob 2 [.ref (ad 4), .int 0, .int 0], aB G 6000 (fun _ => 0), ob 2 [.ref (ad 6), .int 0, .int 0], aB G 6000 (fun _ => 0), ob 2 [.ref (ad 8), .int 0, .int 0], aB G 6000 (fun _ => 0), ob 0 [.ref (ad 10), .ref (ad 11), .ref (ad 12), .ref (ad 13), .ref (ad 14), .ref (ad 15), .ref (ad 17), .int 0, .int 0, .int 0], aI G 1500 (fun _ => 0), aI G 1500 (fun _ => 0), aI G 1500 (fun _ => 0), aI G 1500 (fun _ => 0), aL G 1500 (fun _ => 0), ob 2 [.ref (ad 16), .int 0, .int 0], aB G 5000 (fun _ => 0), aI G 30 (fun _ => 0), ob 0 [.ref (ad 19), .ref (ad 20), .ref (ad 21), .ref (ad 22), .ref (ad 23), .ref (ad 24), .ref (ad 26), .int 0, .int 0, .int 0], aI G 1500 (fun _ => 0), aI G 1500 (fun _ => 0), aI G 1500 (fun _ => 0), aI G 1500 (fun _ => 0), aL G 1500 (fun _ => 0), ob 2 [.ref (ad 25), .int 0, .int 0], aB G 5000 (fun _ => 0), aI G 30 (fun _ => 0), ob 3 [.ref (ad 28), .ref (ad 29), .ref (ad 30), .int 0], aI G 1024 (fun _ => 0), aI G 1024 (fun _ => 0), aI G 256 (fun _ => 0), ob 3 [.ref (ad 32), .ref (ad 33), .ref (ad 34), .int 0], aI G 1024 (fun _ => 0), aI G 1024 (fun _ => 0), aI G 256 (fun _ => 0), ob 4 [.ref (ad 27), .ref (ad 31), .ref (ad 36), .null, .null, .int 0], aI G 30 (fun _ => 0), ob 1 [.ref (ad 27), .ref (ad 31), .null, .null, .int 0, .int 0, .int 0, .int (-1), .int 0, .int 0, .long 0, .int 0, .int 0, .int 0, .int 0, .int 0]]) :=
  CT.of jyX6_init (Nat.le_of_ble_eq_true rfl) (fun X B E hn hAd => by
    refine jv_aload_n B dX6_init_0 rfl ?_
    refine jv_objInit B wm_X6_1 wobj_i wobj_c ⟨Nat.le_of_ble_eq_true rfl, Nat.le_of_ble_eq_true rfl⟩ dX6_init_1 ?_
    refine jv_aload_n B dX6_init_4 rfl ?_
    refine jv_new (fs := [.null, .int 0, .int 0]) (ws' := [ob 5 [.null, .null, .null, .null, .null, .null, .null, .null], ob 2 [.null, .int 0, .int 0]]) B hAd rfl (by decide) kX2 wcl_X6_7 wins_X2 wn_X2 (by intro j hj; rcases (show j = 0 ∨ j = 1 ∨ j = 2 by omega) with rfl | rfl | rfl <;> rfl) ⟨by decide, by decide⟩ rfl dX6_init_5 ?_
    refine jv_top (w := .ref (ad 1)) rfl ?_
    refine jv_dup B dX6_init_8 rfl ?_
    refine jv_sipush (v := 1000) B dX6_init_9 (by decide) ?_
    refine jv_callI (ws' := [ob 5 [.null, .null, .null, .null, .null, .null, .null, .null], ob 2 [.ref (ad 2), .int 0, .int 0], _]) B hAd rfl (by decide) jyX2_init jiX2_init wm_X6_11 [1, 2] (qX2_init _ G _ (N := 1000) (by decide)) rfl ⟨⟨by decide, by decide⟩, by decide, by decide⟩ rfl rfl (by decide) rfl rfl rfl (Nat.le_of_ble_eq_true rfl) dX6_init_12 ?_
    refine jv_putF (fs' := [.ref (ad 1), .null, .null, .null, .null, .null, .null, .null]) (ws' := [ob 5 [.ref (ad 1), .null, .null, .null, .null, .null, .null, .null], ob 2 [.ref (ad 2), .int 0, .int 0], _]) B (hn.trans rfl) kX6 0 (by decide) wf_X6_14 rfl rfl rfl rfl rfl (Nat.le_of_ble_eq_true rfl) rfl rfl dX6_init_15 ?_
    refine jv_aload_n B dX6_init_18 rfl ?_
    refine jv_new (fs := [.null, .int 0, .int 0]) (ws' := [ob 5 [.ref (ad 1), .null, .null, .null, .null, .null, .null, .null], ob 2 [.ref (ad 2), .int 0, .int 0], _, ob 2 [.null, .int 0, .int 0]]) B hAd rfl (by decide) kX2 wcl_X6_7 wins_X2 wn_X2 (by intro j hj; rcases (show j = 0 ∨ j = 1 ∨ j = 2 by omega) with rfl | rfl | rfl <;> rfl) ⟨by decide, by decide⟩ rfl dX6_init_19 ?_
    refine jv_top (w := .ref (ad 3)) rfl ?_
    refine jv_dup B dX6_init_22 rfl ?_
    refine jv_sipush (v := 6000) B dX6_init_23 (by decide) ?_
    refine jv_callI (ws' := [ob 5 [.ref (ad 1), .null, .null, .null, .null, .null, .null, .null], ob 2 [.ref (ad 2), .int 0, .int 0], _, ob 2 [.ref (ad 4), .int 0, .int 0], _]) B hAd rfl (by decide) jyX2_init jiX2_init wm_X6_11 [3, 4] (qX2_init _ G _ (N := 6000) (by decide)) rfl ⟨⟨by decide, by decide⟩, by decide, by decide⟩ rfl rfl (by decide) rfl rfl rfl (Nat.le_of_ble_eq_true rfl) dX6_init_26 ?_
    refine jv_putF (fs' := [.ref (ad 1), .ref (ad 3), .null, .null, .null, .null, .null, .null]) (ws' := [ob 5 [.ref (ad 1), .ref (ad 3), .null, .null, .null, .null, .null, .null], ob 2 [.ref (ad 2), .int 0, .int 0], _, ob 2 [.ref (ad 4), .int 0, .int 0], _]) B (hn.trans rfl) kX6 1 (by decide) wf_X6_18 rfl rfl rfl rfl rfl (Nat.le_of_ble_eq_true rfl) rfl rfl dX6_init_29 ?_
    refine jv_aload_n B dX6_init_32 rfl ?_
    refine jv_new (fs := [.null, .int 0, .int 0]) (ws' := [ob 5 [.ref (ad 1), .ref (ad 3), .null, .null, .null, .null, .null, .null], ob 2 [.ref (ad 2), .int 0, .int 0], _, ob 2 [.ref (ad 4), .int 0, .int 0], _, ob 2 [.null, .int 0, .int 0]]) B hAd rfl (by decide) kX2 wcl_X6_7 wins_X2 wn_X2 (by intro j hj; rcases (show j = 0 ∨ j = 1 ∨ j = 2 by omega) with rfl | rfl | rfl <;> rfl) ⟨by decide, by decide⟩ rfl dX6_init_33 ?_
    refine jv_top (w := .ref (ad 5)) rfl ?_
    refine jv_dup B dX6_init_36 rfl ?_
    refine jv_sipush (v := 6000) B dX6_init_37 (by decide) ?_
    refine jv_callI (ws' := [ob 5 [.ref (ad 1), .ref (ad 3), .null, .null, .null, .null, .null, .null], ob 2 [.ref (ad 2), .int 0, .int 0], _, ob 2 [.ref (ad 4), .int 0, .int 0], _, ob 2 [.ref (ad 6), .int 0, .int 0], _]) B hAd rfl (by decide) jyX2_init jiX2_init wm_X6_11 [5, 6] (qX2_init _ G _ (N := 6000) (by decide)) rfl ⟨⟨by decide, by decide⟩, by decide, by decide⟩ rfl rfl (by decide) rfl rfl rfl (Nat.le_of_ble_eq_true rfl) dX6_init_40 ?_
    refine jv_put (fs' := [.ref (ad 1), .ref (ad 3), .null, .null, .ref (ad 5), .null, .null, .null]) (ws' := [ob 5 [.ref (ad 1), .ref (ad 3), .null, .null, .ref (ad 5), .null, .null, .null], ob 2 [.ref (ad 2), .int 0, .int 0], _, ob 2 [.ref (ad 4), .int 0, .int 0], _, ob 2 [.ref (ad 6), .int 0, .int 0], _]) B kX6 4 (by decide) wf_X6_21 rfl rfl rfl rfl (Nat.le_of_ble_eq_true rfl) rfl rfl dX6_init_43 ?_
    refine jv_aload_n B dX6_init_46 rfl ?_
    refine jv_new (fs := [.null, .int 0, .int 0]) (ws' := [ob 5 [.ref (ad 1), .ref (ad 3), .null, .null, .ref (ad 5), .null, .null, .null], ob 2 [.ref (ad 2), .int 0, .int 0], _, ob 2 [.ref (ad 4), .int 0, .int 0], _, ob 2 [.ref (ad 6), .int 0, .int 0], _, ob 2 [.null, .int 0, .int 0]]) B hAd rfl (by decide) kX2 wcl_X6_7 wins_X2 wn_X2 (by intro j hj; rcases (show j = 0 ∨ j = 1 ∨ j = 2 by omega) with rfl | rfl | rfl <;> rfl) ⟨by decide, by decide⟩ rfl dX6_init_47 ?_
    refine jv_top (w := .ref (ad 7)) rfl ?_
    refine jv_dup B dX6_init_50 rfl ?_
    refine jv_sipush (v := 6000) B dX6_init_51 (by decide) ?_
    refine jv_callI (ws' := [ob 5 [.ref (ad 1), .ref (ad 3), .null, .null, .ref (ad 5), .null, .null, .null], ob 2 [.ref (ad 2), .int 0, .int 0], _, ob 2 [.ref (ad 4), .int 0, .int 0], _, ob 2 [.ref (ad 6), .int 0, .int 0], _, ob 2 [.ref (ad 8), .int 0, .int 0], _]) B hAd rfl (by decide) jyX2_init jiX2_init wm_X6_11 [7, 8] (qX2_init _ G _ (N := 6000) (by decide)) rfl ⟨⟨by decide, by decide⟩, by decide, by decide⟩ rfl rfl (by decide) rfl rfl rfl (Nat.le_of_ble_eq_true rfl) dX6_init_54 ?_
    refine jv_put (fs' := [.ref (ad 1), .ref (ad 3), .null, .null, .ref (ad 5), .ref (ad 7), .null, .null]) (ws' := [ob 5 [.ref (ad 1), .ref (ad 3), .null, .null, .ref (ad 5), .ref (ad 7), .null, .null], ob 2 [.ref (ad 2), .int 0, .int 0], _, ob 2 [.ref (ad 4), .int 0, .int 0], _, ob 2 [.ref (ad 6), .int 0, .int 0], _, ob 2 [.ref (ad 8), .int 0, .int 0], _]) B kX6 5 (by decide) wf_X6_24 rfl rfl rfl rfl (Nat.le_of_ble_eq_true rfl) rfl rfl dX6_init_57 ?_
    refine jv_aload_n B dX6_init_60 rfl ?_
    refine jv_new (fs := [.null, .null, .null, .null, .null, .null, .null, .int 0, .int 0, .int 0]) (ws' := [ob 5 [.ref (ad 1), .ref (ad 3), .null, .null, .ref (ad 5), .ref (ad 7), .null, .null], ob 2 [.ref (ad 2), .int 0, .int 0], _, ob 2 [.ref (ad 4), .int 0, .int 0], _, ob 2 [.ref (ad 6), .int 0, .int 0], _, ob 2 [.ref (ad 8), .int 0, .int 0], _, ob 0 [.null, .null, .null, .null, .null, .null, .null, .int 0, .int 0, .int 0]]) B hAd rfl (by decide) kX0 wcl_X6_27 wins_X0 wn_X0 (by intro j hj; rcases (show j = 0 ∨ j = 1 ∨ j = 2 ∨ j = 3 ∨ j = 4 ∨ j = 5 ∨ j = 6 ∨ j = 7 ∨ j = 8 ∨ j = 9 by omega) with rfl | rfl | rfl | rfl | rfl | rfl | rfl | rfl | rfl | rfl <;> rfl) ⟨by decide, by decide⟩ rfl dX6_init_61 ?_
    refine jv_top (w := .ref (ad 9)) rfl ?_
    refine jv_dup B dX6_init_64 rfl ?_
    refine jv_callIN (ws' := [ob 5 [.ref (ad 1), .ref (ad 3), .null, .null, .ref (ad 5), .ref (ad 7), .null, .null], ob 2 [.ref (ad 2), .int 0, .int 0], _, ob 2 [.ref (ad 4), .int 0, .int 0], _, ob 2 [.ref (ad 6), .int 0, .int 0], _, ob 2 [.ref (ad 8), .int 0, .int 0], _, ob 0 [.ref (ad 10), .ref (ad 11), .ref (ad 12), .ref (ad 13), .ref (ad 14), .ref (ad 15), .ref (ad 17), .int 0, .int 0, .int 0], _, _, _, _, _, ob 2 [.ref (ad 16), .int 0, .int 0], _, _]) B hAd rfl (by decide) jyX0_init jiX0_init wm_X6_29 [9, 10, 11, 12, 13, 14, 15, 16, 17] (qX0_init _ G _ ) rfl ⟨⟨by decide, by decide⟩, by decide, by decide⟩ rfl rfl (by decide) rfl rfl rfl (Nat.le_of_ble_eq_true rfl) dX6_init_65 ?_
    refine jv_put (fs' := [.ref (ad 1), .ref (ad 3), .null, .null, .ref (ad 5), .ref (ad 7), .ref (ad 9), .null]) (ws' := [ob 5 [.ref (ad 1), .ref (ad 3), .null, .null, .ref (ad 5), .ref (ad 7), .ref (ad 9), .null], ob 2 [.ref (ad 2), .int 0, .int 0], _, ob 2 [.ref (ad 4), .int 0, .int 0], _, ob 2 [.ref (ad 6), .int 0, .int 0], _, ob 2 [.ref (ad 8), .int 0, .int 0], _, ob 0 [.ref (ad 10), .ref (ad 11), .ref (ad 12), .ref (ad 13), .ref (ad 14), .ref (ad 15), .ref (ad 17), .int 0, .int 0, .int 0], _, _, _, _, _, ob 2 [.ref (ad 16), .int 0, .int 0], _, _]) B kX6 6 (by decide) wf_X6_30 rfl rfl rfl rfl (Nat.le_of_ble_eq_true rfl) rfl rfl dX6_init_68 ?_
    refine jv_aload_n B dX6_init_71 rfl ?_
    refine jv_new (fs := [.null, .null, .null, .null, .null, .null, .null, .int 0, .int 0, .int 0]) (ws' := [ob 5 [.ref (ad 1), .ref (ad 3), .null, .null, .ref (ad 5), .ref (ad 7), .ref (ad 9), .null], ob 2 [.ref (ad 2), .int 0, .int 0], _, ob 2 [.ref (ad 4), .int 0, .int 0], _, ob 2 [.ref (ad 6), .int 0, .int 0], _, ob 2 [.ref (ad 8), .int 0, .int 0], _, ob 0 [.ref (ad 10), .ref (ad 11), .ref (ad 12), .ref (ad 13), .ref (ad 14), .ref (ad 15), .ref (ad 17), .int 0, .int 0, .int 0], _, _, _, _, _, ob 2 [.ref (ad 16), .int 0, .int 0], _, _, ob 0 [.null, .null, .null, .null, .null, .null, .null, .int 0, .int 0, .int 0]]) B hAd rfl (by decide) kX0 wcl_X6_27 wins_X0 wn_X0 (by intro j hj; rcases (show j = 0 ∨ j = 1 ∨ j = 2 ∨ j = 3 ∨ j = 4 ∨ j = 5 ∨ j = 6 ∨ j = 7 ∨ j = 8 ∨ j = 9 by omega) with rfl | rfl | rfl | rfl | rfl | rfl | rfl | rfl | rfl | rfl <;> rfl) ⟨by decide, by decide⟩ rfl dX6_init_72 ?_
    refine jv_top (w := .ref (ad 18)) rfl ?_
    refine jv_dup B dX6_init_75 rfl ?_
    refine jv_callIN (ws' := [ob 5 [.ref (ad 1), .ref (ad 3), .null, .null, .ref (ad 5), .ref (ad 7), .ref (ad 9), .null], ob 2 [.ref (ad 2), .int 0, .int 0], _, ob 2 [.ref (ad 4), .int 0, .int 0], _, ob 2 [.ref (ad 6), .int 0, .int 0], _, ob 2 [.ref (ad 8), .int 0, .int 0], _, ob 0 [.ref (ad 10), .ref (ad 11), .ref (ad 12), .ref (ad 13), .ref (ad 14), .ref (ad 15), .ref (ad 17), .int 0, .int 0, .int 0], _, _, _, _, _, ob 2 [.ref (ad 16), .int 0, .int 0], _, _, ob 0 [.ref (ad 19), .ref (ad 20), .ref (ad 21), .ref (ad 22), .ref (ad 23), .ref (ad 24), .ref (ad 26), .int 0, .int 0, .int 0], _, _, _, _, _, ob 2 [.ref (ad 25), .int 0, .int 0], _, _]) B hAd rfl (by decide) jyX0_init jiX0_init wm_X6_29 [18, 19, 20, 21, 22, 23, 24, 25, 26] (qX0_init _ G _ ) rfl ⟨⟨by decide, by decide⟩, by decide, by decide⟩ rfl rfl (by decide) rfl rfl rfl (Nat.le_of_ble_eq_true rfl) dX6_init_76 ?_
    refine jv_put (fs' := [.ref (ad 1), .ref (ad 3), .null, .null, .ref (ad 5), .ref (ad 7), .ref (ad 9), .ref (ad 18)]) (ws' := [ob 5 [.ref (ad 1), .ref (ad 3), .null, .null, .ref (ad 5), .ref (ad 7), .ref (ad 9), .ref (ad 18)], ob 2 [.ref (ad 2), .int 0, .int 0], _, ob 2 [.ref (ad 4), .int 0, .int 0], _, ob 2 [.ref (ad 6), .int 0, .int 0], _, ob 2 [.ref (ad 8), .int 0, .int 0], _, ob 0 [.ref (ad 10), .ref (ad 11), .ref (ad 12), .ref (ad 13), .ref (ad 14), .ref (ad 15), .ref (ad 17), .int 0, .int 0, .int 0], _, _, _, _, _, ob 2 [.ref (ad 16), .int 0, .int 0], _, _, ob 0 [.ref (ad 19), .ref (ad 20), .ref (ad 21), .ref (ad 22), .ref (ad 23), .ref (ad 24), .ref (ad 26), .int 0, .int 0, .int 0], _, _, _, _, _, ob 2 [.ref (ad 25), .int 0, .int 0], _, _]) B kX6 7 (by decide) wf_X6_34 rfl rfl rfl rfl (Nat.le_of_ble_eq_true rfl) rfl rfl dX6_init_79 ?_
    refine jv_new (fs := [.null, .null, .null, .int 0]) (ws' := [ob 5 [.ref (ad 1), .ref (ad 3), .null, .null, .ref (ad 5), .ref (ad 7), .ref (ad 9), .ref (ad 18)], ob 2 [.ref (ad 2), .int 0, .int 0], _, ob 2 [.ref (ad 4), .int 0, .int 0], _, ob 2 [.ref (ad 6), .int 0, .int 0], _, ob 2 [.ref (ad 8), .int 0, .int 0], _, ob 0 [.ref (ad 10), .ref (ad 11), .ref (ad 12), .ref (ad 13), .ref (ad 14), .ref (ad 15), .ref (ad 17), .int 0, .int 0, .int 0], _, _, _, _, _, ob 2 [.ref (ad 16), .int 0, .int 0], _, _, ob 0 [.ref (ad 19), .ref (ad 20), .ref (ad 21), .ref (ad 22), .ref (ad 23), .ref (ad 24), .ref (ad 26), .int 0, .int 0, .int 0], _, _, _, _, _, ob 2 [.ref (ad 25), .int 0, .int 0], _, _, ob 3 [.null, .null, .null, .int 0]]) B hAd rfl (by decide) kX3 wcl_X6_37 wins_X3 wn_X3 (by intro j hj; rcases (show j = 0 ∨ j = 1 ∨ j = 2 ∨ j = 3 by omega) with rfl | rfl | rfl | rfl <;> rfl) ⟨by decide, by decide⟩ rfl dX6_init_82 ?_
    refine jv_top (w := .ref (ad 27)) rfl ?_
    refine jv_dup B dX6_init_85 rfl ?_
    refine jv_callIN (ws' := [ob 5 [.ref (ad 1), .ref (ad 3), .null, .null, .ref (ad 5), .ref (ad 7), .ref (ad 9), .ref (ad 18)], ob 2 [.ref (ad 2), .int 0, .int 0], _, ob 2 [.ref (ad 4), .int 0, .int 0], _, ob 2 [.ref (ad 6), .int 0, .int 0], _, ob 2 [.ref (ad 8), .int 0, .int 0], _, ob 0 [.ref (ad 10), .ref (ad 11), .ref (ad 12), .ref (ad 13), .ref (ad 14), .ref (ad 15), .ref (ad 17), .int 0, .int 0, .int 0], _, _, _, _, _, ob 2 [.ref (ad 16), .int 0, .int 0], _, _, ob 0 [.ref (ad 19), .ref (ad 20), .ref (ad 21), .ref (ad 22), .ref (ad 23), .ref (ad 24), .ref (ad 26), .int 0, .int 0, .int 0], _, _, _, _, _, ob 2 [.ref (ad 25), .int 0, .int 0], _, _, ob 3 [.ref (ad 28), .ref (ad 29), .ref (ad 30), .int 0], _, _, _]) B hAd rfl (by decide) jyX3_init jiX3_init wm_X6_39 [27, 28, 29, 30] (qX3_init _ G _ ) rfl ⟨⟨by decide, by decide⟩, by decide, by decide⟩ rfl rfl (by decide) rfl rfl rfl (Nat.le_of_ble_eq_true rfl) dX6_init_86 ?_
    refine jv_astore_n (lv' := [(0, .ref (ad 0)), (1, .ref (ad 27))]) B dX6_init_89 (by decide) (lvi_cons rfl (lvi_cons rfl lvi_nil)) ?_
    refine jv_new (fs := [.null, .null, .null, .int 0]) (ws' := [ob 5 [.ref (ad 1), .ref (ad 3), .null, .null, .ref (ad 5), .ref (ad 7), .ref (ad 9), .ref (ad 18)], ob 2 [.ref (ad 2), .int 0, .int 0], _, ob 2 [.ref (ad 4), .int 0, .int 0], _, ob 2 [.ref (ad 6), .int 0, .int 0], _, ob 2 [.ref (ad 8), .int 0, .int 0], _, ob 0 [.ref (ad 10), .ref (ad 11), .ref (ad 12), .ref (ad 13), .ref (ad 14), .ref (ad 15), .ref (ad 17), .int 0, .int 0, .int 0], _, _, _, _, _, ob 2 [.ref (ad 16), .int 0, .int 0], _, _, ob 0 [.ref (ad 19), .ref (ad 20), .ref (ad 21), .ref (ad 22), .ref (ad 23), .ref (ad 24), .ref (ad 26), .int 0, .int 0, .int 0], _, _, _, _, _, ob 2 [.ref (ad 25), .int 0, .int 0], _, _, ob 3 [.ref (ad 28), .ref (ad 29), .ref (ad 30), .int 0], _, _, _, ob 3 [.null, .null, .null, .int 0]]) B hAd rfl (by decide) kX3 wcl_X6_37 wins_X3 wn_X3 (by intro j hj; rcases (show j = 0 ∨ j = 1 ∨ j = 2 ∨ j = 3 by omega) with rfl | rfl | rfl | rfl <;> rfl) ⟨by decide, by decide⟩ rfl dX6_init_90 ?_
    refine jv_top (w := .ref (ad 31)) rfl ?_
    refine jv_dup B dX6_init_93 rfl ?_
    refine jv_callIN (ws' := [ob 5 [.ref (ad 1), .ref (ad 3), .null, .null, .ref (ad 5), .ref (ad 7), .ref (ad 9), .ref (ad 18)], ob 2 [.ref (ad 2), .int 0, .int 0], _, ob 2 [.ref (ad 4), .int 0, .int 0], _, ob 2 [.ref (ad 6), .int 0, .int 0], _, ob 2 [.ref (ad 8), .int 0, .int 0], _, ob 0 [.ref (ad 10), .ref (ad 11), .ref (ad 12), .ref (ad 13), .ref (ad 14), .ref (ad 15), .ref (ad 17), .int 0, .int 0, .int 0], _, _, _, _, _, ob 2 [.ref (ad 16), .int 0, .int 0], _, _, ob 0 [.ref (ad 19), .ref (ad 20), .ref (ad 21), .ref (ad 22), .ref (ad 23), .ref (ad 24), .ref (ad 26), .int 0, .int 0, .int 0], _, _, _, _, _, ob 2 [.ref (ad 25), .int 0, .int 0], _, _, ob 3 [.ref (ad 28), .ref (ad 29), .ref (ad 30), .int 0], _, _, _, ob 3 [.ref (ad 32), .ref (ad 33), .ref (ad 34), .int 0], _, _, _]) B hAd rfl (by decide) jyX3_init jiX3_init wm_X6_39 [31, 32, 33, 34] (qX3_init _ G _ ) rfl ⟨⟨by decide, by decide⟩, by decide, by decide⟩ rfl rfl (by decide) rfl rfl rfl (Nat.le_of_ble_eq_true rfl) dX6_init_94 ?_
    refine jv_astore_n (lv' := [(0, .ref (ad 0)), (1, .ref (ad 27)), (2, .ref (ad 31))]) B dX6_init_97 (by decide) (lvi_cons rfl (lvi_cons rfl (lvi_cons rfl lvi_nil))) ?_
    refine jv_aload_n B dX6_init_98 rfl ?_
    refine jv_new (fs := [.null, .null, .null, .null, .null, .int 0]) (ws' := [ob 5 [.ref (ad 1), .ref (ad 3), .null, .null, .ref (ad 5), .ref (ad 7), .ref (ad 9), .ref (ad 18)], ob 2 [.ref (ad 2), .int 0, .int 0], _, ob 2 [.ref (ad 4), .int 0, .int 0], _, ob 2 [.ref (ad 6), .int 0, .int 0], _, ob 2 [.ref (ad 8), .int 0, .int 0], _, ob 0 [.ref (ad 10), .ref (ad 11), .ref (ad 12), .ref (ad 13), .ref (ad 14), .ref (ad 15), .ref (ad 17), .int 0, .int 0, .int 0], _, _, _, _, _, ob 2 [.ref (ad 16), .int 0, .int 0], _, _, ob 0 [.ref (ad 19), .ref (ad 20), .ref (ad 21), .ref (ad 22), .ref (ad 23), .ref (ad 24), .ref (ad 26), .int 0, .int 0, .int 0], _, _, _, _, _, ob 2 [.ref (ad 25), .int 0, .int 0], _, _, ob 3 [.ref (ad 28), .ref (ad 29), .ref (ad 30), .int 0], _, _, _, ob 3 [.ref (ad 32), .ref (ad 33), .ref (ad 34), .int 0], _, _, _, ob 4 [.null, .null, .null, .null, .null, .int 0]]) B hAd rfl (by decide) kX5 wcl_X6_40 wins_X5 wn_X5 (by intro j hj; rcases (show j = 0 ∨ j = 1 ∨ j = 2 ∨ j = 3 ∨ j = 4 ∨ j = 5 by omega) with rfl | rfl | rfl | rfl | rfl | rfl <;> rfl) ⟨by decide, by decide⟩ rfl dX6_init_99 ?_
    refine jv_top (w := .ref (ad 35)) rfl ?_
    refine jv_dup B dX6_init_102 rfl ?_
    refine jv_aload_n B dX6_init_103 rfl ?_
    refine jv_aload_n B dX6_init_104 rfl ?_
    refine jv_callI (ws' := [ob 5 [.ref (ad 1), .ref (ad 3), .null, .null, .ref (ad 5), .ref (ad 7), .ref (ad 9), .ref (ad 18)], ob 2 [.ref (ad 2), .int 0, .int 0], _, ob 2 [.ref (ad 4), .int 0, .int 0], _, ob 2 [.ref (ad 6), .int 0, .int 0], _, ob 2 [.ref (ad 8), .int 0, .int 0], _, ob 0 [.ref (ad 10), .ref (ad 11), .ref (ad 12), .ref (ad 13), .ref (ad 14), .ref (ad 15), .ref (ad 17), .int 0, .int 0, .int 0], _, _, _, _, _, ob 2 [.ref (ad 16), .int 0, .int 0], _, _, ob 0 [.ref (ad 19), .ref (ad 20), .ref (ad 21), .ref (ad 22), .ref (ad 23), .ref (ad 24), .ref (ad 26), .int 0, .int 0, .int 0], _, _, _, _, _, ob 2 [.ref (ad 25), .int 0, .int 0], _, _, ob 3 [.ref (ad 28), .ref (ad 29), .ref (ad 30), .int 0], _, _, _, ob 3 [.ref (ad 32), .ref (ad 33), .ref (ad 34), .int 0], _, _, _, ob 4 [.ref (ad 27), .ref (ad 31), .ref (ad 36), .null, .null, .int 0], _]) B hAd rfl (by decide) jyX5_init jiX5_init wm_X6_42 [35, 36] (qX5_init _ G _ ) rfl ⟨⟨by decide, by decide⟩, by decide, by decide⟩ rfl rfl (by decide) rfl rfl rfl (Nat.le_of_ble_eq_true rfl) dX6_init_105 ?_
    refine jv_putF (fs' := [.ref (ad 1), .ref (ad 3), .ref (ad 35), .null, .ref (ad 5), .ref (ad 7), .ref (ad 9), .ref (ad 18)]) (ws' := [ob 5 [.ref (ad 1), .ref (ad 3), .ref (ad 35), .null, .ref (ad 5), .ref (ad 7), .ref (ad 9), .ref (ad 18)], ob 2 [.ref (ad 2), .int 0, .int 0], _, ob 2 [.ref (ad 4), .int 0, .int 0], _, ob 2 [.ref (ad 6), .int 0, .int 0], _, ob 2 [.ref (ad 8), .int 0, .int 0], _, ob 0 [.ref (ad 10), .ref (ad 11), .ref (ad 12), .ref (ad 13), .ref (ad 14), .ref (ad 15), .ref (ad 17), .int 0, .int 0, .int 0], _, _, _, _, _, ob 2 [.ref (ad 16), .int 0, .int 0], _, _, ob 0 [.ref (ad 19), .ref (ad 20), .ref (ad 21), .ref (ad 22), .ref (ad 23), .ref (ad 24), .ref (ad 26), .int 0, .int 0, .int 0], _, _, _, _, _, ob 2 [.ref (ad 25), .int 0, .int 0], _, _, ob 3 [.ref (ad 28), .ref (ad 29), .ref (ad 30), .int 0], _, _, _, ob 3 [.ref (ad 32), .ref (ad 33), .ref (ad 34), .int 0], _, _, _, ob 4 [.ref (ad 27), .ref (ad 31), .ref (ad 36), .null, .null, .int 0], _]) B (hn.trans rfl) kX6 2 (by decide) wf_X6_45 rfl rfl rfl rfl rfl (Nat.le_of_ble_eq_true rfl) rfl rfl dX6_init_108 ?_
    refine jv_aload_n B dX6_init_111 rfl ?_
    refine jv_new (fs := [.null, .null, .null, .null, .int 0, .int 0, .int 0, .int 0, .int 0, .int 0, .long 0, .int 0, .int 0, .int 0, .int 0, .int 0]) (ws' := [ob 5 [.ref (ad 1), .ref (ad 3), .ref (ad 35), .null, .ref (ad 5), .ref (ad 7), .ref (ad 9), .ref (ad 18)], ob 2 [.ref (ad 2), .int 0, .int 0], _, ob 2 [.ref (ad 4), .int 0, .int 0], _, ob 2 [.ref (ad 6), .int 0, .int 0], _, ob 2 [.ref (ad 8), .int 0, .int 0], _, ob 0 [.ref (ad 10), .ref (ad 11), .ref (ad 12), .ref (ad 13), .ref (ad 14), .ref (ad 15), .ref (ad 17), .int 0, .int 0, .int 0], _, _, _, _, _, ob 2 [.ref (ad 16), .int 0, .int 0], _, _, ob 0 [.ref (ad 19), .ref (ad 20), .ref (ad 21), .ref (ad 22), .ref (ad 23), .ref (ad 24), .ref (ad 26), .int 0, .int 0, .int 0], _, _, _, _, _, ob 2 [.ref (ad 25), .int 0, .int 0], _, _, ob 3 [.ref (ad 28), .ref (ad 29), .ref (ad 30), .int 0], _, _, _, ob 3 [.ref (ad 32), .ref (ad 33), .ref (ad 34), .int 0], _, _, _, ob 4 [.ref (ad 27), .ref (ad 31), .ref (ad 36), .null, .null, .int 0], _, ob 1 [.null, .null, .null, .null, .int 0, .int 0, .int 0, .int 0, .int 0, .int 0, .long 0, .int 0, .int 0, .int 0, .int 0, .int 0]]) B hAd rfl (by decide) kX1 wcl_X6_49 wins_X1 wn_X1 (by intro j hj; rcases (show j = 0 ∨ j = 1 ∨ j = 2 ∨ j = 3 ∨ j = 4 ∨ j = 5 ∨ j = 6 ∨ j = 7 ∨ j = 8 ∨ j = 9 ∨ j = 10 ∨ j = 11 ∨ j = 12 ∨ j = 13 ∨ j = 14 ∨ j = 15 by omega) with rfl | rfl | rfl | rfl | rfl | rfl | rfl | rfl | rfl | rfl | rfl | rfl | rfl | rfl | rfl | rfl <;> rfl) ⟨by decide, by decide⟩ rfl dX6_init_112 ?_
    refine jv_top (w := .ref (ad 37)) rfl ?_
    refine jv_dup B dX6_init_115 rfl ?_
    refine jv_aload_n B dX6_init_116 rfl ?_
    refine jv_aload_n B dX6_init_117 rfl ?_
    refine jv_callI (ws' := [ob 5 [.ref (ad 1), .ref (ad 3), .ref (ad 35), .null, .ref (ad 5), .ref (ad 7), .ref (ad 9), .ref (ad 18)], ob 2 [.ref (ad 2), .int 0, .int 0], _, ob 2 [.ref (ad 4), .int 0, .int 0], _, ob 2 [.ref (ad 6), .int 0, .int 0], _, ob 2 [.ref (ad 8), .int 0, .int 0], _, ob 0 [.ref (ad 10), .ref (ad 11), .ref (ad 12), .ref (ad 13), .ref (ad 14), .ref (ad 15), .ref (ad 17), .int 0, .int 0, .int 0], _, _, _, _, _, ob 2 [.ref (ad 16), .int 0, .int 0], _, _, ob 0 [.ref (ad 19), .ref (ad 20), .ref (ad 21), .ref (ad 22), .ref (ad 23), .ref (ad 24), .ref (ad 26), .int 0, .int 0, .int 0], _, _, _, _, _, ob 2 [.ref (ad 25), .int 0, .int 0], _, _, ob 3 [.ref (ad 28), .ref (ad 29), .ref (ad 30), .int 0], _, _, _, ob 3 [.ref (ad 32), .ref (ad 33), .ref (ad 34), .int 0], _, _, _, ob 4 [.ref (ad 27), .ref (ad 31), .ref (ad 36), .null, .null, .int 0], _, ob 1 [.ref (ad 27), .ref (ad 31), .null, .null, .int 0, .int 0, .int 0, .int (-1), .int 0, .int 0, .long 0, .int 0, .int 0, .int 0, .int 0, .int 0]]) B hAd rfl (by decide) jyX1_init jiX1_init wm_X6_51 [37] (qX1_init _ G _ ) rfl ⟨⟨by decide, by decide⟩, by decide, by decide⟩ rfl rfl (by decide) rfl rfl rfl (Nat.le_of_ble_eq_true rfl) dX6_init_118 ?_
    refine jv_putF (fs' := [.ref (ad 1), .ref (ad 3), .ref (ad 35), .ref (ad 37), .ref (ad 5), .ref (ad 7), .ref (ad 9), .ref (ad 18)]) (ws' := [ob 5 [.ref (ad 1), .ref (ad 3), .ref (ad 35), .ref (ad 37), .ref (ad 5), .ref (ad 7), .ref (ad 9), .ref (ad 18)], ob 2 [.ref (ad 2), .int 0, .int 0], _, ob 2 [.ref (ad 4), .int 0, .int 0], _, ob 2 [.ref (ad 6), .int 0, .int 0], _, ob 2 [.ref (ad 8), .int 0, .int 0], _, ob 0 [.ref (ad 10), .ref (ad 11), .ref (ad 12), .ref (ad 13), .ref (ad 14), .ref (ad 15), .ref (ad 17), .int 0, .int 0, .int 0], _, _, _, _, _, ob 2 [.ref (ad 16), .int 0, .int 0], _, _, ob 0 [.ref (ad 19), .ref (ad 20), .ref (ad 21), .ref (ad 22), .ref (ad 23), .ref (ad 24), .ref (ad 26), .int 0, .int 0, .int 0], _, _, _, _, _, ob 2 [.ref (ad 25), .int 0, .int 0], _, _, ob 3 [.ref (ad 28), .ref (ad 29), .ref (ad 30), .int 0], _, _, _, ob 3 [.ref (ad 32), .ref (ad 33), .ref (ad 34), .int 0], _, _, _, ob 4 [.ref (ad 27), .ref (ad 31), .ref (ad 36), .null, .null, .int 0], _, ob 1 [.ref (ad 27), .ref (ad 31), .null, .null, .int 0, .int 0, .int 0, .int (-1), .int 0, .int 0, .long 0, .int 0, .int 0, .int 0, .int 0, .int 0]]) B (hn.trans rfl) kX6 3 (by decide) wf_X6_52 rfl rfl rfl rfl rfl (Nat.le_of_ble_eq_true rfl) rfl rfl dX6_init_121 ?_
    exact jv_vret B E ⟨rfl, rfl⟩ ⟨by decide, by decide⟩ dX6_init_124)
set_option maxRecDepth 100000 in
set_option maxHeartbeats 8000000 in
theorem qX7_init (l : Launch) (G : jG) (ad : Nat → Nat)   : CT l G yX7_init cX7_init 1 none { frames := 1, cells := 18, slots := 52207, locals := 20 } ad [.ref (ad 0)] [ob 6 [.null, .int 0, .null, .int 0, .null, .int 0, .null, .int 0, .null, .null, .null, .null, .null, .null, .null, .null, .null, .null, .null, .null, .null, .int 0, .int 0, .int 0, .int 0, .int 0, .null, .int 0]] 18 (pd ad none [ob 6 [.ref (ad 1), .int 0, .ref (ad 2), .int 0, .ref (ad 3), .int 0, .ref (ad 4), .int 0, .ref (ad 5), .ref (ad 6), .ref (ad 7), .ref (ad 8), .ref (ad 9), .ref (ad 10), .ref (ad 11), .ref (ad 12), .ref (ad 13), .ref (ad 14), .ref (ad 15), .ref (ad 16), .ref (ad 17), .int 0, .int 0, .int 0, .int (-1), .int 0, .ref (ad 18), .int 0], aB G 1000 (fun _ => 0), aB G 6000 (fun _ => 0), aB G 6000 (fun _ => 0), aB G 6000 (fun _ => 0), aI G 3000 (fun _ => 0), aL G 3000 (fun _ => 0), aI G 3000 (fun _ => 0), aI G 3000 (fun _ => 0), aI G 3000 (fun _ => 0), aB G 16000 (fun _ => 0), aI G 2 (fun _ => 0), aI G 2 (fun _ => 0), aZ G 60 (fun _ => 0), aZ G 60 (fun _ => 0), aI G 2 (fun _ => 0), aI G 2048 (fun _ => 0), aI G 2 (fun _ => 0), aZ G 31 (fun _ => 0)]) :=
  CT.of jyX7_init (Nat.le_of_ble_eq_true rfl) (fun X B E hn hAd => by
    refine jv_aload_n B dX7_init_0 rfl ?_
    refine jv_objInit B wm_X7_1 wobj_i wobj_c ⟨Nat.le_of_ble_eq_true rfl, Nat.le_of_ble_eq_true rfl⟩ dX7_init_1 ?_
    refine jv_aload_n B dX7_init_4 rfl ?_
    refine jv_sipush (v := 1000) B dX7_init_5 (by decide) ?_
    refine jv_newa (N := 1000) (a0 := (1000, .inl (fun _ => 0))) (cA := G.2.2.1) (ws' := [ob 6 [.null, .int 0, .null, .int 0, .null, .int 0, .null, .int 0, .null, .null, .null, .null, .null, .null, .null, .null, .null, .null, .null, .null, .null, .int 0, .int 0, .int 0, .int 0, .int 0, .null, .int 0], _]) B hAd rfl (by decide) (ty := .byte) rfl war_byte 1 rfl (fun _ h => h) (fun _ => rfl) (by decide) (by decide) ⟨by decide, by decide⟩ rfl dX7_init_8 ?_
    refine jv_top (w := .ref (ad 1)) rfl ?_
    refine jv_putF (fs' := [.ref (ad 1), .int 0, .null, .int 0, .null, .int 0, .null, .int 0, .null, .null, .null, .null, .null, .null, .null, .null, .null, .null, .null, .null, .null, .int 0, .int 0, .int 0, .int 0, .int 0, .null, .int 0]) (ws' := [ob 6 [.ref (ad 1), .int 0, .null, .int 0, .null, .int 0, .null, .int 0, .null, .null, .null, .null, .null, .null, .null, .null, .null, .null, .null, .null, .null, .int 0, .int 0, .int 0, .int 0, .int 0, .null, .int 0], _]) B (hn.trans rfl) kX7 0 (by decide) wf_X7_7 rfl rfl rfl rfl rfl (Nat.le_of_ble_eq_true rfl) rfl rfl dX7_init_10 ?_
    refine jv_aload_n B dX7_init_13 rfl ?_
    refine jv_sipush (v := 6000) B dX7_init_14 (by decide) ?_
    refine jv_newa (N := 6000) (a0 := (6000, .inl (fun _ => 0))) (cA := G.2.2.1) (ws' := [ob 6 [.ref (ad 1), .int 0, .null, .int 0, .null, .int 0, .null, .int 0, .null, .null, .null, .null, .null, .null, .null, .null, .null, .null, .null, .null, .null, .int 0, .int 0, .int 0, .int 0, .int 0, .null, .int 0], _, _]) B hAd rfl (by decide) (ty := .byte) rfl war_byte 1 rfl (fun _ h => h) (fun _ => rfl) (by decide) (by decide) ⟨by decide, by decide⟩ rfl dX7_init_17 ?_
    refine jv_top (w := .ref (ad 2)) rfl ?_
    refine jv_putF (fs' := [.ref (ad 1), .int 0, .ref (ad 2), .int 0, .null, .int 0, .null, .int 0, .null, .null, .null, .null, .null, .null, .null, .null, .null, .null, .null, .null, .null, .int 0, .int 0, .int 0, .int 0, .int 0, .null, .int 0]) (ws' := [ob 6 [.ref (ad 1), .int 0, .ref (ad 2), .int 0, .null, .int 0, .null, .int 0, .null, .null, .null, .null, .null, .null, .null, .null, .null, .null, .null, .null, .null, .int 0, .int 0, .int 0, .int 0, .int 0, .null, .int 0], _, _]) B (hn.trans rfl) kX7 2 (by decide) wf_X7_13 rfl rfl rfl rfl rfl (Nat.le_of_ble_eq_true rfl) rfl rfl dX7_init_19 ?_
    refine jv_aload_n B dX7_init_22 rfl ?_
    refine jv_sipush (v := 6000) B dX7_init_23 (by decide) ?_
    refine jv_newa (N := 6000) (a0 := (6000, .inl (fun _ => 0))) (cA := G.2.2.1) (ws' := [ob 6 [.ref (ad 1), .int 0, .ref (ad 2), .int 0, .null, .int 0, .null, .int 0, .null, .null, .null, .null, .null, .null, .null, .null, .null, .null, .null, .null, .null, .int 0, .int 0, .int 0, .int 0, .int 0, .null, .int 0], _, _, _]) B hAd rfl (by decide) (ty := .byte) rfl war_byte 1 rfl (fun _ h => h) (fun _ => rfl) (by decide) (by decide) ⟨by decide, by decide⟩ rfl dX7_init_26 ?_
    refine jv_top (w := .ref (ad 3)) rfl ?_
    refine jv_putF (fs' := [.ref (ad 1), .int 0, .ref (ad 2), .int 0, .ref (ad 3), .int 0, .null, .int 0, .null, .null, .null, .null, .null, .null, .null, .null, .null, .null, .null, .null, .null, .int 0, .int 0, .int 0, .int 0, .int 0, .null, .int 0]) (ws' := [ob 6 [.ref (ad 1), .int 0, .ref (ad 2), .int 0, .ref (ad 3), .int 0, .null, .int 0, .null, .null, .null, .null, .null, .null, .null, .null, .null, .null, .null, .null, .null, .int 0, .int 0, .int 0, .int 0, .int 0, .null, .int 0], _, _, _]) B (hn.trans rfl) kX7 4 (by decide) wf_X7_16 rfl rfl rfl rfl rfl (Nat.le_of_ble_eq_true rfl) rfl rfl dX7_init_28 ?_
    refine jv_aload_n B dX7_init_31 rfl ?_
    refine jv_sipush (v := 6000) B dX7_init_32 (by decide) ?_
    refine jv_newa (N := 6000) (a0 := (6000, .inl (fun _ => 0))) (cA := G.2.2.1) (ws' := [ob 6 [.ref (ad 1), .int 0, .ref (ad 2), .int 0, .ref (ad 3), .int 0, .null, .int 0, .null, .null, .null, .null, .null, .null, .null, .null, .null, .null, .null, .null, .null, .int 0, .int 0, .int 0, .int 0, .int 0, .null, .int 0], _, _, _, _]) B hAd rfl (by decide) (ty := .byte) rfl war_byte 1 rfl (fun _ h => h) (fun _ => rfl) (by decide) (by decide) ⟨by decide, by decide⟩ rfl dX7_init_35 ?_
    refine jv_top (w := .ref (ad 4)) rfl ?_
    refine jv_putF (fs' := [.ref (ad 1), .int 0, .ref (ad 2), .int 0, .ref (ad 3), .int 0, .ref (ad 4), .int 0, .null, .null, .null, .null, .null, .null, .null, .null, .null, .null, .null, .null, .null, .int 0, .int 0, .int 0, .int 0, .int 0, .null, .int 0]) (ws' := [ob 6 [.ref (ad 1), .int 0, .ref (ad 2), .int 0, .ref (ad 3), .int 0, .ref (ad 4), .int 0, .null, .null, .null, .null, .null, .null, .null, .null, .null, .null, .null, .null, .null, .int 0, .int 0, .int 0, .int 0, .int 0, .null, .int 0], _, _, _, _]) B (hn.trans rfl) kX7 6 (by decide) wf_X7_19 rfl rfl rfl rfl rfl (Nat.le_of_ble_eq_true rfl) rfl rfl dX7_init_37 ?_
    refine jv_aload_n B dX7_init_40 rfl ?_
    refine jv_sipush (v := 3000) B dX7_init_41 (by decide) ?_
    refine jv_newa (N := 3000) (a0 := (3000, .inl (fun _ => 0))) (cA := G.2.1) (ws' := [ob 6 [.ref (ad 1), .int 0, .ref (ad 2), .int 0, .ref (ad 3), .int 0, .ref (ad 4), .int 0, .null, .null, .null, .null, .null, .null, .null, .null, .null, .null, .null, .null, .null, .int 0, .int 0, .int 0, .int 0, .int 0, .null, .int 0], _, _, _, _, _]) B hAd rfl (by decide) (ty := .int) rfl war_int 0 rfl (fun _ h => h) (fun _ => rfl) (by decide) (by decide) ⟨by decide, by decide⟩ rfl dX7_init_44 ?_
    refine jv_top (w := .ref (ad 5)) rfl ?_
    refine jv_putF (fs' := [.ref (ad 1), .int 0, .ref (ad 2), .int 0, .ref (ad 3), .int 0, .ref (ad 4), .int 0, .ref (ad 5), .null, .null, .null, .null, .null, .null, .null, .null, .null, .null, .null, .null, .int 0, .int 0, .int 0, .int 0, .int 0, .null, .int 0]) (ws' := [ob 6 [.ref (ad 1), .int 0, .ref (ad 2), .int 0, .ref (ad 3), .int 0, .ref (ad 4), .int 0, .ref (ad 5), .null, .null, .null, .null, .null, .null, .null, .null, .null, .null, .null, .null, .int 0, .int 0, .int 0, .int 0, .int 0, .null, .int 0], _, _, _, _, _]) B (hn.trans rfl) kX7 8 (by decide) wf_X7_22 rfl rfl rfl rfl rfl (Nat.le_of_ble_eq_true rfl) rfl rfl dX7_init_46 ?_
    refine jv_aload_n B dX7_init_49 rfl ?_
    refine jv_sipush (v := 3000) B dX7_init_50 (by decide) ?_
    refine jv_newa (N := 3000) (a0 := (3000, .inr (.inl (fun _ => 0)))) (cA := G.2.2.2.1) (ws' := [ob 6 [.ref (ad 1), .int 0, .ref (ad 2), .int 0, .ref (ad 3), .int 0, .ref (ad 4), .int 0, .ref (ad 5), .null, .null, .null, .null, .null, .null, .null, .null, .null, .null, .null, .null, .int 0, .int 0, .int 0, .int 0, .int 0, .null, .int 0], _, _, _, _, _, _]) B hAd rfl (by decide) (ty := .long) rfl war_long 2 rfl (fun _ h => h) (fun _ => rfl) (by decide) (by decide) ⟨by decide, by decide⟩ rfl dX7_init_53 ?_
    refine jv_top (w := .ref (ad 6)) rfl ?_
    refine jv_putF (fs' := [.ref (ad 1), .int 0, .ref (ad 2), .int 0, .ref (ad 3), .int 0, .ref (ad 4), .int 0, .ref (ad 5), .ref (ad 6), .null, .null, .null, .null, .null, .null, .null, .null, .null, .null, .null, .int 0, .int 0, .int 0, .int 0, .int 0, .null, .int 0]) (ws' := [ob 6 [.ref (ad 1), .int 0, .ref (ad 2), .int 0, .ref (ad 3), .int 0, .ref (ad 4), .int 0, .ref (ad 5), .ref (ad 6), .null, .null, .null, .null, .null, .null, .null, .null, .null, .null, .null, .int 0, .int 0, .int 0, .int 0, .int 0, .null, .int 0], _, _, _, _, _, _]) B (hn.trans rfl) kX7 9 (by decide) wf_X7_26 rfl rfl rfl rfl rfl (Nat.le_of_ble_eq_true rfl) rfl rfl dX7_init_55 ?_
    refine jv_aload_n B dX7_init_58 rfl ?_
    refine jv_sipush (v := 3000) B dX7_init_59 (by decide) ?_
    refine jv_newa (N := 3000) (a0 := (3000, .inl (fun _ => 0))) (cA := G.2.1) (ws' := [ob 6 [.ref (ad 1), .int 0, .ref (ad 2), .int 0, .ref (ad 3), .int 0, .ref (ad 4), .int 0, .ref (ad 5), .ref (ad 6), .null, .null, .null, .null, .null, .null, .null, .null, .null, .null, .null, .int 0, .int 0, .int 0, .int 0, .int 0, .null, .int 0], _, _, _, _, _, _, _]) B hAd rfl (by decide) (ty := .int) rfl war_int 0 rfl (fun _ h => h) (fun _ => rfl) (by decide) (by decide) ⟨by decide, by decide⟩ rfl dX7_init_62 ?_
    refine jv_top (w := .ref (ad 7)) rfl ?_
    refine jv_putF (fs' := [.ref (ad 1), .int 0, .ref (ad 2), .int 0, .ref (ad 3), .int 0, .ref (ad 4), .int 0, .ref (ad 5), .ref (ad 6), .ref (ad 7), .null, .null, .null, .null, .null, .null, .null, .null, .null, .null, .int 0, .int 0, .int 0, .int 0, .int 0, .null, .int 0]) (ws' := [ob 6 [.ref (ad 1), .int 0, .ref (ad 2), .int 0, .ref (ad 3), .int 0, .ref (ad 4), .int 0, .ref (ad 5), .ref (ad 6), .ref (ad 7), .null, .null, .null, .null, .null, .null, .null, .null, .null, .null, .int 0, .int 0, .int 0, .int 0, .int 0, .null, .int 0], _, _, _, _, _, _, _]) B (hn.trans rfl) kX7 10 (by decide) wf_X7_30 rfl rfl rfl rfl rfl (Nat.le_of_ble_eq_true rfl) rfl rfl dX7_init_64 ?_
    refine jv_aload_n B dX7_init_67 rfl ?_
    refine jv_sipush (v := 3000) B dX7_init_68 (by decide) ?_
    refine jv_newa (N := 3000) (a0 := (3000, .inl (fun _ => 0))) (cA := G.2.1) (ws' := [ob 6 [.ref (ad 1), .int 0, .ref (ad 2), .int 0, .ref (ad 3), .int 0, .ref (ad 4), .int 0, .ref (ad 5), .ref (ad 6), .ref (ad 7), .null, .null, .null, .null, .null, .null, .null, .null, .null, .null, .int 0, .int 0, .int 0, .int 0, .int 0, .null, .int 0], _, _, _, _, _, _, _, _]) B hAd rfl (by decide) (ty := .int) rfl war_int 0 rfl (fun _ h => h) (fun _ => rfl) (by decide) (by decide) ⟨by decide, by decide⟩ rfl dX7_init_71 ?_
    refine jv_top (w := .ref (ad 8)) rfl ?_
    refine jv_putF (fs' := [.ref (ad 1), .int 0, .ref (ad 2), .int 0, .ref (ad 3), .int 0, .ref (ad 4), .int 0, .ref (ad 5), .ref (ad 6), .ref (ad 7), .ref (ad 8), .null, .null, .null, .null, .null, .null, .null, .null, .null, .int 0, .int 0, .int 0, .int 0, .int 0, .null, .int 0]) (ws' := [ob 6 [.ref (ad 1), .int 0, .ref (ad 2), .int 0, .ref (ad 3), .int 0, .ref (ad 4), .int 0, .ref (ad 5), .ref (ad 6), .ref (ad 7), .ref (ad 8), .null, .null, .null, .null, .null, .null, .null, .null, .null, .int 0, .int 0, .int 0, .int 0, .int 0, .null, .int 0], _, _, _, _, _, _, _, _]) B (hn.trans rfl) kX7 11 (by decide) wf_X7_33 rfl rfl rfl rfl rfl (Nat.le_of_ble_eq_true rfl) rfl rfl dX7_init_73 ?_
    refine jv_aload_n B dX7_init_76 rfl ?_
    refine jv_sipush (v := 3000) B dX7_init_77 (by decide) ?_
    refine jv_newa (N := 3000) (a0 := (3000, .inl (fun _ => 0))) (cA := G.2.1) (ws' := [ob 6 [.ref (ad 1), .int 0, .ref (ad 2), .int 0, .ref (ad 3), .int 0, .ref (ad 4), .int 0, .ref (ad 5), .ref (ad 6), .ref (ad 7), .ref (ad 8), .null, .null, .null, .null, .null, .null, .null, .null, .null, .int 0, .int 0, .int 0, .int 0, .int 0, .null, .int 0], _, _, _, _, _, _, _, _, _]) B hAd rfl (by decide) (ty := .int) rfl war_int 0 rfl (fun _ h => h) (fun _ => rfl) (by decide) (by decide) ⟨by decide, by decide⟩ rfl dX7_init_80 ?_
    refine jv_top (w := .ref (ad 9)) rfl ?_
    refine jv_putF (fs' := [.ref (ad 1), .int 0, .ref (ad 2), .int 0, .ref (ad 3), .int 0, .ref (ad 4), .int 0, .ref (ad 5), .ref (ad 6), .ref (ad 7), .ref (ad 8), .ref (ad 9), .null, .null, .null, .null, .null, .null, .null, .null, .int 0, .int 0, .int 0, .int 0, .int 0, .null, .int 0]) (ws' := [ob 6 [.ref (ad 1), .int 0, .ref (ad 2), .int 0, .ref (ad 3), .int 0, .ref (ad 4), .int 0, .ref (ad 5), .ref (ad 6), .ref (ad 7), .ref (ad 8), .ref (ad 9), .null, .null, .null, .null, .null, .null, .null, .null, .int 0, .int 0, .int 0, .int 0, .int 0, .null, .int 0], _, _, _, _, _, _, _, _, _]) B (hn.trans rfl) kX7 12 (by decide) wf_X7_36 rfl rfl rfl rfl rfl (Nat.le_of_ble_eq_true rfl) rfl rfl dX7_init_82 ?_
    refine jv_aload_n B dX7_init_85 rfl ?_
    refine jv_sipush (v := 16000) B dX7_init_86 (by decide) ?_
    refine jv_newa (N := 16000) (a0 := (16000, .inl (fun _ => 0))) (cA := G.2.2.1) (ws' := [ob 6 [.ref (ad 1), .int 0, .ref (ad 2), .int 0, .ref (ad 3), .int 0, .ref (ad 4), .int 0, .ref (ad 5), .ref (ad 6), .ref (ad 7), .ref (ad 8), .ref (ad 9), .null, .null, .null, .null, .null, .null, .null, .null, .int 0, .int 0, .int 0, .int 0, .int 0, .null, .int 0], _, _, _, _, _, _, _, _, _, _]) B hAd rfl (by decide) (ty := .byte) rfl war_byte 1 rfl (fun _ h => h) (fun _ => rfl) (by decide) (by decide) ⟨by decide, by decide⟩ rfl dX7_init_89 ?_
    refine jv_top (w := .ref (ad 10)) rfl ?_
    refine jv_putF (fs' := [.ref (ad 1), .int 0, .ref (ad 2), .int 0, .ref (ad 3), .int 0, .ref (ad 4), .int 0, .ref (ad 5), .ref (ad 6), .ref (ad 7), .ref (ad 8), .ref (ad 9), .ref (ad 10), .null, .null, .null, .null, .null, .null, .null, .int 0, .int 0, .int 0, .int 0, .int 0, .null, .int 0]) (ws' := [ob 6 [.ref (ad 1), .int 0, .ref (ad 2), .int 0, .ref (ad 3), .int 0, .ref (ad 4), .int 0, .ref (ad 5), .ref (ad 6), .ref (ad 7), .ref (ad 8), .ref (ad 9), .ref (ad 10), .null, .null, .null, .null, .null, .null, .null, .int 0, .int 0, .int 0, .int 0, .int 0, .null, .int 0], _, _, _, _, _, _, _, _, _, _]) B (hn.trans rfl) kX7 13 (by decide) wf_X7_39 rfl rfl rfl rfl rfl (Nat.le_of_ble_eq_true rfl) rfl rfl dX7_init_91 ?_
    refine jv_aload_n B dX7_init_94 rfl ?_
    refine jv_iconst (v := 2) B dX7_init_95 (by decide) ?_
    refine jv_newa (N := 2) (a0 := (2, .inl (fun _ => 0))) (cA := G.2.1) (ws' := [ob 6 [.ref (ad 1), .int 0, .ref (ad 2), .int 0, .ref (ad 3), .int 0, .ref (ad 4), .int 0, .ref (ad 5), .ref (ad 6), .ref (ad 7), .ref (ad 8), .ref (ad 9), .ref (ad 10), .null, .null, .null, .null, .null, .null, .null, .int 0, .int 0, .int 0, .int 0, .int 0, .null, .int 0], _, _, _, _, _, _, _, _, _, _, _]) B hAd rfl (by decide) (ty := .int) rfl war_int 0 rfl (fun _ h => h) (fun _ => rfl) (by decide) (by decide) ⟨by decide, by decide⟩ rfl dX7_init_96 ?_
    refine jv_top (w := .ref (ad 11)) rfl ?_
    refine jv_putF (fs' := [.ref (ad 1), .int 0, .ref (ad 2), .int 0, .ref (ad 3), .int 0, .ref (ad 4), .int 0, .ref (ad 5), .ref (ad 6), .ref (ad 7), .ref (ad 8), .ref (ad 9), .ref (ad 10), .ref (ad 11), .null, .null, .null, .null, .null, .null, .int 0, .int 0, .int 0, .int 0, .int 0, .null, .int 0]) (ws' := [ob 6 [.ref (ad 1), .int 0, .ref (ad 2), .int 0, .ref (ad 3), .int 0, .ref (ad 4), .int 0, .ref (ad 5), .ref (ad 6), .ref (ad 7), .ref (ad 8), .ref (ad 9), .ref (ad 10), .ref (ad 11), .null, .null, .null, .null, .null, .null, .int 0, .int 0, .int 0, .int 0, .int 0, .null, .int 0], _, _, _, _, _, _, _, _, _, _, _]) B (hn.trans rfl) kX7 14 (by decide) wf_X7_42 rfl rfl rfl rfl rfl (Nat.le_of_ble_eq_true rfl) rfl rfl dX7_init_98 ?_
    refine jv_aload_n B dX7_init_101 rfl ?_
    refine jv_iconst (v := 2) B dX7_init_102 (by decide) ?_
    refine jv_newa (N := 2) (a0 := (2, .inl (fun _ => 0))) (cA := G.2.1) (ws' := [ob 6 [.ref (ad 1), .int 0, .ref (ad 2), .int 0, .ref (ad 3), .int 0, .ref (ad 4), .int 0, .ref (ad 5), .ref (ad 6), .ref (ad 7), .ref (ad 8), .ref (ad 9), .ref (ad 10), .ref (ad 11), .null, .null, .null, .null, .null, .null, .int 0, .int 0, .int 0, .int 0, .int 0, .null, .int 0], _, _, _, _, _, _, _, _, _, _, _, _]) B hAd rfl (by decide) (ty := .int) rfl war_int 0 rfl (fun _ h => h) (fun _ => rfl) (by decide) (by decide) ⟨by decide, by decide⟩ rfl dX7_init_103 ?_
    refine jv_top (w := .ref (ad 12)) rfl ?_
    refine jv_putF (fs' := [.ref (ad 1), .int 0, .ref (ad 2), .int 0, .ref (ad 3), .int 0, .ref (ad 4), .int 0, .ref (ad 5), .ref (ad 6), .ref (ad 7), .ref (ad 8), .ref (ad 9), .ref (ad 10), .ref (ad 11), .ref (ad 12), .null, .null, .null, .null, .null, .int 0, .int 0, .int 0, .int 0, .int 0, .null, .int 0]) (ws' := [ob 6 [.ref (ad 1), .int 0, .ref (ad 2), .int 0, .ref (ad 3), .int 0, .ref (ad 4), .int 0, .ref (ad 5), .ref (ad 6), .ref (ad 7), .ref (ad 8), .ref (ad 9), .ref (ad 10), .ref (ad 11), .ref (ad 12), .null, .null, .null, .null, .null, .int 0, .int 0, .int 0, .int 0, .int 0, .null, .int 0], _, _, _, _, _, _, _, _, _, _, _, _]) B (hn.trans rfl) kX7 15 (by decide) wf_X7_45 rfl rfl rfl rfl rfl (Nat.le_of_ble_eq_true rfl) rfl rfl dX7_init_105 ?_
    refine jv_aload_n B dX7_init_108 rfl ?_
    refine jv_bipush (v := 60) B dX7_init_109 (by decide) ?_
    refine jv_newa (N := 60) (a0 := (60, .inl (fun _ => 0))) (cA := G.2.2.2.2) (ws' := [ob 6 [.ref (ad 1), .int 0, .ref (ad 2), .int 0, .ref (ad 3), .int 0, .ref (ad 4), .int 0, .ref (ad 5), .ref (ad 6), .ref (ad 7), .ref (ad 8), .ref (ad 9), .ref (ad 10), .ref (ad 11), .ref (ad 12), .null, .null, .null, .null, .null, .int 0, .int 0, .int 0, .int 0, .int 0, .null, .int 0], _, _, _, _, _, _, _, _, _, _, _, _, _]) B hAd rfl (by decide) (ty := .boolean) rfl war_boolean 3 rfl (fun _ h => h) (fun _ => rfl) (by decide) (by decide) ⟨by decide, by decide⟩ rfl dX7_init_111 ?_
    refine jv_top (w := .ref (ad 13)) rfl ?_
    refine jv_putF (fs' := [.ref (ad 1), .int 0, .ref (ad 2), .int 0, .ref (ad 3), .int 0, .ref (ad 4), .int 0, .ref (ad 5), .ref (ad 6), .ref (ad 7), .ref (ad 8), .ref (ad 9), .ref (ad 10), .ref (ad 11), .ref (ad 12), .ref (ad 13), .null, .null, .null, .null, .int 0, .int 0, .int 0, .int 0, .int 0, .null, .int 0]) (ws' := [ob 6 [.ref (ad 1), .int 0, .ref (ad 2), .int 0, .ref (ad 3), .int 0, .ref (ad 4), .int 0, .ref (ad 5), .ref (ad 6), .ref (ad 7), .ref (ad 8), .ref (ad 9), .ref (ad 10), .ref (ad 11), .ref (ad 12), .ref (ad 13), .null, .null, .null, .null, .int 0, .int 0, .int 0, .int 0, .int 0, .null, .int 0], _, _, _, _, _, _, _, _, _, _, _, _, _]) B (hn.trans rfl) kX7 16 (by decide) wf_X7_48 rfl rfl rfl rfl rfl (Nat.le_of_ble_eq_true rfl) rfl rfl dX7_init_113 ?_
    refine jv_aload_n B dX7_init_116 rfl ?_
    refine jv_bipush (v := 60) B dX7_init_117 (by decide) ?_
    refine jv_newa (N := 60) (a0 := (60, .inl (fun _ => 0))) (cA := G.2.2.2.2) (ws' := [ob 6 [.ref (ad 1), .int 0, .ref (ad 2), .int 0, .ref (ad 3), .int 0, .ref (ad 4), .int 0, .ref (ad 5), .ref (ad 6), .ref (ad 7), .ref (ad 8), .ref (ad 9), .ref (ad 10), .ref (ad 11), .ref (ad 12), .ref (ad 13), .null, .null, .null, .null, .int 0, .int 0, .int 0, .int 0, .int 0, .null, .int 0], _, _, _, _, _, _, _, _, _, _, _, _, _, _]) B hAd rfl (by decide) (ty := .boolean) rfl war_boolean 3 rfl (fun _ h => h) (fun _ => rfl) (by decide) (by decide) ⟨by decide, by decide⟩ rfl dX7_init_119 ?_
    refine jv_top (w := .ref (ad 14)) rfl ?_
    refine jv_putF (fs' := [.ref (ad 1), .int 0, .ref (ad 2), .int 0, .ref (ad 3), .int 0, .ref (ad 4), .int 0, .ref (ad 5), .ref (ad 6), .ref (ad 7), .ref (ad 8), .ref (ad 9), .ref (ad 10), .ref (ad 11), .ref (ad 12), .ref (ad 13), .ref (ad 14), .null, .null, .null, .int 0, .int 0, .int 0, .int 0, .int 0, .null, .int 0]) (ws' := [ob 6 [.ref (ad 1), .int 0, .ref (ad 2), .int 0, .ref (ad 3), .int 0, .ref (ad 4), .int 0, .ref (ad 5), .ref (ad 6), .ref (ad 7), .ref (ad 8), .ref (ad 9), .ref (ad 10), .ref (ad 11), .ref (ad 12), .ref (ad 13), .ref (ad 14), .null, .null, .null, .int 0, .int 0, .int 0, .int 0, .int 0, .null, .int 0], _, _, _, _, _, _, _, _, _, _, _, _, _, _]) B (hn.trans rfl) kX7 17 (by decide) wf_X7_52 rfl rfl rfl rfl rfl (Nat.le_of_ble_eq_true rfl) rfl rfl dX7_init_121 ?_
    refine jv_aload_n B dX7_init_124 rfl ?_
    refine jv_iconst (v := 2) B dX7_init_125 (by decide) ?_
    refine jv_newa (N := 2) (a0 := (2, .inl (fun _ => 0))) (cA := G.2.1) (ws' := [ob 6 [.ref (ad 1), .int 0, .ref (ad 2), .int 0, .ref (ad 3), .int 0, .ref (ad 4), .int 0, .ref (ad 5), .ref (ad 6), .ref (ad 7), .ref (ad 8), .ref (ad 9), .ref (ad 10), .ref (ad 11), .ref (ad 12), .ref (ad 13), .ref (ad 14), .null, .null, .null, .int 0, .int 0, .int 0, .int 0, .int 0, .null, .int 0], _, _, _, _, _, _, _, _, _, _, _, _, _, _, _]) B hAd rfl (by decide) (ty := .int) rfl war_int 0 rfl (fun _ h => h) (fun _ => rfl) (by decide) (by decide) ⟨by decide, by decide⟩ rfl dX7_init_126 ?_
    refine jv_top (w := .ref (ad 15)) rfl ?_
    refine jv_putF (fs' := [.ref (ad 1), .int 0, .ref (ad 2), .int 0, .ref (ad 3), .int 0, .ref (ad 4), .int 0, .ref (ad 5), .ref (ad 6), .ref (ad 7), .ref (ad 8), .ref (ad 9), .ref (ad 10), .ref (ad 11), .ref (ad 12), .ref (ad 13), .ref (ad 14), .ref (ad 15), .null, .null, .int 0, .int 0, .int 0, .int 0, .int 0, .null, .int 0]) (ws' := [ob 6 [.ref (ad 1), .int 0, .ref (ad 2), .int 0, .ref (ad 3), .int 0, .ref (ad 4), .int 0, .ref (ad 5), .ref (ad 6), .ref (ad 7), .ref (ad 8), .ref (ad 9), .ref (ad 10), .ref (ad 11), .ref (ad 12), .ref (ad 13), .ref (ad 14), .ref (ad 15), .null, .null, .int 0, .int 0, .int 0, .int 0, .int 0, .null, .int 0], _, _, _, _, _, _, _, _, _, _, _, _, _, _, _]) B (hn.trans rfl) kX7 18 (by decide) wf_X7_55 rfl rfl rfl rfl rfl (Nat.le_of_ble_eq_true rfl) rfl rfl dX7_init_128 ?_
    refine jv_aload_n B dX7_init_131 rfl ?_
    refine jv_sipush (v := 2048) B dX7_init_132 (by decide) ?_
    refine jv_newa (N := 2048) (a0 := (2048, .inl (fun _ => 0))) (cA := G.2.1) (ws' := [ob 6 [.ref (ad 1), .int 0, .ref (ad 2), .int 0, .ref (ad 3), .int 0, .ref (ad 4), .int 0, .ref (ad 5), .ref (ad 6), .ref (ad 7), .ref (ad 8), .ref (ad 9), .ref (ad 10), .ref (ad 11), .ref (ad 12), .ref (ad 13), .ref (ad 14), .ref (ad 15), .null, .null, .int 0, .int 0, .int 0, .int 0, .int 0, .null, .int 0], _, _, _, _, _, _, _, _, _, _, _, _, _, _, _, _]) B hAd rfl (by decide) (ty := .int) rfl war_int 0 rfl (fun _ h => h) (fun _ => rfl) (by decide) (by decide) ⟨by decide, by decide⟩ rfl dX7_init_135 ?_
    refine jv_top (w := .ref (ad 16)) rfl ?_
    refine jv_putF (fs' := [.ref (ad 1), .int 0, .ref (ad 2), .int 0, .ref (ad 3), .int 0, .ref (ad 4), .int 0, .ref (ad 5), .ref (ad 6), .ref (ad 7), .ref (ad 8), .ref (ad 9), .ref (ad 10), .ref (ad 11), .ref (ad 12), .ref (ad 13), .ref (ad 14), .ref (ad 15), .ref (ad 16), .null, .int 0, .int 0, .int 0, .int 0, .int 0, .null, .int 0]) (ws' := [ob 6 [.ref (ad 1), .int 0, .ref (ad 2), .int 0, .ref (ad 3), .int 0, .ref (ad 4), .int 0, .ref (ad 5), .ref (ad 6), .ref (ad 7), .ref (ad 8), .ref (ad 9), .ref (ad 10), .ref (ad 11), .ref (ad 12), .ref (ad 13), .ref (ad 14), .ref (ad 15), .ref (ad 16), .null, .int 0, .int 0, .int 0, .int 0, .int 0, .null, .int 0], _, _, _, _, _, _, _, _, _, _, _, _, _, _, _, _]) B (hn.trans rfl) kX7 19 (by decide) wf_X7_58 rfl rfl rfl rfl rfl (Nat.le_of_ble_eq_true rfl) rfl rfl dX7_init_137 ?_
    refine jv_aload_n B dX7_init_140 rfl ?_
    refine jv_iconst (v := 2) B dX7_init_141 (by decide) ?_
    refine jv_newa (N := 2) (a0 := (2, .inl (fun _ => 0))) (cA := G.2.1) (ws' := [ob 6 [.ref (ad 1), .int 0, .ref (ad 2), .int 0, .ref (ad 3), .int 0, .ref (ad 4), .int 0, .ref (ad 5), .ref (ad 6), .ref (ad 7), .ref (ad 8), .ref (ad 9), .ref (ad 10), .ref (ad 11), .ref (ad 12), .ref (ad 13), .ref (ad 14), .ref (ad 15), .ref (ad 16), .null, .int 0, .int 0, .int 0, .int 0, .int 0, .null, .int 0], _, _, _, _, _, _, _, _, _, _, _, _, _, _, _, _, _]) B hAd rfl (by decide) (ty := .int) rfl war_int 0 rfl (fun _ h => h) (fun _ => rfl) (by decide) (by decide) ⟨by decide, by decide⟩ rfl dX7_init_142 ?_
    refine jv_top (w := .ref (ad 17)) rfl ?_
    refine jv_putF (fs' := [.ref (ad 1), .int 0, .ref (ad 2), .int 0, .ref (ad 3), .int 0, .ref (ad 4), .int 0, .ref (ad 5), .ref (ad 6), .ref (ad 7), .ref (ad 8), .ref (ad 9), .ref (ad 10), .ref (ad 11), .ref (ad 12), .ref (ad 13), .ref (ad 14), .ref (ad 15), .ref (ad 16), .ref (ad 17), .int 0, .int 0, .int 0, .int 0, .int 0, .null, .int 0]) (ws' := [ob 6 [.ref (ad 1), .int 0, .ref (ad 2), .int 0, .ref (ad 3), .int 0, .ref (ad 4), .int 0, .ref (ad 5), .ref (ad 6), .ref (ad 7), .ref (ad 8), .ref (ad 9), .ref (ad 10), .ref (ad 11), .ref (ad 12), .ref (ad 13), .ref (ad 14), .ref (ad 15), .ref (ad 16), .ref (ad 17), .int 0, .int 0, .int 0, .int 0, .int 0, .null, .int 0], _, _, _, _, _, _, _, _, _, _, _, _, _, _, _, _, _]) B (hn.trans rfl) kX7 20 (by decide) wf_X7_61 rfl rfl rfl rfl rfl (Nat.le_of_ble_eq_true rfl) rfl rfl dX7_init_144 ?_
    refine jv_aload_n B dX7_init_147 rfl ?_
    refine jv_iconst (v := (-1)) B dX7_init_148 (by decide) ?_
    refine jv_put (fs' := [.ref (ad 1), .int 0, .ref (ad 2), .int 0, .ref (ad 3), .int 0, .ref (ad 4), .int 0, .ref (ad 5), .ref (ad 6), .ref (ad 7), .ref (ad 8), .ref (ad 9), .ref (ad 10), .ref (ad 11), .ref (ad 12), .ref (ad 13), .ref (ad 14), .ref (ad 15), .ref (ad 16), .ref (ad 17), .int 0, .int 0, .int 0, .int (-1), .int 0, .null, .int 0]) (ws' := [ob 6 [.ref (ad 1), .int 0, .ref (ad 2), .int 0, .ref (ad 3), .int 0, .ref (ad 4), .int 0, .ref (ad 5), .ref (ad 6), .ref (ad 7), .ref (ad 8), .ref (ad 9), .ref (ad 10), .ref (ad 11), .ref (ad 12), .ref (ad 13), .ref (ad 14), .ref (ad 15), .ref (ad 16), .ref (ad 17), .int 0, .int 0, .int 0, .int (-1), .int 0, .null, .int 0], _, _, _, _, _, _, _, _, _, _, _, _, _, _, _, _, _]) B kX7 24 (by decide) wf_X7_64 rfl rfl rfl rfl (Nat.le_of_ble_eq_true rfl) rfl rfl dX7_init_149 ?_
    refine jv_aload_n B dX7_init_152 rfl ?_
    refine jv_bipush (v := 31) B dX7_init_153 (by decide) ?_
    refine jv_newa (N := 31) (a0 := (31, .inl (fun _ => 0))) (cA := G.2.2.2.2) (ws' := [ob 6 [.ref (ad 1), .int 0, .ref (ad 2), .int 0, .ref (ad 3), .int 0, .ref (ad 4), .int 0, .ref (ad 5), .ref (ad 6), .ref (ad 7), .ref (ad 8), .ref (ad 9), .ref (ad 10), .ref (ad 11), .ref (ad 12), .ref (ad 13), .ref (ad 14), .ref (ad 15), .ref (ad 16), .ref (ad 17), .int 0, .int 0, .int 0, .int (-1), .int 0, .null, .int 0], _, _, _, _, _, _, _, _, _, _, _, _, _, _, _, _, _, _]) B hAd rfl (by decide) (ty := .boolean) rfl war_boolean 3 rfl (fun _ h => h) (fun _ => rfl) (by decide) (by decide) ⟨by decide, by decide⟩ rfl dX7_init_155 ?_
    refine jv_top (w := .ref (ad 18)) rfl ?_
    refine jv_putF (fs' := [.ref (ad 1), .int 0, .ref (ad 2), .int 0, .ref (ad 3), .int 0, .ref (ad 4), .int 0, .ref (ad 5), .ref (ad 6), .ref (ad 7), .ref (ad 8), .ref (ad 9), .ref (ad 10), .ref (ad 11), .ref (ad 12), .ref (ad 13), .ref (ad 14), .ref (ad 15), .ref (ad 16), .ref (ad 17), .int 0, .int 0, .int 0, .int (-1), .int 0, .ref (ad 18), .int 0]) (ws' := [ob 6 [.ref (ad 1), .int 0, .ref (ad 2), .int 0, .ref (ad 3), .int 0, .ref (ad 4), .int 0, .ref (ad 5), .ref (ad 6), .ref (ad 7), .ref (ad 8), .ref (ad 9), .ref (ad 10), .ref (ad 11), .ref (ad 12), .ref (ad 13), .ref (ad 14), .ref (ad 15), .ref (ad 16), .ref (ad 17), .int 0, .int 0, .int 0, .int (-1), .int 0, .ref (ad 18), .int 0], _, _, _, _, _, _, _, _, _, _, _, _, _, _, _, _, _, _]) B (hn.trans rfl) kX7 26 (by decide) wf_X7_68 rfl rfl rfl rfl rfl (Nat.le_of_ble_eq_true rfl) rfl rfl dX7_init_157 ?_
    exact jv_vret B E ⟨rfl, rfl⟩ ⟨by decide, by decide⟩ dX7_init_160)
