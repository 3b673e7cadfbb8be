theorem dX5_encode_0 : decode cX5_encode 0 = .ok (.aload_n 0, 1) := by decide +kernel
theorem dX5_encode_1 : decode cX5_encode 1 = .ok (.aload_n 1, 1) := by decide +kernel
theorem dX5_encode_2 : decode cX5_encode 2 = .ok (.putfield 22, 3) := by decide +kernel
theorem dX5_encode_5 : decode cX5_encode 5 = .ok (.aload_n 0, 1) := by decide +kernel
theorem dX5_encode_6 : decode cX5_encode 6 = .ok (.iload_n 2, 1) := by decide +kernel
theorem dX5_encode_7 : decode cX5_encode 7 = .ok (.putfield 26, 3) := by decide +kernel
theorem dX5_encode_10 : decode cX5_encode 10 = .ok (.aload_n 0, 1) := by decide +kernel
theorem dX5_encode_11 : decode cX5_encode 11 = .ok (.aload_n 3, 1) := by decide +kernel
theorem dX5_encode_12 : decode cX5_encode 12 = .ok (.putfield 30, 3) := by decide +kernel
theorem dX5_encode_15 : decode cX5_encode 15 = .ok (.aload_n 0, 1) := by decide +kernel
theorem dX5_encode_16 : decode cX5_encode 16 = .ok (.getfield 15, 3) := by decide +kernel
theorem dX5_encode_19 : decode cX5_encode 19 = .ok (.invokevirtual 34, 3) := by decide +kernel
theorem dX5_encode_22 : decode cX5_encode 22 = .ok (.aload_n 0, 1) := by decide +kernel
theorem dX5_encode_23 : decode cX5_encode 23 = .ok (.getfield 19, 3) := by decide +kernel
theorem dX5_encode_26 : decode cX5_encode 26 = .ok (.invokevirtual 34, 3) := by decide +kernel
theorem dX5_encode_29 : decode cX5_encode 29 = .ok (.aload_n 0, 1) := by decide +kernel
theorem dX5_encode_30 : decode cX5_encode 30 = .ok (.getfield 30, 3) := by decide +kernel
theorem dX5_encode_33 : decode cX5_encode 33 = .ok (.invokevirtual 39, 3) := by decide +kernel
theorem dX5_encode_36 : decode cX5_encode 36 = .ok (.aload_n 0, 1) := by decide +kernel
theorem dX5_encode_37 : decode cX5_encode 37 = .ok (.getfield 30, 3) := by decide +kernel
theorem dX5_encode_40 : decode cX5_encode 40 = .ok (.bipush 58, 2) := by decide +kernel
theorem dX5_encode_42 : decode cX5_encode 42 = .ok (.invokevirtual 42, 3) := by decide +kernel
theorem dX5_encode_45 : decode cX5_encode 45 = .ok (.aload_n 0, 1) := by decide +kernel
theorem dX5_encode_46 : decode cX5_encode 46 = .ok (.getfield 30, 3) := by decide +kernel
theorem dX5_encode_49 : decode cX5_encode 49 = .ok (.bipush 41, 2) := by decide +kernel
theorem dX5_encode_51 : decode cX5_encode 51 = .ok (.invokevirtual 42, 3) := by decide +kernel
theorem dX5_encode_54 : decode cX5_encode 54 = .ok (.aload_n 0, 1) := by decide +kernel
theorem dX5_encode_55 : decode cX5_encode 55 = .ok (.getfield 30, 3) := by decide +kernel
theorem dX5_encode_58 : decode cX5_encode 58 = .ok (.bipush 10, 2) := by decide +kernel
theorem dX5_encode_60 : decode cX5_encode 60 = .ok (.invokevirtual 42, 3) := by decide +kernel
theorem dX5_encode_63 : decode cX5_encode 63 = .ok (.aload_n 0, 1) := by decide +kernel
theorem dX5_encode_64 : decode cX5_encode 64 = .ok (.getfield 30, 3) := by decide +kernel
theorem dX5_encode_67 : decode cX5_encode 67 = .ok (.aload_n 0, 1) := by decide +kernel
theorem dX5_encode_68 : decode cX5_encode 68 = .ok (.getfield 26, 3) := by decide +kernel
theorem dX5_encode_71 : decode cX5_encode 71 = .ok (.invokevirtual 42, 3) := by decide +kernel
theorem dX5_encode_74 : decode cX5_encode 74 = .ok (.iconst 0, 1) := by decide +kernel
theorem dX5_encode_75 : decode cX5_encode 75 = .ok (.istore 4, 2) := by decide +kernel
theorem dX5_encode_77 : decode cX5_encode 77 = .ok (.iload 4, 2) := by decide +kernel
theorem dX5_encode_79 : decode cX5_encode 79 = .ok (.aload_n 0, 1) := by decide +kernel
theorem dX5_encode_80 : decode cX5_encode 80 = .ok (.getfield 22, 3) := by decide +kernel
theorem dX5_encode_83 : decode cX5_encode 83 = .ok (.invokevirtual 46, 3) := by decide +kernel
theorem dX5_encode_86 : decode cX5_encode 86 = .ok (.if_icmp .ge 25, 3) := by decide +kernel
theorem dX5_encode_89 : decode cX5_encode 89 = .ok (.aload_n 0, 1) := by decide +kernel
theorem dX5_encode_90 : decode cX5_encode 90 = .ok (.getfield 30, 3) := by decide +kernel
theorem dX5_encode_93 : decode cX5_encode 93 = .ok (.invokevirtual 52, 3) := by decide +kernel
theorem dX5_encode_96 : decode cX5_encode 96 = .ok (.ifCond .ne 15, 3) := by decide +kernel
theorem dX5_encode_99 : decode cX5_encode 99 = .ok (.aload_n 0, 1) := by decide +kernel
theorem dX5_encode_100 : decode cX5_encode 100 = .ok (.iload 4, 2) := by decide +kernel
theorem dX5_encode_102 : decode cX5_encode 102 = .ok (.invokevirtual 56, 3) := by decide +kernel
theorem dX5_encode_105 : decode cX5_encode 105 = .ok (.iinc 4 1, 3) := by decide +kernel
theorem dX5_encode_108 : decode cX5_encode 108 = .ok (.goto (-31), 3) := by decide +kernel
theorem dX5_encode_111 : decode cX5_encode 111 = .ok (.aload_n 0, 1) := by decide +kernel
theorem dX5_encode_112 : decode cX5_encode 112 = .ok (.getfield 30, 3) := by decide +kernel
theorem dX5_encode_115 : decode cX5_encode 115 = .ok (.invokevirtual 52, 3) := by decide +kernel
theorem dX5_encode_118 : decode cX5_encode 118 = .ok (.ifCond .ne 7, 3) := by decide +kernel
theorem dX5_encode_121 : decode cX5_encode 121 = .ok (.iconst 1, 1) := by decide +kernel
theorem dX5_encode_122 : decode cX5_encode 122 = .ok (.goto 4, 3) := by decide +kernel
theorem dX5_encode_125 : decode cX5_encode 125 = .ok (.iconst 0, 1) := by decide +kernel
theorem dX5_encode_126 : decode cX5_encode 126 = .ok (.ireturn, 1) := by decide +kernel
theorem dX5_encodeBytes_0 : decode cX5_encodeBytes 0 = .ok (.aload_n 0, 1) := by decide +kernel
theorem dX5_encodeBytes_1 : decode cX5_encodeBytes 1 = .ok (.getfield 26, 3) := by decide +kernel
theorem dX5_encodeBytes_4 : decode cX5_encodeBytes 4 = .ok (.iconst 4, 1) := by decide +kernel
theorem dX5_encodeBytes_5 : decode cX5_encodeBytes 5 = .ok (.iand, 1) := by decide +kernel
theorem dX5_encodeBytes_6 : decode cX5_encodeBytes 6 = .ok (.ifCond .eq 7, 3) := by decide +kernel
theorem dX5_encodeBytes_9 : decode cX5_encodeBytes 9 = .ok (.iconst 1, 1) := by decide +kernel
theorem dX5_encodeBytes_10 : decode cX5_encodeBytes 10 = .ok (.goto 4, 3) := by decide +kernel
theorem dX5_encodeBytes_13 : decode cX5_encodeBytes 13 = .ok (.iconst 0, 1) := by decide +kernel
theorem dX5_encodeBytes_14 : decode cX5_encodeBytes 14 = .ok (.istore_n 2, 1) := by decide +kernel
theorem dX5_encodeBytes_15 : decode cX5_encodeBytes 15 = .ok (.aload_n 0, 1) := by decide +kernel
theorem dX5_encodeBytes_16 : decode cX5_encodeBytes 16 = .ok (.getfield 30, 3) := by decide +kernel
theorem dX5_encodeBytes_19 : decode cX5_encodeBytes 19 = .ok (.iload_n 2, 1) := by decide +kernel
theorem dX5_encodeBytes_20 : decode cX5_encodeBytes 20 = .ok (.ifCond .eq 9, 3) := by decide +kernel
theorem dX5_encodeBytes_23 : decode cX5_encodeBytes 23 = .ok (.sipush 253, 3) := by decide +kernel
theorem dX5_encodeBytes_26 : decode cX5_encodeBytes 26 = .ok (.goto 6, 3) := by decide +kernel
theorem dX5_encodeBytes_29 : decode cX5_encodeBytes 29 = .ok (.sipush 232, 3) := by decide +kernel
theorem dX5_encodeBytes_32 : decode cX5_encodeBytes 32 = .ok (.invokevirtual 42, 3) := by decide +kernel
theorem dX5_encodeBytes_35 : decode cX5_encodeBytes 35 = .ok (.aload_n 0, 1) := by decide +kernel
theorem dX5_encodeBytes_36 : decode cX5_encodeBytes 36 = .ok (.aload_n 0, 1) := by decide +kernel
theorem dX5_encodeBytes_37 : decode cX5_encodeBytes 37 = .ok (.getfield 22, 3) := by decide +kernel
theorem dX5_encodeBytes_40 : decode cX5_encodeBytes 40 = .ok (.iload_n 1, 1) := by decide +kernel
theorem dX5_encodeBytes_41 : decode cX5_encodeBytes 41 = .ok (.invokevirtual 101, 3) := by decide +kernel
theorem dX5_encodeBytes_44 : decode cX5_encodeBytes 44 = .ok (.i2l, 1) := by decide +kernel
theorem dX5_encodeBytes_45 : decode cX5_encodeBytes 45 = .ok (.invokevirtual 98, 3) := by decide +kernel
theorem dX5_encodeBytes_48 : decode cX5_encodeBytes 48 = .ok (.iload_n 2, 1) := by decide +kernel
theorem dX5_encodeBytes_49 : decode cX5_encodeBytes 49 = .ok (.ifCond .eq 18, 3) := by decide +kernel
theorem dX5_encodeBytes_52 : decode cX5_encodeBytes 52 = .ok (.aload_n 0, 1) := by decide +kernel
theorem dX5_encodeBytes_53 : decode cX5_encodeBytes 53 = .ok (.getfield 22, 3) := by decide +kernel
theorem dX5_encodeBytes_56 : decode cX5_encodeBytes 56 = .ok (.iload_n 1, 1) := by decide +kernel
theorem dX5_encodeBytes_57 : decode cX5_encodeBytes 57 = .ok (.aload_n 0, 1) := by decide +kernel
theorem dX5_encodeBytes_58 : decode cX5_encodeBytes 58 = .ok (.getfield 30, 3) := by decide +kernel
theorem dX5_encodeBytes_61 : decode cX5_encodeBytes 61 = .ok (.invokevirtual 129, 3) := by decide +kernel
theorem dX5_encodeBytes_64 : decode cX5_encodeBytes 64 = .ok (.goto 8, 3) := by decide +kernel
theorem dX5_encodeBytes_67 : decode cX5_encodeBytes 67 = .ok (.aload_n 0, 1) := by decide +kernel
theorem dX5_encodeBytes_68 : decode cX5_encodeBytes 68 = .ok (.iload_n 1, 1) := by decide +kernel
theorem dX5_encodeBytes_69 : decode cX5_encodeBytes 69 = .ok (.invokevirtual 133, 3) := by decide +kernel
theorem dX5_encodeBytes_72 : decode cX5_encodeBytes 72 = .ok (.return_, 1) := by decide +kernel
theorem dX5_encodeCount_0 : decode cX5_encodeCount 0 = .ok (.iconst 0, 1) := by decide +kernel
theorem dX5_encodeCount_1 : decode cX5_encodeCount 1 = .ok (.istore_n 3, 1) := by decide +kernel
theorem dX5_encodeCount_2 : decode cX5_encodeCount 2 = .ok (.lload_n 1, 1) := by decide +kernel
theorem dX5_encodeCount_3 : decode cX5_encodeCount 3 = .ok (.bipush 6, 2) := by decide +kernel
theorem dX5_encodeCount_5 : decode cX5_encodeCount 5 = .ok (.lushr, 1) := by decide +kernel
theorem dX5_encodeCount_6 : decode cX5_encodeCount 6 = .ok (.lstore 4, 2) := by decide +kernel
theorem dX5_encodeCount_8 : decode cX5_encodeCount 8 = .ok (.lload 4, 2) := by decide +kernel
theorem dX5_encodeCount_10 : decode cX5_encodeCount 10 = .ok (.lconst 0, 1) := by decide +kernel
theorem dX5_encodeCount_11 : decode cX5_encodeCount 11 = .ok (.lcmp, 1) := by decide +kernel
theorem dX5_encodeCount_12 : decode cX5_encodeCount 12 = .ok (.ifCond .eq 22, 3) := by decide +kernel
theorem dX5_encodeCount_15 : decode cX5_encodeCount 15 = .ok (.iload_n 3, 1) := by decide +kernel
theorem dX5_encodeCount_16 : decode cX5_encodeCount 16 = .ok (.bipush 9, 2) := by decide +kernel
theorem dX5_encodeCount_18 : decode cX5_encodeCount 18 = .ok (.if_icmp .ge 16, 3) := by decide +kernel
theorem dX5_encodeCount_21 : decode cX5_encodeCount 21 = .ok (.iinc 3 1, 3) := by decide +kernel
theorem dX5_encodeCount_24 : decode cX5_encodeCount 24 = .ok (.lload 4, 2) := by decide +kernel
theorem dX5_encodeCount_26 : decode cX5_encodeCount 26 = .ok (.bipush 7, 2) := by decide +kernel
theorem dX5_encodeCount_28 : decode cX5_encodeCount 28 = .ok (.lushr, 1) := by decide +kernel
theorem dX5_encodeCount_29 : decode cX5_encodeCount 29 = .ok (.lstore 4, 2) := by decide +kernel
theorem dX5_encodeCount_31 : decode cX5_encodeCount 31 = .ok (.goto (-23), 3) := by decide +kernel
theorem dX5_encodeCount_34 : decode cX5_encodeCount 34 = .ok (.iload_n 3, 1) := by decide +kernel
theorem dX5_encodeCount_35 : decode cX5_encodeCount 35 = .ok (.iconst 1, 1) := by decide +kernel
theorem dX5_encodeCount_36 : decode cX5_encodeCount 36 = .ok (.isub, 1) := by decide +kernel
theorem dX5_encodeCount_37 : decode cX5_encodeCount 37 = .ok (.istore 4, 2) := by decide +kernel
theorem dX5_encodeCount_39 : decode cX5_encodeCount 39 = .ok (.iload 4, 2) := by decide +kernel
theorem dX5_encodeCount_41 : decode cX5_encodeCount 41 = .ok (.ifCond .lt 30, 3) := by decide +kernel
theorem dX5_encodeCount_44 : decode cX5_encodeCount 44 = .ok (.aload_n 0, 1) := by decide +kernel
theorem dX5_encodeCount_45 : decode cX5_encodeCount 45 = .ok (.getfield 30, 3) := by decide +kernel
theorem dX5_encodeCount_48 : decode cX5_encodeCount 48 = .ok (.lload_n 1, 1) := by decide +kernel
theorem dX5_encodeCount_49 : decode cX5_encodeCount 49 = .ok (.bipush 6, 2) := by decide +kernel
theorem dX5_encodeCount_51 : decode cX5_encodeCount 51 = .ok (.bipush 7, 2) := by decide +kernel
theorem dX5_encodeCount_53 : decode cX5_encodeCount 53 = .ok (.iload 4, 2) := by decide +kernel
theorem dX5_encodeCount_55 : decode cX5_encodeCount 55 = .ok (.imul, 1) := by decide +kernel
theorem dX5_encodeCount_56 : decode cX5_encodeCount 56 = .ok (.iadd, 1) := by decide +kernel
theorem dX5_encodeCount_57 : decode cX5_encodeCount 57 = .ok (.lushr, 1) := by decide +kernel
theorem dX5_encodeCount_58 : decode cX5_encodeCount 58 = .ok (.l2i, 1) := by decide +kernel
theorem dX5_encodeCount_59 : decode cX5_encodeCount 59 = .ok (.bipush 127, 2) := by decide +kernel
theorem dX5_encodeCount_61 : decode cX5_encodeCount 61 = .ok (.iand, 1) := by decide +kernel
theorem dX5_encodeCount_62 : decode cX5_encodeCount 62 = .ok (.invokevirtual 42, 3) := by decide +kernel
theorem dX5_encodeCount_65 : decode cX5_encodeCount 65 = .ok (.iinc 4 (-1), 3) := by decide +kernel
theorem dX5_encodeCount_68 : decode cX5_encodeCount 68 = .ok (.goto (-29), 3) := by decide +kernel
theorem dX5_encodeCount_71 : decode cX5_encodeCount 71 = .ok (.aload_n 0, 1) := by decide +kernel
theorem dX5_encodeCount_72 : decode cX5_encodeCount 72 = .ok (.getfield 30, 3) := by decide +kernel
theorem dX5_encodeCount_75 : decode cX5_encodeCount 75 = .ok (.sipush 128, 3) := by decide +kernel
theorem dX5_encodeCount_78 : decode cX5_encodeCount 78 = .ok (.lload_n 1, 1) := by decide +kernel
theorem dX5_encodeCount_79 : decode cX5_encodeCount 79 = .ok (.l2i, 1) := by decide +kernel
theorem dX5_encodeCount_80 : decode cX5_encodeCount 80 = .ok (.bipush 63, 2) := by decide +kernel
theorem dX5_encodeCount_82 : decode cX5_encodeCount 82 = .ok (.iand, 1) := by decide +kernel
theorem dX5_encodeCount_83 : decode cX5_encodeCount 83 = .ok (.ior, 1) := by decide +kernel
theorem dX5_encodeCount_84 : decode cX5_encodeCount 84 = .ok (.invokevirtual 42, 3) := by decide +kernel
theorem dX5_encodeCount_87 : decode cX5_encodeCount 87 = .ok (.return_, 1) := by decide +kernel
theorem dX5_encodeEnd_0 : decode cX5_encodeEnd 0 = .ok (.aload_n 0, 1) := by decide +kernel
theorem dX5_encodeEnd_1 : decode cX5_encodeEnd 1 = .ok (.getfield 22, 3) := by decide +kernel
theorem dX5_encodeEnd_4 : decode cX5_encodeEnd 4 = .ok (.iload_n 1, 1) := by decide +kernel
theorem dX5_encodeEnd_5 : decode cX5_encodeEnd 5 = .ok (.invokevirtual 91, 3) := by decide +kernel
theorem dX5_encodeEnd_8 : decode cX5_encodeEnd 8 = .ok (.istore_n 2, 1) := by decide +kernel
theorem dX5_encodeEnd_9 : decode cX5_encodeEnd 9 = .ok (.iload_n 2, 1) := by decide +kernel
theorem dX5_encodeEnd_10 : decode cX5_encodeEnd 10 = .ok (.ifCond .lt 24, 3) := by decide +kernel
theorem dX5_encodeEnd_13 : decode cX5_encodeEnd 13 = .ok (.iload_n 2, 1) := by decide +kernel
theorem dX5_encodeEnd_14 : decode cX5_encodeEnd 14 = .ok (.bipush 30, 2) := by decide +kernel
theorem dX5_encodeEnd_16 : decode cX5_encodeEnd 16 = .ok (.if_icmp .ge 18, 3) := by decide +kernel
theorem dX5_encodeEnd_19 : decode cX5_encodeEnd 19 = .ok (.aload_n 0, 1) := by decide +kernel
theorem dX5_encodeEnd_20 : decode cX5_encodeEnd 20 = .ok (.getfield 9, 3) := by decide +kernel
theorem dX5_encodeEnd_23 : decode cX5_encodeEnd 23 = .ok (.iload_n 2, 1) := by decide +kernel
theorem dX5_encodeEnd_24 : decode cX5_encodeEnd 24 = .ok (.iaload, 1) := by decide +kernel
theorem dX5_encodeEnd_25 : decode cX5_encodeEnd 25 = .ok (.bipush 6, 2) := by decide +kernel
theorem dX5_encodeEnd_27 : decode cX5_encodeEnd 27 = .ok (.if_icmp .ne 7, 3) := by decide +kernel
theorem dX5_encodeEnd_30 : decode cX5_encodeEnd 30 = .ok (.iconst 1, 1) := by decide +kernel
theorem dX5_encodeEnd_31 : decode cX5_encodeEnd 31 = .ok (.goto 4, 3) := by decide +kernel
theorem dX5_encodeEnd_34 : decode cX5_encodeEnd 34 = .ok (.iconst 0, 1) := by decide +kernel
theorem dX5_encodeEnd_35 : decode cX5_encodeEnd 35 = .ok (.istore_n 3, 1) := by decide +kernel
theorem dX5_encodeEnd_36 : decode cX5_encodeEnd 36 = .ok (.aload_n 0, 1) := by decide +kernel
theorem dX5_encodeEnd_37 : decode cX5_encodeEnd 37 = .ok (.getfield 30, 3) := by decide +kernel
theorem dX5_encodeEnd_40 : decode cX5_encodeEnd 40 = .ok (.iload_n 3, 1) := by decide +kernel
theorem dX5_encodeEnd_41 : decode cX5_encodeEnd 41 = .ok (.ifCond .eq 9, 3) := by decide +kernel
theorem dX5_encodeEnd_44 : decode cX5_encodeEnd 44 = .ok (.sipush 251, 3) := by decide +kernel
theorem dX5_encodeEnd_47 : decode cX5_encodeEnd 47 = .ok (.goto 6, 3) := by decide +kernel
theorem dX5_encodeEnd_50 : decode cX5_encodeEnd 50 = .ok (.sipush 249, 3) := by decide +kernel
theorem dX5_encodeEnd_53 : decode cX5_encodeEnd 53 = .ok (.invokevirtual 42, 3) := by decide +kernel
theorem dX5_encodeEnd_56 : decode cX5_encodeEnd 56 = .ok (.return_, 1) := by decide +kernel
theorem dX5_encodeInteger_0 : decode cX5_encodeInteger 0 = .ok (.lload_n 1, 1) := by decide +kernel
theorem dX5_encodeInteger_1 : decode cX5_encodeInteger 1 = .ok (.iconst 1, 1) := by decide +kernel
theorem dX5_encodeInteger_2 : decode cX5_encodeInteger 2 = .ok (.lshl, 1) := by decide +kernel
theorem dX5_encodeInteger_3 : decode cX5_encodeInteger 3 = .ok (.lload_n 1, 1) := by decide +kernel
theorem dX5_encodeInteger_4 : decode cX5_encodeInteger 4 = .ok (.bipush 63, 2) := by decide +kernel
theorem dX5_encodeInteger_6 : decode cX5_encodeInteger 6 = .ok (.lshr, 1) := by decide +kernel
theorem dX5_encodeInteger_7 : decode cX5_encodeInteger 7 = .ok (.lxor, 1) := by decide +kernel
theorem dX5_encodeInteger_8 : decode cX5_encodeInteger 8 = .ok (.lstore_n 3, 1) := by decide +kernel
theorem dX5_encodeInteger_9 : decode cX5_encodeInteger 9 = .ok (.lload_n 1, 1) := by decide +kernel
theorem dX5_encodeInteger_10 : decode cX5_encodeInteger 10 = .ok (.ldc2_w 94, 3) := by decide +kernel
theorem dX5_encodeInteger_13 : decode cX5_encodeInteger 13 = .ok (.lcmp, 1) := by decide +kernel
theorem dX5_encodeInteger_14 : decode cX5_encodeInteger 14 = .ok (.ifCond .lt 25, 3) := by decide +kernel
theorem dX5_encodeInteger_17 : decode cX5_encodeInteger 17 = .ok (.lload_n 1, 1) := by decide +kernel
theorem dX5_encodeInteger_18 : decode cX5_encodeInteger 18 = .ok (.ldc2_w 96, 3) := by decide +kernel
theorem dX5_encodeInteger_21 : decode cX5_encodeInteger 21 = .ok (.lcmp, 1) := by decide +kernel
theorem dX5_encodeInteger_22 : decode cX5_encodeInteger 22 = .ok (.ifCond .gt 17, 3) := by decide +kernel
theorem dX5_encodeInteger_25 : decode cX5_encodeInteger 25 = .ok (.aload_n 0, 1) := by decide +kernel
theorem dX5_encodeInteger_26 : decode cX5_encodeInteger 26 = .ok (.getfield 30, 3) := by decide +kernel
theorem dX5_encodeInteger_29 : decode cX5_encodeInteger 29 = .ok (.sipush 192, 3) := by decide +kernel
theorem dX5_encodeInteger_32 : decode cX5_encodeInteger 32 = .ok (.lload_n 3, 1) := by decide +kernel
theorem dX5_encodeInteger_33 : decode cX5_encodeInteger 33 = .ok (.l2i, 1) := by decide +kernel
theorem dX5_encodeInteger_34 : decode cX5_encodeInteger 34 = .ok (.iadd, 1) := by decide +kernel
theorem dX5_encodeInteger_35 : decode cX5_encodeInteger 35 = .ok (.invokevirtual 42, 3) := by decide +kernel
theorem dX5_encodeInteger_38 : decode cX5_encodeInteger 38 = .ok (.return_, 1) := by decide +kernel
theorem dX5_encodeInteger_39 : decode cX5_encodeInteger 39 = .ok (.aload_n 0, 1) := by decide +kernel
theorem dX5_encodeInteger_40 : decode cX5_encodeInteger 40 = .ok (.getfield 30, 3) := by decide +kernel
theorem dX5_encodeInteger_43 : decode cX5_encodeInteger 43 = .ok (.lload_n 1, 1) := by decide +kernel
theorem dX5_encodeInteger_44 : decode cX5_encodeInteger 44 = .ok (.lload_n 1, 1) := by decide +kernel
theorem dX5_encodeInteger_45 : decode cX5_encodeInteger 45 = .ok (.l2i, 1) := by decide +kernel
theorem dX5_encodeInteger_46 : decode cX5_encodeInteger 46 = .ok (.i2l, 1) := by decide +kernel
theorem dX5_encodeInteger_47 : decode cX5_encodeInteger 47 = .ok (.lcmp, 1) := by decide +kernel
theorem dX5_encodeInteger_48 : decode cX5_encodeInteger 48 = .ok (.ifCond .ne 8, 3) := by decide +kernel
theorem dX5_encodeInteger_51 : decode cX5_encodeInteger 51 = .ok (.bipush 36, 2) := by decide +kernel
theorem dX5_encodeInteger_53 : decode cX5_encodeInteger 53 = .ok (.goto 5, 3) := by decide +kernel
theorem dX5_encodeInteger_56 : decode cX5_encodeInteger 56 = .ok (.bipush 37, 2) := by decide +kernel
theorem dX5_encodeInteger_58 : decode cX5_encodeInteger 58 = .ok (.invokevirtual 42, 3) := by decide +kernel
theorem dX5_encodeInteger_61 : decode cX5_encodeInteger 61 = .ok (.aload_n 0, 1) := by decide +kernel
theorem dX5_encodeInteger_62 : decode cX5_encodeInteger 62 = .ok (.lload_n 3, 1) := by decide +kernel
theorem dX5_encodeInteger_63 : decode cX5_encodeInteger 63 = .ok (.invokevirtual 98, 3) := by decide +kernel
theorem dX5_encodeInteger_66 : decode cX5_encodeInteger 66 = .ok (.return_, 1) := by decide +kernel
theorem dX5_encodeItem_0 : decode cX5_encodeItem 0 = .ok (.aload_n 0, 1) := by decide +kernel
theorem dX5_encodeItem_1 : decode cX5_encodeItem 1 = .ok (.getfield 22, 3) := by decide +kernel
theorem dX5_encodeItem_4 : decode cX5_encodeItem 4 = .ok (.iload_n 1, 1) := by decide +kernel
theorem dX5_encodeItem_5 : decode cX5_encodeItem 5 = .ok (.invokevirtual 59, 3) := by decide +kernel
theorem dX5_encodeItem_8 : decode cX5_encodeItem 8 = .ok (.tableswitch 158 3 11 #[52, 60, 68, 79, 90, 105, 123, 142, 150], 52) := by decide +kernel
theorem dX5_encodeItem_60 : decode cX5_encodeItem 60 = .ok (.aload_n 0, 1) := by decide +kernel
theorem dX5_encodeItem_61 : decode cX5_encodeItem 61 = .ok (.iload_n 1, 1) := by decide +kernel
theorem dX5_encodeItem_62 : decode cX5_encodeItem 62 = .ok (.invokevirtual 63, 3) := by decide +kernel
theorem dX5_encodeItem_65 : decode cX5_encodeItem 65 = .ok (.goto 119, 3) := by decide +kernel
theorem dX5_encodeItem_68 : decode cX5_encodeItem 68 = .ok (.aload_n 0, 1) := by decide +kernel
theorem dX5_encodeItem_69 : decode cX5_encodeItem 69 = .ok (.iload_n 1, 1) := by decide +kernel
theorem dX5_encodeItem_70 : decode cX5_encodeItem 70 = .ok (.invokevirtual 66, 3) := by decide +kernel
theorem dX5_encodeItem_73 : decode cX5_encodeItem 73 = .ok (.goto 111, 3) := by decide +kernel
theorem dX5_encodeItem_76 : decode cX5_encodeItem 76 = .ok (.aload_n 0, 1) := by decide +kernel
theorem dX5_encodeItem_77 : decode cX5_encodeItem 77 = .ok (.iload_n 1, 1) := by decide +kernel
theorem dX5_encodeItem_78 : decode cX5_encodeItem 78 = .ok (.sipush 248, 3) := by decide +kernel
theorem dX5_encodeItem_81 : decode cX5_encodeItem 81 = .ok (.invokevirtual 69, 3) := by decide +kernel
theorem dX5_encodeItem_84 : decode cX5_encodeItem 84 = .ok (.goto 100, 3) := by decide +kernel
theorem dX5_encodeItem_87 : decode cX5_encodeItem 87 = .ok (.aload_n 0, 1) := by decide +kernel
theorem dX5_encodeItem_88 : decode cX5_encodeItem 88 = .ok (.iload_n 1, 1) := by decide +kernel
theorem dX5_encodeItem_89 : decode cX5_encodeItem 89 = .ok (.sipush 250, 3) := by decide +kernel
theorem dX5_encodeItem_92 : decode cX5_encodeItem 92 = .ok (.invokevirtual 69, 3) := by decide +kernel
theorem dX5_encodeItem_95 : decode cX5_encodeItem 95 = .ok (.goto 89, 3) := by decide +kernel
theorem dX5_encodeItem_98 : decode cX5_encodeItem 98 = .ok (.aload_n 0, 1) := by decide +kernel
theorem dX5_encodeItem_99 : decode cX5_encodeItem 99 = .ok (.aload_n 0, 1) := by decide +kernel
theorem dX5_encodeItem_100 : decode cX5_encodeItem 100 = .ok (.getfield 22, 3) := by decide +kernel
theorem dX5_encodeItem_103 : decode cX5_encodeItem 103 = .ok (.iload_n 1, 1) := by decide +kernel
theorem dX5_encodeItem_104 : decode cX5_encodeItem 104 = .ok (.invokevirtual 73, 3) := by decide +kernel
theorem dX5_encodeItem_107 : decode cX5_encodeItem 107 = .ok (.invokevirtual 77, 3) := by decide +kernel
theorem dX5_encodeItem_110 : decode cX5_encodeItem 110 = .ok (.goto 74, 3) := by decide +kernel
theorem dX5_encodeItem_113 : decode cX5_encodeItem 113 = .ok (.aload_n 0, 1) := by decide +kernel
theorem dX5_encodeItem_114 : decode cX5_encodeItem 114 = .ok (.bipush 40, 2) := by decide +kernel
theorem dX5_encodeItem_116 : decode cX5_encodeItem 116 = .ok (.aload_n 0, 1) := by decide +kernel
theorem dX5_encodeItem_117 : decode cX5_encodeItem 117 = .ok (.getfield 22, 3) := by decide +kernel
theorem dX5_encodeItem_120 : decode cX5_encodeItem 120 = .ok (.iload_n 1, 1) := by decide +kernel
theorem dX5_encodeItem_121 : decode cX5_encodeItem 121 = .ok (.invokevirtual 73, 3) := by decide +kernel
theorem dX5_encodeItem_124 : decode cX5_encodeItem 124 = .ok (.iconst 5, 1) := by decide +kernel
theorem dX5_encodeItem_125 : decode cX5_encodeItem 125 = .ok (.invokevirtual 81, 3) := by decide +kernel
theorem dX5_encodeItem_128 : decode cX5_encodeItem 128 = .ok (.goto 56, 3) := by decide +kernel
theorem dX5_encodeItem_131 : decode cX5_encodeItem 131 = .ok (.aload_n 0, 1) := by decide +kernel
theorem dX5_encodeItem_132 : decode cX5_encodeItem 132 = .ok (.bipush 41, 2) := by decide +kernel
theorem dX5_encodeItem_134 : decode cX5_encodeItem 134 = .ok (.aload_n 0, 1) := by decide +kernel
theorem dX5_encodeItem_135 : decode cX5_encodeItem 135 = .ok (.getfield 22, 3) := by decide +kernel
theorem dX5_encodeItem_138 : decode cX5_encodeItem 138 = .ok (.iload_n 1, 1) := by decide +kernel
theorem dX5_encodeItem_139 : decode cX5_encodeItem 139 = .ok (.invokevirtual 73, 3) := by decide +kernel
theorem dX5_encodeItem_142 : decode cX5_encodeItem 142 = .ok (.bipush 10, 2) := by decide +kernel
theorem dX5_encodeItem_144 : decode cX5_encodeItem 144 = .ok (.invokevirtual 81, 3) := by decide +kernel
theorem dX5_encodeItem_147 : decode cX5_encodeItem 147 = .ok (.goto 37, 3) := by decide +kernel
theorem dX5_encodeItem_150 : decode cX5_encodeItem 150 = .ok (.aload_n 0, 1) := by decide +kernel
theorem dX5_encodeItem_151 : decode cX5_encodeItem 151 = .ok (.iload_n 1, 1) := by decide +kernel
theorem dX5_encodeItem_152 : decode cX5_encodeItem 152 = .ok (.invokevirtual 85, 3) := by decide +kernel
theorem dX5_encodeItem_155 : decode cX5_encodeItem 155 = .ok (.goto 29, 3) := by decide +kernel
theorem dX5_encodeItem_158 : decode cX5_encodeItem 158 = .ok (.aload_n 0, 1) := by decide +kernel
theorem dX5_encodeItem_159 : decode cX5_encodeItem 159 = .ok (.iload_n 1, 1) := by decide +kernel
theorem dX5_encodeItem_160 : decode cX5_encodeItem 160 = .ok (.invokevirtual 88, 3) := by decide +kernel
theorem dX5_encodeItem_163 : decode cX5_encodeItem 163 = .ok (.goto 21, 3) := by decide +kernel
theorem dX5_encodeItem_166 : decode cX5_encodeItem 166 = .ok (.aload_n 0, 1) := by decide +kernel
theorem dX5_encodeItem_167 : decode cX5_encodeItem 167 = .ok (.getfield 30, 3) := by decide +kernel
theorem dX5_encodeItem_170 : decode cX5_encodeItem 170 = .ok (.bipush 33, 2) := by decide +kernel
theorem dX5_encodeItem_172 : decode cX5_encodeItem 172 = .ok (.aload_n 0, 1) := by decide +kernel
theorem dX5_encodeItem_173 : decode cX5_encodeItem 173 = .ok (.getfield 22, 3) := by decide +kernel
theorem dX5_encodeItem_176 : decode cX5_encodeItem 176 = .ok (.iload_n 1, 1) := by decide +kernel
theorem dX5_encodeItem_177 : decode cX5_encodeItem 177 = .ok (.invokevirtual 59, 3) := by decide +kernel
theorem dX5_encodeItem_180 : decode cX5_encodeItem 180 = .ok (.iadd, 1) := by decide +kernel
theorem dX5_encodeItem_181 : decode cX5_encodeItem 181 = .ok (.invokevirtual 42, 3) := by decide +kernel
theorem dX5_encodeItem_184 : decode cX5_encodeItem 184 = .ok (.return_, 1) := by decide +kernel
theorem dX5_encodeLong_0 : decode cX5_encodeLong 0 = .ok (.aload_n 0, 1) := by decide +kernel
theorem dX5_encodeLong_1 : decode cX5_encodeLong 1 = .ok (.getfield 30, 3) := by decide +kernel
theorem dX5_encodeLong_4 : decode cX5_encodeLong 4 = .ok (.iload_n 2, 1) := by decide +kernel
theorem dX5_encodeLong_5 : decode cX5_encodeLong 5 = .ok (.invokevirtual 42, 3) := by decide +kernel
theorem dX5_encodeLong_8 : decode cX5_encodeLong 8 = .ok (.aload_n 0, 1) := by decide +kernel
theorem dX5_encodeLong_9 : decode cX5_encodeLong 9 = .ok (.getfield 22, 3) := by decide +kernel
theorem dX5_encodeLong_12 : decode cX5_encodeLong 12 = .ok (.iload_n 1, 1) := by decide +kernel
theorem dX5_encodeLong_13 : decode cX5_encodeLong 13 = .ok (.aload_n 0, 1) := by decide +kernel
theorem dX5_encodeLong_14 : decode cX5_encodeLong 14 = .ok (.getfield 30, 3) := by decide +kernel
theorem dX5_encodeLong_17 : decode cX5_encodeLong 17 = .ok (.invokevirtual 129, 3) := by decide +kernel
theorem dX5_encodeLong_20 : decode cX5_encodeLong 20 = .ok (.aload_n 0, 1) := by decide +kernel
theorem dX5_encodeLong_21 : decode cX5_encodeLong 21 = .ok (.getfield 30, 3) := by decide +kernel
theorem dX5_encodeLong_24 : decode cX5_encodeLong 24 = .ok (.sipush 252, 3) := by decide +kernel
theorem dX5_encodeLong_27 : decode cX5_encodeLong 27 = .ok (.invokevirtual 42, 3) := by decide +kernel
theorem dX5_encodeLong_30 : decode cX5_encodeLong 30 = .ok (.return_, 1) := by decide +kernel
theorem dX5_encodeName_0 : decode cX5_encodeName 0 = .ok (.aload_n 0, 1) := by decide +kernel
theorem dX5_encodeName_1 : decode cX5_encodeName 1 = .ok (.getfield 22, 3) := by decide +kernel
theorem dX5_encodeName_4 : decode cX5_encodeName 4 = .ok (.iload_n 1, 1) := by decide +kernel
theorem dX5_encodeName_5 : decode cX5_encodeName 5 = .ok (.invokevirtual 101, 3) := by decide +kernel
theorem dX5_encodeName_8 : decode cX5_encodeName 8 = .ok (.istore_n 2, 1) := by decide +kernel
theorem dX5_encodeName_9 : decode cX5_encodeName 9 = .ok (.aload_n 0, 1) := by decide +kernel
theorem dX5_encodeName_10 : decode cX5_encodeName 10 = .ok (.getfield 22, 3) := by decide +kernel
theorem dX5_encodeName_13 : decode cX5_encodeName 13 = .ok (.iload_n 1, 1) := by decide +kernel
theorem dX5_encodeName_14 : decode cX5_encodeName 14 = .ok (.invokevirtual 104, 3) := by decide +kernel
theorem dX5_encodeName_17 : decode cX5_encodeName 17 = .ok (.istore_n 3, 1) := by decide +kernel
theorem dX5_encodeName_18 : decode cX5_encodeName 18 = .ok (.aload_n 0, 1) := by decide +kernel
theorem dX5_encodeName_19 : decode cX5_encodeName 19 = .ok (.getfield 26, 3) := by decide +kernel
theorem dX5_encodeName_22 : decode cX5_encodeName 22 = .ok (.iconst 1, 1) := by decide +kernel
theorem dX5_encodeName_23 : decode cX5_encodeName 23 = .ok (.iand, 1) := by decide +kernel
theorem dX5_encodeName_24 : decode cX5_encodeName 24 = .ok (.ifCond .eq 14, 3) := by decide +kernel
theorem dX5_encodeName_27 : decode cX5_encodeName 27 = .ok (.iload_n 2, 1) := by decide +kernel
theorem dX5_encodeName_28 : decode cX5_encodeName 28 = .ok (.invokestatic 108, 3) := by decide +kernel
theorem dX5_encodeName_31 : decode cX5_encodeName 31 = .ok (.ifCond .eq 7, 3) := by decide +kernel
theorem dX5_encodeName_34 : decode cX5_encodeName 34 = .ok (.iconst 1, 1) := by decide +kernel
theorem dX5_encodeName_35 : decode cX5_encodeName 35 = .ok (.goto 4, 3) := by decide +kernel
theorem dX5_encodeName_38 : decode cX5_encodeName 38 = .ok (.iconst 0, 1) := by decide +kernel
theorem dX5_encodeName_39 : decode cX5_encodeName 39 = .ok (.istore 4, 2) := by decide +kernel
theorem dX5_encodeName_41 : decode cX5_encodeName 41 = .ok (.iload 4, 2) := by decide +kernel
theorem dX5_encodeName_43 : decode cX5_encodeName 43 = .ok (.ifCond .eq 18, 3) := by decide +kernel
theorem dX5_encodeName_46 : decode cX5_encodeName 46 = .ok (.aload_n 0, 1) := by decide +kernel
theorem dX5_encodeName_47 : decode cX5_encodeName 47 = .ok (.getfield 15, 3) := by decide +kernel
theorem dX5_encodeName_50 : decode cX5_encodeName 50 = .ok (.aload_n 0, 1) := by decide +kernel
theorem dX5_encodeName_51 : decode cX5_encodeName 51 = .ok (.getfield 22, 3) := by decide +kernel
theorem dX5_encodeName_54 : decode cX5_encodeName 54 = .ok (.iload_n 1, 1) := by decide +kernel
theorem dX5_encodeName_55 : decode cX5_encodeName 55 = .ok (.invokevirtual 111, 3) := by decide +kernel
theorem dX5_encodeName_58 : decode cX5_encodeName 58 = .ok (.goto 4, 3) := by decide +kernel
theorem dX5_encodeName_61 : decode cX5_encodeName 61 = .ok (.iconst (-1), 1) := by decide +kernel
theorem dX5_encodeName_62 : decode cX5_encodeName 62 = .ok (.istore 5, 2) := by decide +kernel
theorem dX5_encodeName_64 : decode cX5_encodeName 64 = .ok (.iload 4, 2) := by decide +kernel
theorem dX5_encodeName_66 : decode cX5_encodeName 66 = .ok (.ifCond .eq 21, 3) := by decide +kernel
theorem dX5_encodeName_69 : decode cX5_encodeName 69 = .ok (.iload 5, 2) := by decide +kernel
theorem dX5_encodeName_71 : decode cX5_encodeName 71 = .ok (.iconst (-1), 1) := by decide +kernel
theorem dX5_encodeName_72 : decode cX5_encodeName 72 = .ok (.if_icmp .ne 15, 3) := by decide +kernel
theorem dX5_encodeName_75 : decode cX5_encodeName 75 = .ok (.aload_n 0, 1) := by decide +kernel
theorem dX5_encodeName_76 : decode cX5_encodeName 76 = .ok (.getfield 15, 3) := by decide +kernel
theorem dX5_encodeName_79 : decode cX5_encodeName 79 = .ok (.aload_n 0, 1) := by decide +kernel
theorem dX5_encodeName_80 : decode cX5_encodeName 80 = .ok (.getfield 22, 3) := by decide +kernel
theorem dX5_encodeName_83 : decode cX5_encodeName 83 = .ok (.iload_n 1, 1) := by decide +kernel
theorem dX5_encodeName_84 : decode cX5_encodeName 84 = .ok (.invokevirtual 115, 3) := by decide +kernel
theorem dX5_encodeName_87 : decode cX5_encodeName 87 = .ok (.iload 5, 2) := by decide +kernel
theorem dX5_encodeName_89 : decode cX5_encodeName 89 = .ok (.iconst (-1), 1) := by decide +kernel
theorem dX5_encodeName_90 : decode cX5_encodeName 90 = .ok (.if_icmp .eq 18, 3) := by decide +kernel
theorem dX5_encodeName_93 : decode cX5_encodeName 93 = .ok (.aload_n 0, 1) := by decide +kernel
theorem dX5_encodeName_94 : decode cX5_encodeName 94 = .ok (.iload 5, 2) := by decide +kernel
theorem dX5_encodeName_96 : decode cX5_encodeName 96 = .ok (.bipush 64, 2) := by decide +kernel
theorem dX5_encodeName_98 : decode cX5_encodeName 98 = .ok (.bipush 64, 2) := by decide +kernel
theorem dX5_encodeName_100 : decode cX5_encodeName 100 = .ok (.bipush 48, 2) := by decide +kernel
theorem dX5_encodeName_102 : decode cX5_encodeName 102 = .ok (.invokevirtual 119, 3) := by decide +kernel
theorem dX5_encodeName_105 : decode cX5_encodeName 105 = .ok (.goto 70, 3) := by decide +kernel
theorem dX5_encodeName_108 : decode cX5_encodeName 108 = .ok (.iload_n 2, 1) := by decide +kernel
theorem dX5_encodeName_109 : decode cX5_encodeName 109 = .ok (.ifCond .ne 15, 3) := by decide +kernel
theorem dX5_encodeName_112 : decode cX5_encodeName 112 = .ok (.aload_n 0, 1) := by decide +kernel
theorem dX5_encodeName_113 : decode cX5_encodeName 113 = .ok (.getfield 30, 3) := by decide +kernel
theorem dX5_encodeName_116 : decode cX5_encodeName 116 = .ok (.bipush 32, 2) := by decide +kernel
theorem dX5_encodeName_118 : decode cX5_encodeName 118 = .ok (.invokevirtual 42, 3) := by decide +kernel
theorem dX5_encodeName_121 : decode cX5_encodeName 121 = .ok (.goto 54, 3) := by decide +kernel
theorem dX5_encodeName_124 : decode cX5_encodeName 124 = .ok (.iload_n 2, 1) := by decide +kernel
theorem dX5_encodeName_125 : decode cX5_encodeName 125 = .ok (.iload_n 3, 1) := by decide +kernel
theorem dX5_encodeName_126 : decode cX5_encodeName 126 = .ok (.ifCond .eq 8, 3) := by decide +kernel
theorem dX5_encodeName_129 : decode cX5_encodeName 129 = .ok (.bipush 64, 2) := by decide +kernel
theorem dX5_encodeName_131 : decode cX5_encodeName 131 = .ok (.goto 5, 3) := by decide +kernel
theorem dX5_encodeName_134 : decode cX5_encodeName 134 = .ok (.bipush 57, 2) := by decide +kernel
theorem dX5_encodeName_136 : decode cX5_encodeName 136 = .ok (.if_icmp .le 13, 3) := by decide +kernel
theorem dX5_encodeName_139 : decode cX5_encodeName 139 = .ok (.aload_n 0, 1) := by decide +kernel
theorem dX5_encodeName_140 : decode cX5_encodeName 140 = .ok (.iload_n 1, 1) := by decide +kernel
theorem dX5_encodeName_141 : decode cX5_encodeName 141 = .ok (.bipush 52, 2) := by decide +kernel
theorem dX5_encodeName_143 : decode cX5_encodeName 143 = .ok (.invokevirtual 123, 3) := by decide +kernel
theorem dX5_encodeName_146 : decode cX5_encodeName 146 = .ok (.goto 29, 3) := by decide +kernel
theorem dX5_encodeName_149 : decode cX5_encodeName 149 = .ok (.aload_n 0, 1) := by decide +kernel
theorem dX5_encodeName_150 : decode cX5_encodeName 150 = .ok (.iload_n 1, 1) := by decide +kernel
theorem dX5_encodeName_151 : decode cX5_encodeName 151 = .ok (.iload_n 3, 1) := by decide +kernel
theorem dX5_encodeName_152 : decode cX5_encodeName 152 = .ok (.ifCond .eq 13, 3) := by decide +kernel
theorem dX5_encodeName_155 : decode cX5_encodeName 155 = .ok (.sipush 128, 3) := by decide +kernel
theorem dX5_encodeName_158 : decode cX5_encodeName 158 = .ok (.iload_n 2, 1) := by decide +kernel
theorem dX5_encodeName_159 : decode cX5_encodeName 159 = .ok (.iadd, 1) := by decide +kernel
theorem dX5_encodeName_160 : decode cX5_encodeName 160 = .ok (.iconst 1, 1) := by decide +kernel
theorem dX5_encodeName_161 : decode cX5_encodeName 161 = .ok (.isub, 1) := by decide +kernel
theorem dX5_encodeName_162 : decode cX5_encodeName 162 = .ok (.goto 10, 3) := by decide +kernel
theorem dX5_encodeName_165 : decode cX5_encodeName 165 = .ok (.sipush 192, 3) := by decide +kernel
theorem dX5_encodeName_168 : decode cX5_encodeName 168 = .ok (.iload_n 2, 1) := by decide +kernel
theorem dX5_encodeName_169 : decode cX5_encodeName 169 = .ok (.iadd, 1) := by decide +kernel
theorem dX5_encodeName_170 : decode cX5_encodeName 170 = .ok (.iconst 2, 1) := by decide +kernel
theorem dX5_encodeName_171 : decode cX5_encodeName 171 = .ok (.isub, 1) := by decide +kernel
theorem dX5_encodeName_172 : decode cX5_encodeName 172 = .ok (.invokevirtual 126, 3) := by decide +kernel
theorem dX5_encodeName_175 : decode cX5_encodeName 175 = .ok (.return_, 1) := by decide +kernel
theorem dX5_encodeOpening_0 : decode cX5_encodeOpening 0 = .ok (.aload_n 0, 1) := by decide +kernel
theorem dX5_encodeOpening_1 : decode cX5_encodeOpening 1 = .ok (.getfield 22, 3) := by decide +kernel
theorem dX5_encodeOpening_4 : decode cX5_encodeOpening 4 = .ok (.iload_n 1, 1) := by decide +kernel
theorem dX5_encodeOpening_5 : decode cX5_encodeOpening 5 = .ok (.invokevirtual 91, 3) := by decide +kernel
theorem dX5_encodeOpening_8 : decode cX5_encodeOpening 8 = .ok (.istore_n 3, 1) := by decide +kernel
theorem dX5_encodeOpening_9 : decode cX5_encodeOpening 9 = .ok (.iload_n 3, 1) := by decide +kernel
theorem dX5_encodeOpening_10 : decode cX5_encodeOpening 10 = .ok (.ifCond .lt 23, 3) := by decide +kernel
theorem dX5_encodeOpening_13 : decode cX5_encodeOpening 13 = .ok (.iload_n 3, 1) := by decide +kernel
theorem dX5_encodeOpening_14 : decode cX5_encodeOpening 14 = .ok (.bipush 30, 2) := by decide +kernel
theorem dX5_encodeOpening_16 : decode cX5_encodeOpening 16 = .ok (.if_icmp .ge 17, 3) := by decide +kernel
theorem dX5_encodeOpening_19 : decode cX5_encodeOpening 19 = .ok (.aload_n 0, 1) := by decide +kernel
theorem dX5_encodeOpening_20 : decode cX5_encodeOpening 20 = .ok (.getfield 9, 3) := by decide +kernel
theorem dX5_encodeOpening_23 : decode cX5_encodeOpening 23 = .ok (.iload_n 3, 1) := by decide +kernel
theorem dX5_encodeOpening_24 : decode cX5_encodeOpening 24 = .ok (.aload_n 0, 1) := by decide +kernel
theorem dX5_encodeOpening_25 : decode cX5_encodeOpening 25 = .ok (.getfield 22, 3) := by decide +kernel
theorem dX5_encodeOpening_28 : decode cX5_encodeOpening 28 = .ok (.iload_n 1, 1) := by decide +kernel
theorem dX5_encodeOpening_29 : decode cX5_encodeOpening 29 = .ok (.invokevirtual 59, 3) := by decide +kernel
theorem dX5_encodeOpening_32 : decode cX5_encodeOpening 32 = .ok (.iastore, 1) := by decide +kernel
theorem dX5_encodeOpening_33 : decode cX5_encodeOpening 33 = .ok (.aload_n 0, 1) := by decide +kernel
theorem dX5_encodeOpening_34 : decode cX5_encodeOpening 34 = .ok (.getfield 30, 3) := by decide +kernel
theorem dX5_encodeOpening_37 : decode cX5_encodeOpening 37 = .ok (.iload_n 2, 1) := by decide +kernel
theorem dX5_encodeOpening_38 : decode cX5_encodeOpening 38 = .ok (.invokevirtual 42, 3) := by decide +kernel
theorem dX5_encodeOpening_41 : decode cX5_encodeOpening 41 = .ok (.return_, 1) := by decide +kernel
theorem dX5_encodePlace_0 : decode cX5_encodePlace 0 = .ok (.iload_n 1, 1) := by decide +kernel
theorem dX5_encodePlace_1 : decode cX5_encodePlace 1 = .ok (.iload_n 2, 1) := by decide +kernel
theorem dX5_encodePlace_2 : decode cX5_encodePlace 2 = .ok (.if_icmp .ge 16, 3) := by decide +kernel
theorem dX5_encodePlace_5 : decode cX5_encodePlace 5 = .ok (.aload_n 0, 1) := by decide +kernel
theorem dX5_encodePlace_6 : decode cX5_encodePlace 6 = .ok (.getfield 30, 3) := by decide +kernel
theorem dX5_encodePlace_9 : decode cX5_encodePlace 9 = .ok (.iload_n 3, 1) := by decide +kernel
theorem dX5_encodePlace_10 : decode cX5_encodePlace 10 = .ok (.iload_n 1, 1) := by decide +kernel
theorem dX5_encodePlace_11 : decode cX5_encodePlace 11 = .ok (.iadd, 1) := by decide +kernel
theorem dX5_encodePlace_12 : decode cX5_encodePlace 12 = .ok (.invokevirtual 42, 3) := by decide +kernel
theorem dX5_encodePlace_15 : decode cX5_encodePlace 15 = .ok (.goto 26, 3) := by decide +kernel
theorem dX5_encodePlace_18 : decode cX5_encodePlace 18 = .ok (.aload_n 0, 1) := by decide +kernel
theorem dX5_encodePlace_19 : decode cX5_encodePlace 19 = .ok (.getfield 30, 3) := by decide +kernel
theorem dX5_encodePlace_22 : decode cX5_encodePlace 22 = .ok (.iload 4, 2) := by decide +kernel
theorem dX5_encodePlace_24 : decode cX5_encodePlace 24 = .ok (.iload_n 1, 1) := by decide +kernel
theorem dX5_encodePlace_25 : decode cX5_encodePlace 25 = .ok (.sipush 256, 3) := by decide +kernel
theorem dX5_encodePlace_28 : decode cX5_encodePlace 28 = .ok (.idiv, 1) := by decide +kernel
theorem dX5_encodePlace_29 : decode cX5_encodePlace 29 = .ok (.iadd, 1) := by decide +kernel
theorem dX5_encodePlace_30 : decode cX5_encodePlace 30 = .ok (.invokevirtual 42, 3) := by decide +kernel
theorem dX5_encodePlace_33 : decode cX5_encodePlace 33 = .ok (.aload_n 0, 1) := by decide +kernel
theorem dX5_encodePlace_34 : decode cX5_encodePlace 34 = .ok (.getfield 30, 3) := by decide +kernel
theorem dX5_encodePlace_37 : decode cX5_encodePlace 37 = .ok (.iload_n 1, 1) := by decide +kernel
theorem dX5_encodePlace_38 : decode cX5_encodePlace 38 = .ok (.invokevirtual 42, 3) := by decide +kernel
theorem dX5_encodePlace_41 : decode cX5_encodePlace 41 = .ok (.return_, 1) := by decide +kernel
theorem dX5_encodeReal_0 : decode cX5_encodeReal 0 = .ok (.aload_n 0, 1) := by decide +kernel
theorem dX5_encodeReal_1 : decode cX5_encodeReal 1 = .ok (.getfield 30, 3) := by decide +kernel
theorem dX5_encodeReal_4 : decode cX5_encodeReal 4 = .ok (.iload_n 1, 1) := by decide +kernel
theorem dX5_encodeReal_5 : decode cX5_encodeReal 5 = .ok (.invokevirtual 42, 3) := by decide +kernel
theorem dX5_encodeReal_8 : decode cX5_encodeReal 8 = .ok (.iload 4, 2) := by decide +kernel
theorem dX5_encodeReal_10 : decode cX5_encodeReal 10 = .ok (.iconst 1, 1) := by decide +kernel
theorem dX5_encodeReal_11 : decode cX5_encodeReal 11 = .ok (.isub, 1) := by decide +kernel
theorem dX5_encodeReal_12 : decode cX5_encodeReal 12 = .ok (.istore 5, 2) := by decide +kernel
theorem dX5_encodeReal_14 : decode cX5_encodeReal 14 = .ok (.iload 5, 2) := by decide +kernel
theorem dX5_encodeReal_16 : decode cX5_encodeReal 16 = .ok (.ifCond .lt 27, 3) := by decide +kernel
theorem dX5_encodeReal_19 : decode cX5_encodeReal 19 = .ok (.aload_n 0, 1) := by decide +kernel
theorem dX5_encodeReal_20 : decode cX5_encodeReal 20 = .ok (.getfield 30, 3) := by decide +kernel
theorem dX5_encodeReal_23 : decode cX5_encodeReal 23 = .ok (.lload_n 2, 1) := by decide +kernel
theorem dX5_encodeReal_24 : decode cX5_encodeReal 24 = .ok (.bipush 7, 2) := by decide +kernel
theorem dX5_encodeReal_26 : decode cX5_encodeReal 26 = .ok (.iload 5, 2) := by decide +kernel
theorem dX5_encodeReal_28 : decode cX5_encodeReal 28 = .ok (.imul, 1) := by decide +kernel
theorem dX5_encodeReal_29 : decode cX5_encodeReal 29 = .ok (.lushr, 1) := by decide +kernel
theorem dX5_encodeReal_30 : decode cX5_encodeReal 30 = .ok (.l2i, 1) := by decide +kernel
theorem dX5_encodeReal_31 : decode cX5_encodeReal 31 = .ok (.bipush 127, 2) := by decide +kernel
theorem dX5_encodeReal_33 : decode cX5_encodeReal 33 = .ok (.iand, 1) := by decide +kernel
theorem dX5_encodeReal_34 : decode cX5_encodeReal 34 = .ok (.invokevirtual 42, 3) := by decide +kernel
theorem dX5_encodeReal_37 : decode cX5_encodeReal 37 = .ok (.iinc 5 (-1), 3) := by decide +kernel
theorem dX5_encodeReal_40 : decode cX5_encodeReal 40 = .ok (.goto (-26), 3) := by decide +kernel
theorem dX5_encodeReal_43 : decode cX5_encodeReal 43 = .ok (.return_, 1) := by decide +kernel
theorem dX5_encodeShort_0 : decode cX5_encodeShort 0 = .ok (.aload_n 0, 1) := by decide +kernel
theorem dX5_encodeShort_1 : decode cX5_encodeShort 1 = .ok (.getfield 30, 3) := by decide +kernel
theorem dX5_encodeShort_4 : decode cX5_encodeShort 4 = .ok (.iload_n 2, 1) := by decide +kernel
theorem dX5_encodeShort_5 : decode cX5_encodeShort 5 = .ok (.invokevirtual 42, 3) := by decide +kernel
theorem dX5_encodeShort_8 : decode cX5_encodeShort 8 = .ok (.aload_n 0, 1) := by decide +kernel
theorem dX5_encodeShort_9 : decode cX5_encodeShort 9 = .ok (.getfield 22, 3) := by decide +kernel
theorem dX5_encodeShort_12 : decode cX5_encodeShort 12 = .ok (.iload_n 1, 1) := by decide +kernel
theorem dX5_encodeShort_13 : decode cX5_encodeShort 13 = .ok (.aload_n 0, 1) := by decide +kernel
theorem dX5_encodeShort_14 : decode cX5_encodeShort 14 = .ok (.getfield 30, 3) := by decide +kernel
theorem dX5_encodeShort_17 : decode cX5_encodeShort 17 = .ok (.invokevirtual 129, 3) := by decide +kernel
theorem dX5_encodeShort_20 : decode cX5_encodeShort 20 = .ok (.return_, 1) := by decide +kernel
theorem dX5_encodeText_0 : decode cX5_encodeText 0 = .ok (.aload_n 0, 1) := by decide +kernel
theorem dX5_encodeText_1 : decode cX5_encodeText 1 = .ok (.getfield 22, 3) := by decide +kernel
theorem dX5_encodeText_4 : decode cX5_encodeText 4 = .ok (.iload_n 1, 1) := by decide +kernel
theorem dX5_encodeText_5 : decode cX5_encodeText 5 = .ok (.invokevirtual 101, 3) := by decide +kernel
theorem dX5_encodeText_8 : decode cX5_encodeText 8 = .ok (.istore_n 2, 1) := by decide +kernel
theorem dX5_encodeText_9 : decode cX5_encodeText 9 = .ok (.aload_n 0, 1) := by decide +kernel
theorem dX5_encodeText_10 : decode cX5_encodeText 10 = .ok (.getfield 22, 3) := by decide +kernel
theorem dX5_encodeText_13 : decode cX5_encodeText 13 = .ok (.iload_n 1, 1) := by decide +kernel
theorem dX5_encodeText_14 : decode cX5_encodeText 14 = .ok (.invokevirtual 104, 3) := by decide +kernel
theorem dX5_encodeText_17 : decode cX5_encodeText 17 = .ok (.istore_n 3, 1) := by decide +kernel
theorem dX5_encodeText_18 : decode cX5_encodeText 18 = .ok (.aload_n 0, 1) := by decide +kernel
theorem dX5_encodeText_19 : decode cX5_encodeText 19 = .ok (.getfield 26, 3) := by decide +kernel
theorem dX5_encodeText_22 : decode cX5_encodeText 22 = .ok (.iconst 2, 1) := by decide +kernel
theorem dX5_encodeText_23 : decode cX5_encodeText 23 = .ok (.iand, 1) := by decide +kernel
theorem dX5_encodeText_24 : decode cX5_encodeText 24 = .ok (.ifCond .eq 14, 3) := by decide +kernel
theorem dX5_encodeText_27 : decode cX5_encodeText 27 = .ok (.iload_n 2, 1) := by decide +kernel
theorem dX5_encodeText_28 : decode cX5_encodeText 28 = .ok (.invokestatic 108, 3) := by decide +kernel
theorem dX5_encodeText_31 : decode cX5_encodeText 31 = .ok (.ifCond .eq 7, 3) := by decide +kernel
theorem dX5_encodeText_34 : decode cX5_encodeText 34 = .ok (.iconst 1, 1) := by decide +kernel
theorem dX5_encodeText_35 : decode cX5_encodeText 35 = .ok (.goto 4, 3) := by decide +kernel
theorem dX5_encodeText_38 : decode cX5_encodeText 38 = .ok (.iconst 0, 1) := by decide +kernel
theorem dX5_encodeText_39 : decode cX5_encodeText 39 = .ok (.istore 4, 2) := by decide +kernel
theorem dX5_encodeText_41 : decode cX5_encodeText 41 = .ok (.iload 4, 2) := by decide +kernel
theorem dX5_encodeText_43 : decode cX5_encodeText 43 = .ok (.ifCond .eq 18, 3) := by decide +kernel
theorem dX5_encodeText_46 : decode cX5_encodeText 46 = .ok (.aload_n 0, 1) := by decide +kernel
theorem dX5_encodeText_47 : decode cX5_encodeText 47 = .ok (.getfield 19, 3) := by decide +kernel
theorem dX5_encodeText_50 : decode cX5_encodeText 50 = .ok (.aload_n 0, 1) := by decide +kernel
theorem dX5_encodeText_51 : decode cX5_encodeText 51 = .ok (.getfield 22, 3) := by decide +kernel
theorem dX5_encodeText_54 : decode cX5_encodeText 54 = .ok (.iload_n 1, 1) := by decide +kernel
theorem dX5_encodeText_55 : decode cX5_encodeText 55 = .ok (.invokevirtual 111, 3) := by decide +kernel
theorem dX5_encodeText_58 : decode cX5_encodeText 58 = .ok (.goto 4, 3) := by decide +kernel
theorem dX5_encodeText_61 : decode cX5_encodeText 61 = .ok (.iconst (-1), 1) := by decide +kernel
theorem dX5_encodeText_62 : decode cX5_encodeText 62 = .ok (.istore 5, 2) := by decide +kernel
theorem dX5_encodeText_64 : decode cX5_encodeText 64 = .ok (.iload 4, 2) := by decide +kernel
theorem dX5_encodeText_66 : decode cX5_encodeText 66 = .ok (.ifCond .eq 21, 3) := by decide +kernel
theorem dX5_encodeText_69 : decode cX5_encodeText 69 = .ok (.iload 5, 2) := by decide +kernel
theorem dX5_encodeText_71 : decode cX5_encodeText 71 = .ok (.iconst (-1), 1) := by decide +kernel
theorem dX5_encodeText_72 : decode cX5_encodeText 72 = .ok (.if_icmp .ne 15, 3) := by decide +kernel
theorem dX5_encodeText_75 : decode cX5_encodeText 75 = .ok (.aload_n 0, 1) := by decide +kernel
theorem dX5_encodeText_76 : decode cX5_encodeText 76 = .ok (.getfield 19, 3) := by decide +kernel
theorem dX5_encodeText_79 : decode cX5_encodeText 79 = .ok (.aload_n 0, 1) := by decide +kernel
theorem dX5_encodeText_80 : decode cX5_encodeText 80 = .ok (.getfield 22, 3) := by decide +kernel
theorem dX5_encodeText_83 : decode cX5_encodeText 83 = .ok (.iload_n 1, 1) := by decide +kernel
theorem dX5_encodeText_84 : decode cX5_encodeText 84 = .ok (.invokevirtual 115, 3) := by decide +kernel
theorem dX5_encodeText_87 : decode cX5_encodeText 87 = .ok (.iload 5, 2) := by decide +kernel
theorem dX5_encodeText_89 : decode cX5_encodeText 89 = .ok (.iconst (-1), 1) := by decide +kernel
theorem dX5_encodeText_90 : decode cX5_encodeText 90 = .ok (.if_icmp .eq 18, 3) := by decide +kernel
theorem dX5_encodeText_93 : decode cX5_encodeText 93 = .ok (.aload_n 0, 1) := by decide +kernel
theorem dX5_encodeText_94 : decode cX5_encodeText 94 = .ok (.iload 5, 2) := by decide +kernel
theorem dX5_encodeText_96 : decode cX5_encodeText 96 = .ok (.bipush 31, 2) := by decide +kernel
theorem dX5_encodeText_98 : decode cX5_encodeText 98 = .ok (.iconst 1, 1) := by decide +kernel
theorem dX5_encodeText_99 : decode cX5_encodeText 99 = .ok (.sipush 236, 3) := by decide +kernel
theorem dX5_encodeText_102 : decode cX5_encodeText 102 = .ok (.invokevirtual 119, 3) := by decide +kernel
theorem dX5_encodeText_105 : decode cX5_encodeText 105 = .ok (.goto 71, 3) := by decide +kernel
theorem dX5_encodeText_108 : decode cX5_encodeText 108 = .ok (.iload_n 2, 1) := by decide +kernel
theorem dX5_encodeText_109 : decode cX5_encodeText 109 = .ok (.ifCond .ne 15, 3) := by decide +kernel
theorem dX5_encodeText_112 : decode cX5_encodeText 112 = .ok (.aload_n 0, 1) := by decide +kernel
theorem dX5_encodeText_113 : decode cX5_encodeText 113 = .ok (.getfield 30, 3) := by decide +kernel
theorem dX5_encodeText_116 : decode cX5_encodeText 116 = .ok (.bipush 32, 2) := by decide +kernel
theorem dX5_encodeText_118 : decode cX5_encodeText 118 = .ok (.invokevirtual 42, 3) := by decide +kernel
theorem dX5_encodeText_121 : decode cX5_encodeText 121 = .ok (.goto 55, 3) := by decide +kernel
theorem dX5_encodeText_124 : decode cX5_encodeText 124 = .ok (.iload_n 2, 1) := by decide +kernel
theorem dX5_encodeText_125 : decode cX5_encodeText 125 = .ok (.bipush 64, 2) := by decide +kernel
theorem dX5_encodeText_127 : decode cX5_encodeText 127 = .ok (.if_icmp .le 24, 3) := by decide +kernel
theorem dX5_encodeText_130 : decode cX5_encodeText 130 = .ok (.aload_n 0, 1) := by decide +kernel
theorem dX5_encodeText_131 : decode cX5_encodeText 131 = .ok (.iload_n 1, 1) := by decide +kernel
theorem dX5_encodeText_132 : decode cX5_encodeText 132 = .ok (.iload_n 3, 1) := by decide +kernel
theorem dX5_encodeText_133 : decode cX5_encodeText 133 = .ok (.ifCond .eq 9, 3) := by decide +kernel
theorem dX5_encodeText_136 : decode cX5_encodeText 136 = .ok (.sipush 224, 3) := by decide +kernel
theorem dX5_encodeText_139 : decode cX5_encodeText 139 = .ok (.goto 6, 3) := by decide +kernel
theorem dX5_encodeText_142 : decode cX5_encodeText 142 = .ok (.sipush 228, 3) := by decide +kernel
theorem dX5_encodeText_145 : decode cX5_encodeText 145 = .ok (.invokevirtual 123, 3) := by decide +kernel
theorem dX5_encodeText_148 : decode cX5_encodeText 148 = .ok (.goto 28, 3) := by decide +kernel
theorem dX5_encodeText_151 : decode cX5_encodeText 151 = .ok (.aload_n 0, 1) := by decide +kernel
theorem dX5_encodeText_152 : decode cX5_encodeText 152 = .ok (.iload_n 1, 1) := by decide +kernel
theorem dX5_encodeText_153 : decode cX5_encodeText 153 = .ok (.iload_n 3, 1) := by decide +kernel
theorem dX5_encodeText_154 : decode cX5_encodeText 154 = .ok (.ifCond .eq 12, 3) := by decide +kernel
theorem dX5_encodeText_157 : decode cX5_encodeText 157 = .ok (.bipush 64, 2) := by decide +kernel
theorem dX5_encodeText_159 : decode cX5_encodeText 159 = .ok (.iload_n 2, 1) := by decide +kernel
theorem dX5_encodeText_160 : decode cX5_encodeText 160 = .ok (.iadd, 1) := by decide +kernel
theorem dX5_encodeText_161 : decode cX5_encodeText 161 = .ok (.iconst 1, 1) := by decide +kernel
theorem dX5_encodeText_162 : decode cX5_encodeText 162 = .ok (.isub, 1) := by decide +kernel
theorem dX5_encodeText_163 : decode cX5_encodeText 163 = .ok (.goto 10, 3) := by decide +kernel
theorem dX5_encodeText_166 : decode cX5_encodeText 166 = .ok (.sipush 128, 3) := by decide +kernel
theorem dX5_encodeText_169 : decode cX5_encodeText 169 = .ok (.iload_n 2, 1) := by decide +kernel
theorem dX5_encodeText_170 : decode cX5_encodeText 170 = .ok (.iadd, 1) := by decide +kernel
theorem dX5_encodeText_171 : decode cX5_encodeText 171 = .ok (.iconst 2, 1) := by decide +kernel
theorem dX5_encodeText_172 : decode cX5_encodeText 172 = .ok (.isub, 1) := by decide +kernel
theorem dX5_encodeText_173 : decode cX5_encodeText 173 = .ok (.invokevirtual 126, 3) := by decide +kernel
theorem dX5_encodeText_176 : decode cX5_encodeText 176 = .ok (.return_, 1) := by decide +kernel
theorem dX5_pushBitsOf_0 : decode cX5_pushBitsOf 0 = .ok (.iconst 0, 1) := by decide +kernel
theorem dX5_pushBitsOf_1 : decode cX5_pushBitsOf 1 = .ok (.istore_n 2, 1) := by decide +kernel
theorem dX5_pushBitsOf_2 : decode cX5_pushBitsOf 2 = .ok (.iconst 0, 1) := by decide +kernel
theorem dX5_pushBitsOf_3 : decode cX5_pushBitsOf 3 = .ok (.istore_n 3, 1) := by decide +kernel
theorem dX5_pushBitsOf_4 : decode cX5_pushBitsOf 4 = .ok (.iconst 0, 1) := by decide +kernel
theorem dX5_pushBitsOf_5 : decode cX5_pushBitsOf 5 = .ok (.istore 4, 2) := by decide +kernel
theorem dX5_pushBitsOf_7 : decode cX5_pushBitsOf 7 = .ok (.iload 4, 2) := by decide +kernel
theorem dX5_pushBitsOf_9 : decode cX5_pushBitsOf 9 = .ok (.aload_n 0, 1) := by decide +kernel
theorem dX5_pushBitsOf_10 : decode cX5_pushBitsOf 10 = .ok (.getfield 22, 3) := by decide +kernel
theorem dX5_pushBitsOf_13 : decode cX5_pushBitsOf 13 = .ok (.iload_n 1, 1) := by decide +kernel
theorem dX5_pushBitsOf_14 : decode cX5_pushBitsOf 14 = .ok (.invokevirtual 101, 3) := by decide +kernel
theorem dX5_pushBitsOf_17 : decode cX5_pushBitsOf 17 = .ok (.if_icmp .ge 61, 3) := by decide +kernel
theorem dX5_pushBitsOf_20 : decode cX5_pushBitsOf 20 = .ok (.iload_n 2, 1) := by decide +kernel
theorem dX5_pushBitsOf_21 : decode cX5_pushBitsOf 21 = .ok (.bipush 8, 2) := by decide +kernel
theorem dX5_pushBitsOf_23 : decode cX5_pushBitsOf 23 = .ok (.ishl, 1) := by decide +kernel
theorem dX5_pushBitsOf_24 : decode cX5_pushBitsOf 24 = .ok (.aload_n 0, 1) := by decide +kernel
theorem dX5_pushBitsOf_25 : decode cX5_pushBitsOf 25 = .ok (.getfield 22, 3) := by decide +kernel
theorem dX5_pushBitsOf_28 : decode cX5_pushBitsOf 28 = .ok (.iload_n 1, 1) := by decide +kernel
theorem dX5_pushBitsOf_29 : decode cX5_pushBitsOf 29 = .ok (.iload 4, 2) := by decide +kernel
theorem dX5_pushBitsOf_31 : decode cX5_pushBitsOf 31 = .ok (.invokevirtual 136, 3) := by decide +kernel
theorem dX5_pushBitsOf_34 : decode cX5_pushBitsOf 34 = .ok (.ior, 1) := by decide +kernel
theorem dX5_pushBitsOf_35 : decode cX5_pushBitsOf 35 = .ok (.istore_n 2, 1) := by decide +kernel
theorem dX5_pushBitsOf_36 : decode cX5_pushBitsOf 36 = .ok (.iinc 3 8, 3) := by decide +kernel
theorem dX5_pushBitsOf_39 : decode cX5_pushBitsOf 39 = .ok (.iload_n 3, 1) := by decide +kernel
theorem dX5_pushBitsOf_40 : decode cX5_pushBitsOf 40 = .ok (.bipush 7, 2) := by decide +kernel
theorem dX5_pushBitsOf_42 : decode cX5_pushBitsOf 42 = .ok (.if_icmp .lt 22, 3) := by decide +kernel
theorem dX5_pushBitsOf_45 : decode cX5_pushBitsOf 45 = .ok (.iinc 3 (-7), 3) := by decide +kernel
theorem dX5_pushBitsOf_48 : decode cX5_pushBitsOf 48 = .ok (.aload_n 0, 1) := by decide +kernel
theorem dX5_pushBitsOf_49 : decode cX5_pushBitsOf 49 = .ok (.getfield 30, 3) := by decide +kernel
theorem dX5_pushBitsOf_52 : decode cX5_pushBitsOf 52 = .ok (.iload_n 2, 1) := by decide +kernel
theorem dX5_pushBitsOf_53 : decode cX5_pushBitsOf 53 = .ok (.iload_n 3, 1) := by decide +kernel
theorem dX5_pushBitsOf_54 : decode cX5_pushBitsOf 54 = .ok (.iushr, 1) := by decide +kernel
theorem dX5_pushBitsOf_55 : decode cX5_pushBitsOf 55 = .ok (.bipush 127, 2) := by decide +kernel
theorem dX5_pushBitsOf_57 : decode cX5_pushBitsOf 57 = .ok (.iand, 1) := by decide +kernel
theorem dX5_pushBitsOf_58 : decode cX5_pushBitsOf 58 = .ok (.invokevirtual 42, 3) := by decide +kernel
theorem dX5_pushBitsOf_61 : decode cX5_pushBitsOf 61 = .ok (.goto (-22), 3) := by decide +kernel
theorem dX5_pushBitsOf_64 : decode cX5_pushBitsOf 64 = .ok (.iload_n 2, 1) := by decide +kernel
theorem dX5_pushBitsOf_65 : decode cX5_pushBitsOf 65 = .ok (.iconst 1, 1) := by decide +kernel
theorem dX5_pushBitsOf_66 : decode cX5_pushBitsOf 66 = .ok (.iload_n 3, 1) := by decide +kernel
theorem dX5_pushBitsOf_67 : decode cX5_pushBitsOf 67 = .ok (.ishl, 1) := by decide +kernel
theorem dX5_pushBitsOf_68 : decode cX5_pushBitsOf 68 = .ok (.iconst 1, 1) := by decide +kernel
theorem dX5_pushBitsOf_69 : decode cX5_pushBitsOf 69 = .ok (.isub, 1) := by decide +kernel
theorem dX5_pushBitsOf_70 : decode cX5_pushBitsOf 70 = .ok (.iand, 1) := by decide +kernel
theorem dX5_pushBitsOf_71 : decode cX5_pushBitsOf 71 = .ok (.istore_n 2, 1) := by decide +kernel
theorem dX5_pushBitsOf_72 : decode cX5_pushBitsOf 72 = .ok (.iinc 4 1, 3) := by decide +kernel
theorem dX5_pushBitsOf_75 : decode cX5_pushBitsOf 75 = .ok (.goto (-68), 3) := by decide +kernel
theorem dX5_pushBitsOf_78 : decode cX5_pushBitsOf 78 = .ok (.iload_n 3, 1) := by decide +kernel
theorem dX5_pushBitsOf_79 : decode cX5_pushBitsOf 79 = .ok (.ifCond .le 11, 3) := by decide +kernel
theorem dX5_pushBitsOf_82 : decode cX5_pushBitsOf 82 = .ok (.aload_n 0, 1) := by decide +kernel
theorem dX5_pushBitsOf_83 : decode cX5_pushBitsOf 83 = .ok (.getfield 30, 3) := by decide +kernel
theorem dX5_pushBitsOf_86 : decode cX5_pushBitsOf 86 = .ok (.iload_n 2, 1) := by decide +kernel
theorem dX5_pushBitsOf_87 : decode cX5_pushBitsOf 87 = .ok (.invokevirtual 42, 3) := by decide +kernel
theorem dX5_pushBitsOf_90 : decode cX5_pushBitsOf 90 = .ok (.return_, 1) := by decide +kernel
