theorem dX1_append_0 : decode cX1_append 0 = .ok (.aload_n 0, 1) := by decide +kernel
theorem dX1_append_1 : decode cX1_append 1 = .ok (.aload_n 0, 1) := by decide +kernel
theorem dX1_append_2 : decode cX1_append 2 = .ok (.getfield 107, 3) := by decide +kernel
theorem dX1_append_5 : decode cX1_append 5 = .ok (.ifCond .ne 15, 3) := by decide +kernel
theorem dX1_append_8 : decode cX1_append 8 = .ok (.lload_n 1, 1) := by decide +kernel
theorem dX1_append_9 : decode cX1_append 9 = .ok (.iload 5, 2) := by decide +kernel
theorem dX1_append_11 : decode cX1_append 11 = .ok (.iload 4, 2) := by decide +kernel
theorem dX1_append_13 : decode cX1_append 13 = .ok (.isub, 1) := by decide +kernel
theorem dX1_append_14 : decode cX1_append 14 = .ok (.lushr, 1) := by decide +kernel
theorem dX1_append_15 : decode cX1_append 15 = .ok (.lconst 0, 1) := by decide +kernel
theorem dX1_append_16 : decode cX1_append 16 = .ok (.lcmp, 1) := by decide +kernel
theorem dX1_append_17 : decode cX1_append 17 = .ok (.ifCond .eq 7, 3) := by decide +kernel
theorem dX1_append_20 : decode cX1_append 20 = .ok (.iconst 1, 1) := by decide +kernel
theorem dX1_append_21 : decode cX1_append 21 = .ok (.goto 4, 3) := by decide +kernel
theorem dX1_append_24 : decode cX1_append 24 = .ok (.iconst 0, 1) := by decide +kernel
theorem dX1_append_25 : decode cX1_append 25 = .ok (.putfield 107, 3) := by decide +kernel
theorem dX1_append_28 : decode cX1_append 28 = .ok (.lload_n 1, 1) := by decide +kernel
theorem dX1_append_29 : decode cX1_append 29 = .ok (.iload 4, 2) := by decide +kernel
theorem dX1_append_31 : decode cX1_append 31 = .ok (.lshl, 1) := by decide +kernel
theorem dX1_append_32 : decode cX1_append 32 = .ok (.iload_n 3, 1) := by decide +kernel
theorem dX1_append_33 : decode cX1_append 33 = .ok (.i2l, 1) := by decide +kernel
theorem dX1_append_34 : decode cX1_append 34 = .ok (.lor, 1) := by decide +kernel
theorem dX1_append_35 : decode cX1_append 35 = .ok (.lreturn, 1) := by decide +kernel
theorem dX1_beginItem_0 : decode cX1_beginItem 0 = .ok (.aload_n 0, 1) := by decide +kernel
theorem dX1_beginItem_1 : decode cX1_beginItem 1 = .ok (.aload_n 0, 1) := by decide +kernel
theorem dX1_beginItem_2 : decode cX1_beginItem 2 = .ok (.getfield 69, 3) := by decide +kernel
theorem dX1_beginItem_5 : decode cX1_beginItem 5 = .ok (.putfield 91, 3) := by decide +kernel
theorem dX1_beginItem_8 : decode cX1_beginItem 8 = .ok (.aload_n 0, 1) := by decide +kernel
theorem dX1_beginItem_9 : decode cX1_beginItem 9 = .ok (.lconst 0, 1) := by decide +kernel
theorem dX1_beginItem_10 : decode cX1_beginItem 10 = .ok (.putfield 94, 3) := by decide +kernel
theorem dX1_beginItem_13 : decode cX1_beginItem 13 = .ok (.aload_n 0, 1) := by decide +kernel
theorem dX1_beginItem_14 : decode cX1_beginItem 14 = .ok (.iconst 0, 1) := by decide +kernel
theorem dX1_beginItem_15 : decode cX1_beginItem 15 = .ok (.putfield 98, 3) := by decide +kernel
theorem dX1_beginItem_18 : decode cX1_beginItem 18 = .ok (.aload_n 0, 1) := by decide +kernel
theorem dX1_beginItem_19 : decode cX1_beginItem 19 = .ok (.iconst 0, 1) := by decide +kernel
theorem dX1_beginItem_20 : decode cX1_beginItem 20 = .ok (.putfield 101, 3) := by decide +kernel
theorem dX1_beginItem_23 : decode cX1_beginItem 23 = .ok (.aload_n 0, 1) := by decide +kernel
theorem dX1_beginItem_24 : decode cX1_beginItem 24 = .ok (.iconst (-1), 1) := by decide +kernel
theorem dX1_beginItem_25 : decode cX1_beginItem 25 = .ok (.putfield 104, 3) := by decide +kernel
theorem dX1_beginItem_28 : decode cX1_beginItem 28 = .ok (.aload_n 0, 1) := by decide +kernel
theorem dX1_beginItem_29 : decode cX1_beginItem 29 = .ok (.iconst 0, 1) := by decide +kernel
theorem dX1_beginItem_30 : decode cX1_beginItem 30 = .ok (.putfield 107, 3) := by decide +kernel
theorem dX1_beginItem_33 : decode cX1_beginItem 33 = .ok (.aload_n 0, 1) := by decide +kernel
theorem dX1_beginItem_34 : decode cX1_beginItem 34 = .ok (.invokevirtual 111, 3) := by decide +kernel
theorem dX1_beginItem_37 : decode cX1_beginItem 37 = .ok (.ireturn, 1) := by decide +kernel
theorem dX1_bitsInLast_0 : decode cX1_bitsInLast 0 = .ok (.bipush 8, 2) := by decide +kernel
theorem dX1_bitsInLast_2 : decode cX1_bitsInLast 2 = .ok (.iload_n 0, 1) := by decide +kernel
theorem dX1_bitsInLast_3 : decode cX1_bitsInLast 3 = .ok (.imul, 1) := by decide +kernel
theorem dX1_bitsInLast_4 : decode cX1_bitsInLast 4 = .ok (.i2l, 1) := by decide +kernel
theorem dX1_bitsInLast_5 : decode cX1_bitsInLast 5 = .ok (.ldc2_w 195, 3) := by decide +kernel
theorem dX1_bitsInLast_8 : decode cX1_bitsInLast 8 = .ok (.iload_n 0, 1) := by decide +kernel
theorem dX1_bitsInLast_9 : decode cX1_bitsInLast 9 = .ok (.i2l, 1) := by decide +kernel
theorem dX1_bitsInLast_10 : decode cX1_bitsInLast 10 = .ok (.invokestatic 179, 3) := by decide +kernel
theorem dX1_bitsInLast_13 : decode cX1_bitsInLast 13 = .ok (.lconst 1, 1) := by decide +kernel
theorem dX1_bitsInLast_14 : decode cX1_bitsInLast 14 = .ok (.lsub, 1) := by decide +kernel
theorem dX1_bitsInLast_15 : decode cX1_bitsInLast 15 = .ok (.lmul, 1) := by decide +kernel
theorem dX1_bitsInLast_16 : decode cX1_bitsInLast 16 = .ok (.lsub, 1) := by decide +kernel
theorem dX1_bitsInLast_17 : decode cX1_bitsInLast 17 = .ok (.l2i, 1) := by decide +kernel
theorem dX1_bitsInLast_18 : decode cX1_bitsInLast 18 = .ok (.ireturn, 1) := by decide +kernel
theorem dX1_decode_0 : decode cX1_decode 0 = .ok (.aload_n 0, 1) := by decide +kernel
theorem dX1_decode_1 : decode cX1_decode 1 = .ok (.aload_n 1, 1) := by decide +kernel
theorem dX1_decode_2 : decode cX1_decode 2 = .ok (.putfield 22, 3) := by decide +kernel
theorem dX1_decode_5 : decode cX1_decode 5 = .ok (.aload_n 0, 1) := by decide +kernel
theorem dX1_decode_6 : decode cX1_decode 6 = .ok (.aload_n 2, 1) := by decide +kernel
theorem dX1_decode_7 : decode cX1_decode 7 = .ok (.putfield 26, 3) := by decide +kernel
theorem dX1_decode_10 : decode cX1_decode 10 = .ok (.aload_n 0, 1) := by decide +kernel
theorem dX1_decode_11 : decode cX1_decode 11 = .ok (.getfield 26, 3) := by decide +kernel
theorem dX1_decode_14 : decode cX1_decode 14 = .ok (.invokevirtual 30, 3) := by decide +kernel
theorem dX1_decode_17 : decode cX1_decode 17 = .ok (.aload_n 0, 1) := by decide +kernel
theorem dX1_decode_18 : decode cX1_decode 18 = .ok (.getfield 15, 3) := by decide +kernel
theorem dX1_decode_21 : decode cX1_decode 21 = .ok (.invokevirtual 35, 3) := by decide +kernel
theorem dX1_decode_24 : decode cX1_decode 24 = .ok (.aload_n 0, 1) := by decide +kernel
theorem dX1_decode_25 : decode cX1_decode 25 = .ok (.getfield 19, 3) := by decide +kernel
theorem dX1_decode_28 : decode cX1_decode 28 = .ok (.invokevirtual 35, 3) := by decide +kernel
theorem dX1_decode_31 : decode cX1_decode 31 = .ok (.aload_n 0, 1) := by decide +kernel
theorem dX1_decode_32 : decode cX1_decode 32 = .ok (.iconst 0, 1) := by decide +kernel
theorem dX1_decode_33 : decode cX1_decode 33 = .ok (.putfield 38, 3) := by decide +kernel
theorem dX1_decode_36 : decode cX1_decode 36 = .ok (.aload_n 0, 1) := by decide +kernel
theorem dX1_decode_37 : decode cX1_decode 37 = .ok (.iconst (-1), 1) := by decide +kernel
theorem dX1_decode_38 : decode cX1_decode 38 = .ok (.putfield 9, 3) := by decide +kernel
theorem dX1_decode_41 : decode cX1_decode 41 = .ok (.aload_n 0, 1) := by decide +kernel
theorem dX1_decode_42 : decode cX1_decode 42 = .ok (.invokevirtual 41, 3) := by decide +kernel
theorem dX1_decode_45 : decode cX1_decode 45 = .ok (.iconst 0, 1) := by decide +kernel
theorem dX1_decode_46 : decode cX1_decode 46 = .ok (.istore_n 3, 1) := by decide +kernel
theorem dX1_decode_47 : decode cX1_decode 47 = .ok (.iload_n 3, 1) := by decide +kernel
theorem dX1_decode_48 : decode cX1_decode 48 = .ok (.sipush 1500, 3) := by decide +kernel
theorem dX1_decode_51 : decode cX1_decode 51 = .ok (.if_icmp .gt 67, 3) := by decide +kernel
theorem dX1_decode_54 : decode cX1_decode 54 = .ok (.aload_n 0, 1) := by decide +kernel
theorem dX1_decode_55 : decode cX1_decode 55 = .ok (.getfield 38, 3) := by decide +kernel
theorem dX1_decode_58 : decode cX1_decode 58 = .ok (.ifCond .ne 60, 3) := by decide +kernel
theorem dX1_decode_61 : decode cX1_decode 61 = .ok (.aload_n 0, 1) := by decide +kernel
theorem dX1_decode_62 : decode cX1_decode 62 = .ok (.getfield 26, 3) := by decide +kernel
theorem dX1_decode_65 : decode cX1_decode 65 = .ok (.invokevirtual 44, 3) := by decide +kernel
theorem dX1_decode_68 : decode cX1_decode 68 = .ok (.ifCond .ne 50, 3) := by decide +kernel
theorem dX1_decode_71 : decode cX1_decode 71 = .ok (.aload_n 0, 1) := by decide +kernel
theorem dX1_decode_72 : decode cX1_decode 72 = .ok (.invokevirtual 48, 3) := by decide +kernel
theorem dX1_decode_75 : decode cX1_decode 75 = .ok (.istore 4, 2) := by decide +kernel
theorem dX1_decode_77 : decode cX1_decode 77 = .ok (.aload_n 0, 1) := by decide +kernel
theorem dX1_decode_78 : decode cX1_decode 78 = .ok (.getfield 26, 3) := by decide +kernel
theorem dX1_decode_81 : decode cX1_decode 81 = .ok (.bipush 10, 2) := by decide +kernel
theorem dX1_decode_83 : decode cX1_decode 83 = .ok (.invokevirtual 52, 3) := by decide +kernel
theorem dX1_decode_86 : decode cX1_decode 86 = .ok (.ifCond .eq 12, 3) := by decide +kernel
theorem dX1_decode_89 : decode cX1_decode 89 = .ok (.aload_n 0, 1) := by decide +kernel
theorem dX1_decode_90 : decode cX1_decode 90 = .ok (.iload 4, 2) := by decide +kernel
theorem dX1_decode_92 : decode cX1_decode 92 = .ok (.invokevirtual 56, 3) := by decide +kernel
theorem dX1_decode_95 : decode cX1_decode 95 = .ok (.goto 9, 3) := by decide +kernel
theorem dX1_decode_98 : decode cX1_decode 98 = .ok (.aload_n 0, 1) := by decide +kernel
theorem dX1_decode_99 : decode cX1_decode 99 = .ok (.iload 4, 2) := by decide +kernel
theorem dX1_decode_101 : decode cX1_decode 101 = .ok (.invokevirtual 60, 3) := by decide +kernel
theorem dX1_decode_104 : decode cX1_decode 104 = .ok (.aload_n 0, 1) := by decide +kernel
theorem dX1_decode_105 : decode cX1_decode 105 = .ok (.invokevirtual 63, 3) := by decide +kernel
theorem dX1_decode_108 : decode cX1_decode 108 = .ok (.aload_n 0, 1) := by decide +kernel
theorem dX1_decode_109 : decode cX1_decode 109 = .ok (.invokevirtual 66, 3) := by decide +kernel
theorem dX1_decode_112 : decode cX1_decode 112 = .ok (.iinc 3 1, 3) := by decide +kernel
theorem dX1_decode_115 : decode cX1_decode 115 = .ok (.goto (-68), 3) := by decide +kernel
theorem dX1_decode_118 : decode cX1_decode 118 = .ok (.aload_n 0, 1) := by decide +kernel
theorem dX1_decode_119 : decode cX1_decode 119 = .ok (.getfield 69, 3) := by decide +kernel
theorem dX1_decode_122 : decode cX1_decode 122 = .ok (.aload_n 0, 1) := by decide +kernel
theorem dX1_decode_123 : decode cX1_decode 123 = .ok (.getfield 22, 3) := by decide +kernel
theorem dX1_decode_126 : decode cX1_decode 126 = .ok (.invokevirtual 72, 3) := by decide +kernel
theorem dX1_decode_129 : decode cX1_decode 129 = .ok (.if_icmp .ge 13, 3) := by decide +kernel
theorem dX1_decode_132 : decode cX1_decode 132 = .ok (.aload_n 0, 1) := by decide +kernel
theorem dX1_decode_133 : decode cX1_decode 133 = .ok (.bipush 8, 2) := by decide +kernel
theorem dX1_decode_135 : decode cX1_decode 135 = .ok (.aload_n 0, 1) := by decide +kernel
theorem dX1_decode_136 : decode cX1_decode 136 = .ok (.getfield 69, 3) := by decide +kernel
theorem dX1_decode_139 : decode cX1_decode 139 = .ok (.invokevirtual 77, 3) := by decide +kernel
theorem dX1_decode_142 : decode cX1_decode 142 = .ok (.aload_n 0, 1) := by decide +kernel
theorem dX1_decode_143 : decode cX1_decode 143 = .ok (.getfield 38, 3) := by decide +kernel
theorem dX1_decode_146 : decode cX1_decode 146 = .ok (.ireturn, 1) := by decide +kernel
theorem dX1_fail_0 : decode cX1_fail 0 = .ok (.aload_n 0, 1) := by decide +kernel
theorem dX1_fail_1 : decode cX1_fail 1 = .ok (.getfield 38, 3) := by decide +kernel
theorem dX1_fail_4 : decode cX1_fail 4 = .ok (.ifCond .ne 13, 3) := by decide +kernel
theorem dX1_fail_7 : decode cX1_fail 7 = .ok (.aload_n 0, 1) := by decide +kernel
theorem dX1_fail_8 : decode cX1_fail 8 = .ok (.iload_n 1, 1) := by decide +kernel
theorem dX1_fail_9 : decode cX1_fail 9 = .ok (.putfield 38, 3) := by decide +kernel
theorem dX1_fail_12 : decode cX1_fail 12 = .ok (.aload_n 0, 1) := by decide +kernel
theorem dX1_fail_13 : decode cX1_fail 13 = .ok (.iload_n 2, 1) := by decide +kernel
theorem dX1_fail_14 : decode cX1_fail 14 = .ok (.putfield 9, 3) := by decide +kernel
theorem dX1_fail_17 : decode cX1_fail 17 = .ok (.return_, 1) := by decide +kernel
theorem dX1_faultPlace_0 : decode cX1_faultPlace 0 = .ok (.aload_n 0, 1) := by decide +kernel
theorem dX1_faultPlace_1 : decode cX1_faultPlace 1 = .ok (.getfield 9, 3) := by decide +kernel
theorem dX1_faultPlace_4 : decode cX1_faultPlace 4 = .ok (.ireturn, 1) := by decide +kernel
theorem dX1_fromZigzag_0 : decode cX1_fromZigzag 0 = .ok (.lload_n 0, 1) := by decide +kernel
theorem dX1_fromZigzag_1 : decode cX1_fromZigzag 1 = .ok (.iconst 1, 1) := by decide +kernel
theorem dX1_fromZigzag_2 : decode cX1_fromZigzag 2 = .ok (.lushr, 1) := by decide +kernel
theorem dX1_fromZigzag_3 : decode cX1_fromZigzag 3 = .ok (.lload_n 0, 1) := by decide +kernel
theorem dX1_fromZigzag_4 : decode cX1_fromZigzag 4 = .ok (.lconst 1, 1) := by decide +kernel
theorem dX1_fromZigzag_5 : decode cX1_fromZigzag 5 = .ok (.land, 1) := by decide +kernel
theorem dX1_fromZigzag_6 : decode cX1_fromZigzag 6 = .ok (.lneg, 1) := by decide +kernel
theorem dX1_fromZigzag_7 : decode cX1_fromZigzag 7 = .ok (.lxor, 1) := by decide +kernel
theorem dX1_fromZigzag_8 : decode cX1_fromZigzag 8 = .ok (.lreturn, 1) := by decide +kernel
theorem dX1_isHeadByte_0 : decode cX1_isHeadByte 0 = .ok (.iload_n 0, 1) := by decide +kernel
theorem dX1_isHeadByte_1 : decode cX1_isHeadByte 1 = .ok (.tableswitch 63 0 2 #[27, 39, 51], 27) := by decide +kernel
theorem dX1_isHeadByte_28 : decode cX1_isHeadByte 28 = .ok (.iload_n 1, 1) := by decide +kernel
theorem dX1_isHeadByte_29 : decode cX1_isHeadByte 29 = .ok (.bipush 58, 2) := by decide +kernel
theorem dX1_isHeadByte_31 : decode cX1_isHeadByte 31 = .ok (.if_icmp .ne 7, 3) := by decide +kernel
theorem dX1_isHeadByte_34 : decode cX1_isHeadByte 34 = .ok (.iconst 1, 1) := by decide +kernel
theorem dX1_isHeadByte_35 : decode cX1_isHeadByte 35 = .ok (.goto 4, 3) := by decide +kernel
theorem dX1_isHeadByte_38 : decode cX1_isHeadByte 38 = .ok (.iconst 0, 1) := by decide +kernel
theorem dX1_isHeadByte_39 : decode cX1_isHeadByte 39 = .ok (.ireturn, 1) := by decide +kernel
theorem dX1_isHeadByte_40 : decode cX1_isHeadByte 40 = .ok (.iload_n 1, 1) := by decide +kernel
theorem dX1_isHeadByte_41 : decode cX1_isHeadByte 41 = .ok (.bipush 41, 2) := by decide +kernel
theorem dX1_isHeadByte_43 : decode cX1_isHeadByte 43 = .ok (.if_icmp .ne 7, 3) := by decide +kernel
theorem dX1_isHeadByte_46 : decode cX1_isHeadByte 46 = .ok (.iconst 1, 1) := by decide +kernel
theorem dX1_isHeadByte_47 : decode cX1_isHeadByte 47 = .ok (.goto 4, 3) := by decide +kernel
theorem dX1_isHeadByte_50 : decode cX1_isHeadByte 50 = .ok (.iconst 0, 1) := by decide +kernel
theorem dX1_isHeadByte_51 : decode cX1_isHeadByte 51 = .ok (.ireturn, 1) := by decide +kernel
theorem dX1_isHeadByte_52 : decode cX1_isHeadByte 52 = .ok (.iload_n 1, 1) := by decide +kernel
theorem dX1_isHeadByte_53 : decode cX1_isHeadByte 53 = .ok (.bipush 10, 2) := by decide +kernel
theorem dX1_isHeadByte_55 : decode cX1_isHeadByte 55 = .ok (.if_icmp .ne 7, 3) := by decide +kernel
theorem dX1_isHeadByte_58 : decode cX1_isHeadByte 58 = .ok (.iconst 1, 1) := by decide +kernel
theorem dX1_isHeadByte_59 : decode cX1_isHeadByte 59 = .ok (.goto 4, 3) := by decide +kernel
theorem dX1_isHeadByte_62 : decode cX1_isHeadByte 62 = .ok (.iconst 0, 1) := by decide +kernel
theorem dX1_isHeadByte_63 : decode cX1_isHeadByte 63 = .ok (.ireturn, 1) := by decide +kernel
theorem dX1_isHeadByte_64 : decode cX1_isHeadByte 64 = .ok (.iload_n 1, 1) := by decide +kernel
theorem dX1_isHeadByte_65 : decode cX1_isHeadByte 65 = .ok (.ifCond .lt 13, 3) := by decide +kernel
theorem dX1_isHeadByte_68 : decode cX1_isHeadByte 68 = .ok (.iload_n 1, 1) := by decide +kernel
theorem dX1_isHeadByte_69 : decode cX1_isHeadByte 69 = .ok (.bipush 7, 2) := by decide +kernel
theorem dX1_isHeadByte_71 : decode cX1_isHeadByte 71 = .ok (.if_icmp .gt 7, 3) := by decide +kernel
theorem dX1_isHeadByte_74 : decode cX1_isHeadByte 74 = .ok (.iconst 1, 1) := by decide +kernel
theorem dX1_isHeadByte_75 : decode cX1_isHeadByte 75 = .ok (.goto 4, 3) := by decide +kernel
theorem dX1_isHeadByte_78 : decode cX1_isHeadByte 78 = .ok (.iconst 0, 1) := by decide +kernel
theorem dX1_isHeadByte_79 : decode cX1_isHeadByte 79 = .ok (.ireturn, 1) := by decide +kernel
theorem dX1_isShared_0 : decode cX1_isShared 0 = .ok (.aload_n 0, 1) := by decide +kernel
theorem dX1_isShared_1 : decode cX1_isShared 1 = .ok (.getfield 88, 3) := by decide +kernel
theorem dX1_isShared_4 : decode cX1_isShared 4 = .ok (.aload_n 0, 1) := by decide +kernel
theorem dX1_isShared_5 : decode cX1_isShared 5 = .ok (.getfield 114, 3) := by decide +kernel
theorem dX1_isShared_8 : decode cX1_isShared 8 = .ok (.bipush 10, 2) := by decide +kernel
theorem dX1_isShared_10 : decode cX1_isShared 10 = .ok (.if_icmp .ne 7, 3) := by decide +kernel
theorem dX1_isShared_13 : decode cX1_isShared 13 = .ok (.iconst 1, 1) := by decide +kernel
theorem dX1_isShared_14 : decode cX1_isShared 14 = .ok (.goto 4, 3) := by decide +kernel
theorem dX1_isShared_17 : decode cX1_isShared 17 = .ok (.iconst 2, 1) := by decide +kernel
theorem dX1_isShared_18 : decode cX1_isShared 18 = .ok (.iand, 1) := by decide +kernel
theorem dX1_isShared_19 : decode cX1_isShared 19 = .ok (.ifCond .eq 7, 3) := by decide +kernel
theorem dX1_isShared_22 : decode cX1_isShared 22 = .ok (.iconst 1, 1) := by decide +kernel
theorem dX1_isShared_23 : decode cX1_isShared 23 = .ok (.goto 4, 3) := by decide +kernel
theorem dX1_isShared_26 : decode cX1_isShared 26 = .ok (.iconst 0, 1) := by decide +kernel
theorem dX1_isShared_27 : decode cX1_isShared 27 = .ok (.ireturn, 1) := by decide +kernel
theorem dX1_judgeItem_0 : decode cX1_judgeItem 0 = .ok (.aload_n 0, 1) := by decide +kernel
theorem dX1_judgeItem_1 : decode cX1_judgeItem 1 = .ok (.getfield 38, 3) := by decide +kernel
theorem dX1_judgeItem_4 : decode cX1_judgeItem 4 = .ok (.ifCond .eq 4, 3) := by decide +kernel
theorem dX1_judgeItem_7 : decode cX1_judgeItem 7 = .ok (.return_, 1) := by decide +kernel
theorem dX1_judgeItem_8 : decode cX1_judgeItem 8 = .ok (.aload_n 0, 1) := by decide +kernel
theorem dX1_judgeItem_9 : decode cX1_judgeItem 9 = .ok (.getfield 98, 3) := by decide +kernel
theorem dX1_judgeItem_12 : decode cX1_judgeItem 12 = .ok (.iconst 1, 1) := by decide +kernel
theorem dX1_judgeItem_13 : decode cX1_judgeItem 13 = .ok (.if_icmp .ne 21, 3) := by decide +kernel
theorem dX1_judgeItem_16 : decode cX1_judgeItem 16 = .ok (.aload_n 0, 1) := by decide +kernel
theorem dX1_judgeItem_17 : decode cX1_judgeItem 17 = .ok (.getfield 22, 3) := by decide +kernel
theorem dX1_judgeItem_20 : decode cX1_judgeItem 20 = .ok (.aload_n 0, 1) := by decide +kernel
theorem dX1_judgeItem_21 : decode cX1_judgeItem 21 = .ok (.getfield 169, 3) := by decide +kernel
theorem dX1_judgeItem_24 : decode cX1_judgeItem 24 = .ok (.aload_n 0, 1) := by decide +kernel
theorem dX1_judgeItem_25 : decode cX1_judgeItem 25 = .ok (.getfield 101, 3) := by decide +kernel
theorem dX1_judgeItem_28 : decode cX1_judgeItem 28 = .ok (.invokestatic 197, 3) := by decide +kernel
theorem dX1_judgeItem_31 : decode cX1_judgeItem 31 = .ok (.ifCond .eq 29, 3) := by decide +kernel
theorem dX1_judgeItem_34 : decode cX1_judgeItem 34 = .ok (.aload_n 0, 1) := by decide +kernel
theorem dX1_judgeItem_35 : decode cX1_judgeItem 35 = .ok (.getfield 98, 3) := by decide +kernel
theorem dX1_judgeItem_38 : decode cX1_judgeItem 38 = .ok (.iconst 2, 1) := by decide +kernel
theorem dX1_judgeItem_39 : decode cX1_judgeItem 39 = .ok (.if_icmp .ne 30, 3) := by decide +kernel
theorem dX1_judgeItem_42 : decode cX1_judgeItem 42 = .ok (.aload_n 0, 1) := by decide +kernel
theorem dX1_judgeItem_43 : decode cX1_judgeItem 43 = .ok (.getfield 22, 3) := by decide +kernel
theorem dX1_judgeItem_46 : decode cX1_judgeItem 46 = .ok (.aload_n 0, 1) := by decide +kernel
theorem dX1_judgeItem_47 : decode cX1_judgeItem 47 = .ok (.getfield 169, 3) := by decide +kernel
theorem dX1_judgeItem_50 : decode cX1_judgeItem 50 = .ok (.aload_n 0, 1) := by decide +kernel
theorem dX1_judgeItem_51 : decode cX1_judgeItem 51 = .ok (.getfield 101, 3) := by decide +kernel
theorem dX1_judgeItem_54 : decode cX1_judgeItem 54 = .ok (.invokestatic 203, 3) := by decide +kernel
theorem dX1_judgeItem_57 : decode cX1_judgeItem 57 = .ok (.ifCond .ne 12, 3) := by decide +kernel
theorem dX1_judgeItem_60 : decode cX1_judgeItem 60 = .ok (.aload_n 0, 1) := by decide +kernel
theorem dX1_judgeItem_61 : decode cX1_judgeItem 61 = .ok (.iconst 4, 1) := by decide +kernel
theorem dX1_judgeItem_62 : decode cX1_judgeItem 62 = .ok (.aload_n 0, 1) := by decide +kernel
theorem dX1_judgeItem_63 : decode cX1_judgeItem 63 = .ok (.getfield 91, 3) := by decide +kernel
theorem dX1_judgeItem_66 : decode cX1_judgeItem 66 = .ok (.invokevirtual 77, 3) := by decide +kernel
theorem dX1_judgeItem_69 : decode cX1_judgeItem 69 = .ok (.aload_n 0, 1) := by decide +kernel
theorem dX1_judgeItem_70 : decode cX1_judgeItem 70 = .ok (.getfield 98, 3) := by decide +kernel
theorem dX1_judgeItem_73 : decode cX1_judgeItem 73 = .ok (.iconst 3, 1) := by decide +kernel
theorem dX1_judgeItem_74 : decode cX1_judgeItem 74 = .ok (.if_icmp .ne 50, 3) := by decide +kernel
theorem dX1_judgeItem_77 : decode cX1_judgeItem 77 = .ok (.aload_n 0, 1) := by decide +kernel
theorem dX1_judgeItem_78 : decode cX1_judgeItem 78 = .ok (.aload_n 0, 1) := by decide +kernel
theorem dX1_judgeItem_79 : decode cX1_judgeItem 79 = .ok (.invokevirtual 206, 3) := by decide +kernel
theorem dX1_judgeItem_82 : decode cX1_judgeItem 82 = .ok (.aload_n 0, 1) := by decide +kernel
theorem dX1_judgeItem_83 : decode cX1_judgeItem 83 = .ok (.getfield 104, 3) := by decide +kernel
theorem dX1_judgeItem_86 : decode cX1_judgeItem 86 = .ok (.invokevirtual 210, 3) := by decide +kernel
theorem dX1_judgeItem_89 : decode cX1_judgeItem 89 = .ok (.putfield 104, 3) := by decide +kernel
theorem dX1_judgeItem_92 : decode cX1_judgeItem 92 = .ok (.aload_n 0, 1) := by decide +kernel
theorem dX1_judgeItem_93 : decode cX1_judgeItem 93 = .ok (.aload_n 0, 1) := by decide +kernel
theorem dX1_judgeItem_94 : decode cX1_judgeItem 94 = .ok (.getfield 26, 3) := by decide +kernel
theorem dX1_judgeItem_97 : decode cX1_judgeItem 97 = .ok (.aload_n 0, 1) := by decide +kernel
theorem dX1_judgeItem_98 : decode cX1_judgeItem 98 = .ok (.getfield 104, 3) := by decide +kernel
theorem dX1_judgeItem_101 : decode cX1_judgeItem 101 = .ok (.invokevirtual 213, 3) := by decide +kernel
theorem dX1_judgeItem_104 : decode cX1_judgeItem 104 = .ok (.putfield 101, 3) := by decide +kernel
theorem dX1_judgeItem_107 : decode cX1_judgeItem 107 = .ok (.aload_n 0, 1) := by decide +kernel
theorem dX1_judgeItem_108 : decode cX1_judgeItem 108 = .ok (.getfield 104, 3) := by decide +kernel
theorem dX1_judgeItem_111 : decode cX1_judgeItem 111 = .ok (.iconst (-1), 1) := by decide +kernel
theorem dX1_judgeItem_112 : decode cX1_judgeItem 112 = .ok (.if_icmp .ne 12, 3) := by decide +kernel
theorem dX1_judgeItem_115 : decode cX1_judgeItem 115 = .ok (.aload_n 0, 1) := by decide +kernel
theorem dX1_judgeItem_116 : decode cX1_judgeItem 116 = .ok (.iconst 5, 1) := by decide +kernel
theorem dX1_judgeItem_117 : decode cX1_judgeItem 117 = .ok (.aload_n 0, 1) := by decide +kernel
theorem dX1_judgeItem_118 : decode cX1_judgeItem 118 = .ok (.getfield 91, 3) := by decide +kernel
theorem dX1_judgeItem_121 : decode cX1_judgeItem 121 = .ok (.invokevirtual 77, 3) := by decide +kernel
theorem dX1_judgeItem_124 : decode cX1_judgeItem 124 = .ok (.aload_n 0, 1) := by decide +kernel
theorem dX1_judgeItem_125 : decode cX1_judgeItem 125 = .ok (.getfield 107, 3) := by decide +kernel
theorem dX1_judgeItem_128 : decode cX1_judgeItem 128 = .ok (.ifCond .eq 13, 3) := by decide +kernel
theorem dX1_judgeItem_131 : decode cX1_judgeItem 131 = .ok (.aload_n 0, 1) := by decide +kernel
theorem dX1_judgeItem_132 : decode cX1_judgeItem 132 = .ok (.bipush 6, 2) := by decide +kernel
theorem dX1_judgeItem_134 : decode cX1_judgeItem 134 = .ok (.aload_n 0, 1) := by decide +kernel
theorem dX1_judgeItem_135 : decode cX1_judgeItem 135 = .ok (.getfield 91, 3) := by decide +kernel
theorem dX1_judgeItem_138 : decode cX1_judgeItem 138 = .ok (.invokevirtual 77, 3) := by decide +kernel
theorem dX1_judgeItem_141 : decode cX1_judgeItem 141 = .ok (.aload_n 0, 1) := by decide +kernel
theorem dX1_judgeItem_142 : decode cX1_judgeItem 142 = .ok (.getfield 26, 3) := by decide +kernel
theorem dX1_judgeItem_145 : decode cX1_judgeItem 145 = .ok (.aload_n 0, 1) := by decide +kernel
theorem dX1_judgeItem_146 : decode cX1_judgeItem 146 = .ok (.getfield 114, 3) := by decide +kernel
theorem dX1_judgeItem_149 : decode cX1_judgeItem 149 = .ok (.aload_n 0, 1) := by decide +kernel
theorem dX1_judgeItem_150 : decode cX1_judgeItem 150 = .ok (.getfield 101, 3) := by decide +kernel
theorem dX1_judgeItem_153 : decode cX1_judgeItem 153 = .ok (.invokevirtual 216, 3) := by decide +kernel
theorem dX1_judgeItem_156 : decode cX1_judgeItem 156 = .ok (.ifCond .ne 13, 3) := by decide +kernel
theorem dX1_judgeItem_159 : decode cX1_judgeItem 159 = .ok (.aload_n 0, 1) := by decide +kernel
theorem dX1_judgeItem_160 : decode cX1_judgeItem 160 = .ok (.bipush 7, 2) := by decide +kernel
theorem dX1_judgeItem_162 : decode cX1_judgeItem 162 = .ok (.aload_n 0, 1) := by decide +kernel
theorem dX1_judgeItem_163 : decode cX1_judgeItem 163 = .ok (.getfield 91, 3) := by decide +kernel
theorem dX1_judgeItem_166 : decode cX1_judgeItem 166 = .ok (.invokevirtual 77, 3) := by decide +kernel
theorem dX1_judgeItem_169 : decode cX1_judgeItem 169 = .ok (.return_, 1) := by decide +kernel
theorem dX1_keepBits_0 : decode cX1_keepBits 0 = .ok (.iconst 0, 1) := by decide +kernel
theorem dX1_keepBits_1 : decode cX1_keepBits 1 = .ok (.istore_n 1, 1) := by decide +kernel
theorem dX1_keepBits_2 : decode cX1_keepBits 2 = .ok (.iconst 0, 1) := by decide +kernel
theorem dX1_keepBits_3 : decode cX1_keepBits 3 = .ok (.istore_n 2, 1) := by decide +kernel
theorem dX1_keepBits_4 : decode cX1_keepBits 4 = .ok (.aload_n 0, 1) := by decide +kernel
theorem dX1_keepBits_5 : decode cX1_keepBits 5 = .ok (.getfield 169, 3) := by decide +kernel
theorem dX1_keepBits_8 : decode cX1_keepBits 8 = .ok (.istore_n 3, 1) := by decide +kernel
theorem dX1_keepBits_9 : decode cX1_keepBits 9 = .ok (.iload_n 3, 1) := by decide +kernel
theorem dX1_keepBits_10 : decode cX1_keepBits 10 = .ok (.aload_n 0, 1) := by decide +kernel
theorem dX1_keepBits_11 : decode cX1_keepBits 11 = .ok (.getfield 69, 3) := by decide +kernel
theorem dX1_keepBits_14 : decode cX1_keepBits 14 = .ok (.if_icmp .ge 83, 3) := by decide +kernel
theorem dX1_keepBits_17 : decode cX1_keepBits 17 = .ok (.iload_n 3, 1) := by decide +kernel
theorem dX1_keepBits_18 : decode cX1_keepBits 18 = .ok (.aload_n 0, 1) := by decide +kernel
theorem dX1_keepBits_19 : decode cX1_keepBits 19 = .ok (.getfield 69, 3) := by decide +kernel
theorem dX1_keepBits_22 : decode cX1_keepBits 22 = .ok (.iconst 1, 1) := by decide +kernel
theorem dX1_keepBits_23 : decode cX1_keepBits 23 = .ok (.isub, 1) := by decide +kernel
theorem dX1_keepBits_24 : decode cX1_keepBits 24 = .ok (.if_icmp .ne 13, 3) := by decide +kernel
theorem dX1_keepBits_27 : decode cX1_keepBits 27 = .ok (.aload_n 0, 1) := by decide +kernel
theorem dX1_keepBits_28 : decode cX1_keepBits 28 = .ok (.getfield 101, 3) := by decide +kernel
theorem dX1_keepBits_31 : decode cX1_keepBits 31 = .ok (.invokestatic 188, 3) := by decide +kernel
theorem dX1_keepBits_34 : decode cX1_keepBits 34 = .ok (.goto 5, 3) := by decide +kernel
theorem dX1_keepBits_37 : decode cX1_keepBits 37 = .ok (.bipush 7, 2) := by decide +kernel
theorem dX1_keepBits_39 : decode cX1_keepBits 39 = .ok (.istore 4, 2) := by decide +kernel
theorem dX1_keepBits_41 : decode cX1_keepBits 41 = .ok (.iload_n 1, 1) := by decide +kernel
theorem dX1_keepBits_42 : decode cX1_keepBits 42 = .ok (.iload 4, 2) := by decide +kernel
theorem dX1_keepBits_44 : decode cX1_keepBits 44 = .ok (.ishl, 1) := by decide +kernel
theorem dX1_keepBits_45 : decode cX1_keepBits 45 = .ok (.aload_n 0, 1) := by decide +kernel
theorem dX1_keepBits_46 : decode cX1_keepBits 46 = .ok (.getfield 22, 3) := by decide +kernel
theorem dX1_keepBits_49 : decode cX1_keepBits 49 = .ok (.iload_n 3, 1) := by decide +kernel
theorem dX1_keepBits_50 : decode cX1_keepBits 50 = .ok (.invokevirtual 81, 3) := by decide +kernel
theorem dX1_keepBits_53 : decode cX1_keepBits 53 = .ok (.ior, 1) := by decide +kernel
theorem dX1_keepBits_54 : decode cX1_keepBits 54 = .ok (.istore_n 1, 1) := by decide +kernel
theorem dX1_keepBits_55 : decode cX1_keepBits 55 = .ok (.iload_n 2, 1) := by decide +kernel
theorem dX1_keepBits_56 : decode cX1_keepBits 56 = .ok (.iload 4, 2) := by decide +kernel
theorem dX1_keepBits_58 : decode cX1_keepBits 58 = .ok (.iadd, 1) := by decide +kernel
theorem dX1_keepBits_59 : decode cX1_keepBits 59 = .ok (.istore_n 2, 1) := by decide +kernel
theorem dX1_keepBits_60 : decode cX1_keepBits 60 = .ok (.iload_n 2, 1) := by decide +kernel
theorem dX1_keepBits_61 : decode cX1_keepBits 61 = .ok (.bipush 8, 2) := by decide +kernel
theorem dX1_keepBits_63 : decode cX1_keepBits 63 = .ok (.if_icmp .lt 20, 3) := by decide +kernel
theorem dX1_keepBits_66 : decode cX1_keepBits 66 = .ok (.iinc 2 (-8), 3) := by decide +kernel
theorem dX1_keepBits_69 : decode cX1_keepBits 69 = .ok (.aload_n 0, 1) := by decide +kernel
theorem dX1_keepBits_70 : decode cX1_keepBits 70 = .ok (.getfield 26, 3) := by decide +kernel
theorem dX1_keepBits_73 : decode cX1_keepBits 73 = .ok (.iload_n 1, 1) := by decide +kernel
theorem dX1_keepBits_74 : decode cX1_keepBits 74 = .ok (.iload_n 2, 1) := by decide +kernel
theorem dX1_keepBits_75 : decode cX1_keepBits 75 = .ok (.iushr, 1) := by decide +kernel
theorem dX1_keepBits_76 : decode cX1_keepBits 76 = .ok (.sipush 255, 3) := by decide +kernel
theorem dX1_keepBits_79 : decode cX1_keepBits 79 = .ok (.iand, 1) := by decide +kernel
theorem dX1_keepBits_80 : decode cX1_keepBits 80 = .ok (.invokevirtual 243, 3) := by decide +kernel
theorem dX1_keepBits_83 : decode cX1_keepBits 83 = .ok (.iload_n 1, 1) := by decide +kernel
theorem dX1_keepBits_84 : decode cX1_keepBits 84 = .ok (.iconst 1, 1) := by decide +kernel
theorem dX1_keepBits_85 : decode cX1_keepBits 85 = .ok (.iload_n 2, 1) := by decide +kernel
theorem dX1_keepBits_86 : decode cX1_keepBits 86 = .ok (.ishl, 1) := by decide +kernel
theorem dX1_keepBits_87 : decode cX1_keepBits 87 = .ok (.iconst 1, 1) := by decide +kernel
theorem dX1_keepBits_88 : decode cX1_keepBits 88 = .ok (.isub, 1) := by decide +kernel
theorem dX1_keepBits_89 : decode cX1_keepBits 89 = .ok (.iand, 1) := by decide +kernel
theorem dX1_keepBits_90 : decode cX1_keepBits 90 = .ok (.istore_n 1, 1) := by decide +kernel
theorem dX1_keepBits_91 : decode cX1_keepBits 91 = .ok (.iinc 3 1, 3) := by decide +kernel
theorem dX1_keepBits_94 : decode cX1_keepBits 94 = .ok (.goto (-85), 3) := by decide +kernel
theorem dX1_keepBits_97 : decode cX1_keepBits 97 = .ok (.return_, 1) := by decide +kernel
theorem dX1_keepItem_0 : decode cX1_keepItem 0 = .ok (.aload_n 0, 1) := by decide +kernel
theorem dX1_keepItem_1 : decode cX1_keepItem 1 = .ok (.getfield 38, 3) := by decide +kernel
theorem dX1_keepItem_4 : decode cX1_keepItem 4 = .ok (.ifCond .eq 4, 3) := by decide +kernel
theorem dX1_keepItem_7 : decode cX1_keepItem 7 = .ok (.return_, 1) := by decide +kernel
theorem dX1_keepItem_8 : decode cX1_keepItem 8 = .ok (.aload_n 0, 1) := by decide +kernel
theorem dX1_keepItem_9 : decode cX1_keepItem 9 = .ok (.getfield 26, 3) := by decide +kernel
theorem dX1_keepItem_12 : decode cX1_keepItem 12 = .ok (.aload_n 0, 1) := by decide +kernel
theorem dX1_keepItem_13 : decode cX1_keepItem 13 = .ok (.getfield 114, 3) := by decide +kernel
theorem dX1_keepItem_16 : decode cX1_keepItem 16 = .ok (.aload_n 0, 1) := by decide +kernel
theorem dX1_keepItem_17 : decode cX1_keepItem 17 = .ok (.getfield 94, 3) := by decide +kernel
theorem dX1_keepItem_20 : decode cX1_keepItem 20 = .ok (.invokevirtual 219, 3) := by decide +kernel
theorem dX1_keepItem_23 : decode cX1_keepItem 23 = .ok (.aload_n 0, 1) := by decide +kernel
theorem dX1_keepItem_24 : decode cX1_keepItem 24 = .ok (.getfield 98, 3) := by decide +kernel
theorem dX1_keepItem_27 : decode cX1_keepItem 27 = .ok (.tableswitch 90 1 5 #[33, 40, 47, 61, 83], 33) := by decide +kernel
theorem dX1_keepItem_60 : decode cX1_keepItem 60 = .ok (.aload_n 0, 1) := by decide +kernel
theorem dX1_keepItem_61 : decode cX1_keepItem 61 = .ok (.invokevirtual 223, 3) := by decide +kernel
theorem dX1_keepItem_64 : decode cX1_keepItem 64 = .ok (.goto 53, 3) := by decide +kernel
theorem dX1_keepItem_67 : decode cX1_keepItem 67 = .ok (.aload_n 0, 1) := by decide +kernel
theorem dX1_keepItem_68 : decode cX1_keepItem 68 = .ok (.invokevirtual 223, 3) := by decide +kernel
theorem dX1_keepItem_71 : decode cX1_keepItem 71 = .ok (.goto 46, 3) := by decide +kernel
theorem dX1_keepItem_74 : decode cX1_keepItem 74 = .ok (.aload_n 0, 1) := by decide +kernel
theorem dX1_keepItem_75 : decode cX1_keepItem 75 = .ok (.getfield 26, 3) := by decide +kernel
theorem dX1_keepItem_78 : decode cX1_keepItem 78 = .ok (.aload_n 0, 1) := by decide +kernel
theorem dX1_keepItem_79 : decode cX1_keepItem 79 = .ok (.getfield 104, 3) := by decide +kernel
theorem dX1_keepItem_82 : decode cX1_keepItem 82 = .ok (.invokevirtual 226, 3) := by decide +kernel
theorem dX1_keepItem_85 : decode cX1_keepItem 85 = .ok (.goto 32, 3) := by decide +kernel
theorem dX1_keepItem_88 : decode cX1_keepItem 88 = .ok (.aload_n 0, 1) := by decide +kernel
theorem dX1_keepItem_89 : decode cX1_keepItem 89 = .ok (.getfield 26, 3) := by decide +kernel
theorem dX1_keepItem_92 : decode cX1_keepItem 92 = .ok (.aload_n 0, 1) := by decide +kernel
theorem dX1_keepItem_93 : decode cX1_keepItem 93 = .ok (.getfield 22, 3) := by decide +kernel
theorem dX1_keepItem_96 : decode cX1_keepItem 96 = .ok (.aload_n 0, 1) := by decide +kernel
theorem dX1_keepItem_97 : decode cX1_keepItem 97 = .ok (.getfield 169, 3) := by decide +kernel
theorem dX1_keepItem_100 : decode cX1_keepItem 100 = .ok (.aload_n 0, 1) := by decide +kernel
theorem dX1_keepItem_101 : decode cX1_keepItem 101 = .ok (.getfield 101, 3) := by decide +kernel
theorem dX1_keepItem_104 : decode cX1_keepItem 104 = .ok (.invokevirtual 229, 3) := by decide +kernel
theorem dX1_keepItem_107 : decode cX1_keepItem 107 = .ok (.goto 10, 3) := by decide +kernel
theorem dX1_keepItem_110 : decode cX1_keepItem 110 = .ok (.aload_n 0, 1) := by decide +kernel
theorem dX1_keepItem_111 : decode cX1_keepItem 111 = .ok (.invokevirtual 233, 3) := by decide +kernel
theorem dX1_keepItem_114 : decode cX1_keepItem 114 = .ok (.goto 3, 3) := by decide +kernel
theorem dX1_keepItem_117 : decode cX1_keepItem 117 = .ok (.return_, 1) := by decide +kernel
theorem dX1_keepText_0 : decode cX1_keepText 0 = .ok (.aload_n 0, 1) := by decide +kernel
theorem dX1_keepText_1 : decode cX1_keepText 1 = .ok (.getfield 26, 3) := by decide +kernel
theorem dX1_keepText_4 : decode cX1_keepText 4 = .ok (.aload_n 0, 1) := by decide +kernel
theorem dX1_keepText_5 : decode cX1_keepText 5 = .ok (.getfield 22, 3) := by decide +kernel
theorem dX1_keepText_8 : decode cX1_keepText 8 = .ok (.aload_n 0, 1) := by decide +kernel
theorem dX1_keepText_9 : decode cX1_keepText 9 = .ok (.getfield 169, 3) := by decide +kernel
theorem dX1_keepText_12 : decode cX1_keepText 12 = .ok (.aload_n 0, 1) := by decide +kernel
theorem dX1_keepText_13 : decode cX1_keepText 13 = .ok (.getfield 101, 3) := by decide +kernel
theorem dX1_keepText_16 : decode cX1_keepText 16 = .ok (.invokevirtual 229, 3) := by decide +kernel
theorem dX1_keepText_19 : decode cX1_keepText 19 = .ok (.aload_n 0, 1) := by decide +kernel
theorem dX1_keepText_20 : decode cX1_keepText 20 = .ok (.invokevirtual 176, 3) := by decide +kernel
theorem dX1_keepText_23 : decode cX1_keepText 23 = .ok (.ifCond .eq 33, 3) := by decide +kernel
theorem dX1_keepText_26 : decode cX1_keepText 26 = .ok (.aload_n 0, 1) := by decide +kernel
theorem dX1_keepText_27 : decode cX1_keepText 27 = .ok (.getfield 101, 3) := by decide +kernel
theorem dX1_keepText_30 : decode cX1_keepText 30 = .ok (.invokestatic 236, 3) := by decide +kernel
theorem dX1_keepText_33 : decode cX1_keepText 33 = .ok (.ifCond .eq 23, 3) := by decide +kernel
theorem dX1_keepText_36 : decode cX1_keepText 36 = .ok (.aload_n 0, 1) := by decide +kernel
theorem dX1_keepText_37 : decode cX1_keepText 37 = .ok (.invokevirtual 206, 3) := by decide +kernel
theorem dX1_keepText_40 : decode cX1_keepText 40 = .ok (.aload_n 0, 1) := by decide +kernel
theorem dX1_keepText_41 : decode cX1_keepText 41 = .ok (.getfield 26, 3) := by decide +kernel
theorem dX1_keepText_44 : decode cX1_keepText 44 = .ok (.aload_n 0, 1) := by decide +kernel
theorem dX1_keepText_45 : decode cX1_keepText 45 = .ok (.getfield 26, 3) := by decide +kernel
theorem dX1_keepText_48 : decode cX1_keepText 48 = .ok (.invokevirtual 239, 3) := by decide +kernel
theorem dX1_keepText_51 : decode cX1_keepText 51 = .ok (.iconst 1, 1) := by decide +kernel
theorem dX1_keepText_52 : decode cX1_keepText 52 = .ok (.isub, 1) := by decide +kernel
theorem dX1_keepText_53 : decode cX1_keepText 53 = .ok (.invokevirtual 240, 3) := by decide +kernel
theorem dX1_keepText_56 : decode cX1_keepText 56 = .ok (.return_, 1) := by decide +kernel
theorem dX1_refuseByte_0 : decode cX1_refuseByte 0 = .ok (.aload_n 0, 1) := by decide +kernel
theorem dX1_refuseByte_1 : decode cX1_refuseByte 1 = .ok (.iconst 3, 1) := by decide +kernel
theorem dX1_refuseByte_2 : decode cX1_refuseByte 2 = .ok (.aload_n 0, 1) := by decide +kernel
theorem dX1_refuseByte_3 : decode cX1_refuseByte 3 = .ok (.getfield 69, 3) := by decide +kernel
theorem dX1_refuseByte_6 : decode cX1_refuseByte 6 = .ok (.iconst 1, 1) := by decide +kernel
theorem dX1_refuseByte_7 : decode cX1_refuseByte 7 = .ok (.isub, 1) := by decide +kernel
theorem dX1_refuseByte_8 : decode cX1_refuseByte 8 = .ok (.invokevirtual 77, 3) := by decide +kernel
theorem dX1_refuseByte_11 : decode cX1_refuseByte 11 = .ok (.return_, 1) := by decide +kernel
theorem dX1_scanArrayEnd_0 : decode cX1_scanArrayEnd 0 = .ok (.aload_n 0, 1) := by decide +kernel
theorem dX1_scanArrayEnd_1 : decode cX1_scanArrayEnd 1 = .ok (.bipush 11, 2) := by decide +kernel
theorem dX1_scanArrayEnd_3 : decode cX1_scanArrayEnd 3 = .ok (.putfield 114, 3) := by decide +kernel
theorem dX1_scanArrayEnd_6 : decode cX1_scanArrayEnd 6 = .ok (.aload_n 0, 1) := by decide +kernel
theorem dX1_scanArrayEnd_7 : decode cX1_scanArrayEnd 7 = .ok (.getfield 26, 3) := by decide +kernel
theorem dX1_scanArrayEnd_10 : decode cX1_scanArrayEnd 10 = .ok (.invokevirtual 155, 3) := by decide +kernel
theorem dX1_scanArrayEnd_13 : decode cX1_scanArrayEnd 13 = .ok (.iconst 5, 1) := by decide +kernel
theorem dX1_scanArrayEnd_14 : decode cX1_scanArrayEnd 14 = .ok (.if_icmp .eq 7, 3) := by decide +kernel
theorem dX1_scanArrayEnd_17 : decode cX1_scanArrayEnd 17 = .ok (.aload_n 0, 1) := by decide +kernel
theorem dX1_scanArrayEnd_18 : decode cX1_scanArrayEnd 18 = .ok (.invokevirtual 129, 3) := by decide +kernel
theorem dX1_scanArrayEnd_21 : decode cX1_scanArrayEnd 21 = .ok (.return_, 1) := by decide +kernel
theorem dX1_scanBits_0 : decode cX1_scanBits 0 = .ok (.aload_n 0, 1) := by decide +kernel
theorem dX1_scanBits_1 : decode cX1_scanBits 1 = .ok (.iconst 4, 1) := by decide +kernel
theorem dX1_scanBits_2 : decode cX1_scanBits 2 = .ok (.putfield 114, 3) := by decide +kernel
theorem dX1_scanBits_5 : decode cX1_scanBits 5 = .ok (.aload_n 0, 1) := by decide +kernel
theorem dX1_scanBits_6 : decode cX1_scanBits 6 = .ok (.iconst 5, 1) := by decide +kernel
theorem dX1_scanBits_7 : decode cX1_scanBits 7 = .ok (.putfield 98, 3) := by decide +kernel
theorem dX1_scanBits_10 : decode cX1_scanBits 10 = .ok (.aload_n 0, 1) := by decide +kernel
theorem dX1_scanBits_11 : decode cX1_scanBits 11 = .ok (.iconst 5, 1) := by decide +kernel
theorem dX1_scanBits_12 : decode cX1_scanBits 12 = .ok (.bipush 32, 2) := by decide +kernel
theorem dX1_scanBits_14 : decode cX1_scanBits 14 = .ok (.invokevirtual 158, 3) := by decide +kernel
theorem dX1_scanBits_17 : decode cX1_scanBits 17 = .ok (.lstore_n 1, 1) := by decide +kernel
theorem dX1_scanBits_18 : decode cX1_scanBits 18 = .ok (.aload_n 0, 1) := by decide +kernel
theorem dX1_scanBits_19 : decode cX1_scanBits 19 = .ok (.aload_n 0, 1) := by decide +kernel
theorem dX1_scanBits_20 : decode cX1_scanBits 20 = .ok (.getfield 69, 3) := by decide +kernel
theorem dX1_scanBits_23 : decode cX1_scanBits 23 = .ok (.putfield 169, 3) := by decide +kernel
theorem dX1_scanBits_26 : decode cX1_scanBits 26 = .ok (.iconst 0, 1) := by decide +kernel
theorem dX1_scanBits_27 : decode cX1_scanBits 27 = .ok (.istore_n 3, 1) := by decide +kernel
theorem dX1_scanBits_28 : decode cX1_scanBits 28 = .ok (.lload_n 1, 1) := by decide +kernel
theorem dX1_scanBits_29 : decode cX1_scanBits 29 = .ok (.invokestatic 179, 3) := by decide +kernel
theorem dX1_scanBits_32 : decode cX1_scanBits 32 = .ok (.aload_n 0, 1) := by decide +kernel
theorem dX1_scanBits_33 : decode cX1_scanBits 33 = .ok (.getfield 22, 3) := by decide +kernel
theorem dX1_scanBits_36 : decode cX1_scanBits 36 = .ok (.invokevirtual 72, 3) := by decide +kernel
theorem dX1_scanBits_39 : decode cX1_scanBits 39 = .ok (.i2l, 1) := by decide +kernel
theorem dX1_scanBits_40 : decode cX1_scanBits 40 = .ok (.lconst 1, 1) := by decide +kernel
theorem dX1_scanBits_41 : decode cX1_scanBits 41 = .ok (.ladd, 1) := by decide +kernel
theorem dX1_scanBits_42 : decode cX1_scanBits 42 = .ok (.invokestatic 182, 3) := by decide +kernel
theorem dX1_scanBits_45 : decode cX1_scanBits 45 = .ok (.lstore 4, 2) := by decide +kernel
theorem dX1_scanBits_47 : decode cX1_scanBits 47 = .ok (.lconst 0, 1) := by decide +kernel
theorem dX1_scanBits_48 : decode cX1_scanBits 48 = .ok (.lstore 6, 2) := by decide +kernel
theorem dX1_scanBits_50 : decode cX1_scanBits 50 = .ok (.lload 6, 2) := by decide +kernel
theorem dX1_scanBits_52 : decode cX1_scanBits 52 = .ok (.lload 4, 2) := by decide +kernel
theorem dX1_scanBits_54 : decode cX1_scanBits 54 = .ok (.lcmp, 1) := by decide +kernel
theorem dX1_scanBits_55 : decode cX1_scanBits 55 = .ok (.ifCond .ge 24, 3) := by decide +kernel
theorem dX1_scanBits_58 : decode cX1_scanBits 58 = .ok (.aload_n 0, 1) := by decide +kernel
theorem dX1_scanBits_59 : decode cX1_scanBits 59 = .ok (.getfield 38, 3) := by decide +kernel
theorem dX1_scanBits_62 : decode cX1_scanBits 62 = .ok (.ifCond .ne 17, 3) := by decide +kernel
theorem dX1_scanBits_65 : decode cX1_scanBits 65 = .ok (.aload_n 0, 1) := by decide +kernel
theorem dX1_scanBits_66 : decode cX1_scanBits 66 = .ok (.invokevirtual 162, 3) := by decide +kernel
theorem dX1_scanBits_69 : decode cX1_scanBits 69 = .ok (.istore_n 3, 1) := by decide +kernel
theorem dX1_scanBits_70 : decode cX1_scanBits 70 = .ok (.lload 6, 2) := by decide +kernel
theorem dX1_scanBits_72 : decode cX1_scanBits 72 = .ok (.lconst 1, 1) := by decide +kernel
theorem dX1_scanBits_73 : decode cX1_scanBits 73 = .ok (.ladd, 1) := by decide +kernel
theorem dX1_scanBits_74 : decode cX1_scanBits 74 = .ok (.lstore 6, 2) := by decide +kernel
theorem dX1_scanBits_76 : decode cX1_scanBits 76 = .ok (.goto (-26), 3) := by decide +kernel
theorem dX1_scanBits_79 : decode cX1_scanBits 79 = .ok (.aload_n 0, 1) := by decide +kernel
theorem dX1_scanBits_80 : decode cX1_scanBits 80 = .ok (.getfield 38, 3) := by decide +kernel
theorem dX1_scanBits_83 : decode cX1_scanBits 83 = .ok (.ifCond .ne 37, 3) := by decide +kernel
theorem dX1_scanBits_86 : decode cX1_scanBits 86 = .ok (.aload_n 0, 1) := by decide +kernel
theorem dX1_scanBits_87 : decode cX1_scanBits 87 = .ok (.lload_n 1, 1) := by decide +kernel
theorem dX1_scanBits_88 : decode cX1_scanBits 88 = .ok (.l2i, 1) := by decide +kernel
theorem dX1_scanBits_89 : decode cX1_scanBits 89 = .ok (.putfield 101, 3) := by decide +kernel
theorem dX1_scanBits_92 : decode cX1_scanBits 92 = .ok (.aload_n 0, 1) := by decide +kernel
theorem dX1_scanBits_93 : decode cX1_scanBits 93 = .ok (.aload_n 0, 1) := by decide +kernel
theorem dX1_scanBits_94 : decode cX1_scanBits 94 = .ok (.getfield 107, 3) := by decide +kernel
theorem dX1_scanBits_97 : decode cX1_scanBits 97 = .ok (.ifCond .ne 15, 3) := by decide +kernel
theorem dX1_scanBits_100 : decode cX1_scanBits 100 = .ok (.iload_n 3, 1) := by decide +kernel
theorem dX1_scanBits_101 : decode cX1_scanBits 101 = .ok (.aload_n 0, 1) := by decide +kernel
theorem dX1_scanBits_102 : decode cX1_scanBits 102 = .ok (.getfield 101, 3) := by decide +kernel
theorem dX1_scanBits_105 : decode cX1_scanBits 105 = .ok (.invokestatic 188, 3) := by decide +kernel
theorem dX1_scanBits_108 : decode cX1_scanBits 108 = .ok (.iushr, 1) := by decide +kernel
theorem dX1_scanBits_109 : decode cX1_scanBits 109 = .ok (.ifCond .eq 7, 3) := by decide +kernel
theorem dX1_scanBits_112 : decode cX1_scanBits 112 = .ok (.iconst 1, 1) := by decide +kernel
theorem dX1_scanBits_113 : decode cX1_scanBits 113 = .ok (.goto 4, 3) := by decide +kernel
theorem dX1_scanBits_116 : decode cX1_scanBits 116 = .ok (.iconst 0, 1) := by decide +kernel
theorem dX1_scanBits_117 : decode cX1_scanBits 117 = .ok (.putfield 107, 3) := by decide +kernel
theorem dX1_scanBits_120 : decode cX1_scanBits 120 = .ok (.return_, 1) := by decide +kernel
theorem dX1_scanBrief_0 : decode cX1_scanBrief 0 = .ok (.aload_n 0, 1) := by decide +kernel
theorem dX1_scanBrief_1 : decode cX1_scanBrief 1 = .ok (.iconst 3, 1) := by decide +kernel
theorem dX1_scanBrief_2 : decode cX1_scanBrief 2 = .ok (.putfield 114, 3) := by decide +kernel
theorem dX1_scanBrief_5 : decode cX1_scanBrief 5 = .ok (.iload_n 1, 1) := by decide +kernel
theorem dX1_scanBrief_6 : decode cX1_scanBrief 6 = .ok (.iconst 1, 1) := by decide +kernel
theorem dX1_scanBrief_7 : decode cX1_scanBrief 7 = .ok (.if_icmp .lt 19, 3) := by decide +kernel
theorem dX1_scanBrief_10 : decode cX1_scanBrief 10 = .ok (.iload_n 1, 1) := by decide +kernel
theorem dX1_scanBrief_11 : decode cX1_scanBrief 11 = .ok (.bipush 32, 2) := by decide +kernel
theorem dX1_scanBrief_13 : decode cX1_scanBrief 13 = .ok (.if_icmp .ge 13, 3) := by decide +kernel
theorem dX1_scanBrief_16 : decode cX1_scanBrief 16 = .ok (.aload_n 0, 1) := by decide +kernel
theorem dX1_scanBrief_17 : decode cX1_scanBrief 17 = .ok (.iload_n 1, 1) := by decide +kernel
theorem dX1_scanBrief_18 : decode cX1_scanBrief 18 = .ok (.iconst 1, 1) := by decide +kernel
theorem dX1_scanBrief_19 : decode cX1_scanBrief 19 = .ok (.isub, 1) := by decide +kernel
theorem dX1_scanBrief_20 : decode cX1_scanBrief 20 = .ok (.invokevirtual 126, 3) := by decide +kernel
theorem dX1_scanBrief_23 : decode cX1_scanBrief 23 = .ok (.goto 195, 3) := by decide +kernel
theorem dX1_scanBrief_26 : decode cX1_scanBrief 26 = .ok (.iload_n 1, 1) := by decide +kernel
theorem dX1_scanBrief_27 : decode cX1_scanBrief 27 = .ok (.bipush 32, 2) := by decide +kernel
theorem dX1_scanBrief_29 : decode cX1_scanBrief 29 = .ok (.if_icmp .ne 12, 3) := by decide +kernel
theorem dX1_scanBrief_32 : decode cX1_scanBrief 32 = .ok (.aload_n 0, 1) := by decide +kernel
theorem dX1_scanBrief_33 : decode cX1_scanBrief 33 = .ok (.iconst 0, 1) := by decide +kernel
theorem dX1_scanBrief_34 : decode cX1_scanBrief 34 = .ok (.iconst 2, 1) := by decide +kernel
theorem dX1_scanBrief_35 : decode cX1_scanBrief 35 = .ok (.invokevirtual 117, 3) := by decide +kernel
theorem dX1_scanBrief_38 : decode cX1_scanBrief 38 = .ok (.goto 180, 3) := by decide +kernel
theorem dX1_scanBrief_41 : decode cX1_scanBrief 41 = .ok (.iload_n 1, 1) := by decide +kernel
theorem dX1_scanBrief_42 : decode cX1_scanBrief 42 = .ok (.bipush 33, 2) := by decide +kernel
theorem dX1_scanBrief_44 : decode cX1_scanBrief 44 = .ok (.if_icmp .lt 22, 3) := by decide +kernel
theorem dX1_scanBrief_47 : decode cX1_scanBrief 47 = .ok (.iload_n 1, 1) := by decide +kernel
theorem dX1_scanBrief_48 : decode cX1_scanBrief 48 = .ok (.bipush 35, 2) := by decide +kernel
theorem dX1_scanBrief_50 : decode cX1_scanBrief 50 = .ok (.if_icmp .gt 16, 3) := by decide +kernel
theorem dX1_scanBrief_53 : decode cX1_scanBrief 53 = .ok (.aload_n 0, 1) := by decide +kernel
theorem dX1_scanBrief_54 : decode cX1_scanBrief 54 = .ok (.iconst 0, 1) := by decide +kernel
theorem dX1_scanBrief_55 : decode cX1_scanBrief 55 = .ok (.iload_n 1, 1) := by decide +kernel
theorem dX1_scanBrief_56 : decode cX1_scanBrief 56 = .ok (.iadd, 1) := by decide +kernel
theorem dX1_scanBrief_57 : decode cX1_scanBrief 57 = .ok (.bipush 33, 2) := by decide +kernel
theorem dX1_scanBrief_59 : decode cX1_scanBrief 59 = .ok (.isub, 1) := by decide +kernel
theorem dX1_scanBrief_60 : decode cX1_scanBrief 60 = .ok (.putfield 114, 3) := by decide +kernel
theorem dX1_scanBrief_63 : decode cX1_scanBrief 63 = .ok (.goto 155, 3) := by decide +kernel
theorem dX1_scanBrief_66 : decode cX1_scanBrief 66 = .ok (.iload_n 1, 1) := by decide +kernel
theorem dX1_scanBrief_67 : decode cX1_scanBrief 67 = .ok (.bipush 64, 2) := by decide +kernel
theorem dX1_scanBrief_69 : decode cX1_scanBrief 69 = .ok (.if_icmp .lt 24, 3) := by decide +kernel
theorem dX1_scanBrief_72 : decode cX1_scanBrief 72 = .ok (.iload_n 1, 1) := by decide +kernel
theorem dX1_scanBrief_73 : decode cX1_scanBrief 73 = .ok (.sipush 128, 3) := by decide +kernel
theorem dX1_scanBrief_76 : decode cX1_scanBrief 76 = .ok (.if_icmp .ge 17, 3) := by decide +kernel
theorem dX1_scanBrief_79 : decode cX1_scanBrief 79 = .ok (.aload_n 0, 1) := by decide +kernel
theorem dX1_scanBrief_80 : decode cX1_scanBrief 80 = .ok (.iload_n 1, 1) := by decide +kernel
theorem dX1_scanBrief_81 : decode cX1_scanBrief 81 = .ok (.bipush 64, 2) := by decide +kernel
theorem dX1_scanBrief_83 : decode cX1_scanBrief 83 = .ok (.isub, 1) := by decide +kernel
theorem dX1_scanBrief_84 : decode cX1_scanBrief 84 = .ok (.iconst 1, 1) := by decide +kernel
theorem dX1_scanBrief_85 : decode cX1_scanBrief 85 = .ok (.iadd, 1) := by decide +kernel
theorem dX1_scanBrief_86 : decode cX1_scanBrief 86 = .ok (.iconst 1, 1) := by decide +kernel
theorem dX1_scanBrief_87 : decode cX1_scanBrief 87 = .ok (.invokevirtual 117, 3) := by decide +kernel
theorem dX1_scanBrief_90 : decode cX1_scanBrief 90 = .ok (.goto 128, 3) := by decide +kernel
theorem dX1_scanBrief_93 : decode cX1_scanBrief 93 = .ok (.iload_n 1, 1) := by decide +kernel
theorem dX1_scanBrief_94 : decode cX1_scanBrief 94 = .ok (.sipush 128, 3) := by decide +kernel
theorem dX1_scanBrief_97 : decode cX1_scanBrief 97 = .ok (.if_icmp .lt 25, 3) := by decide +kernel
theorem dX1_scanBrief_100 : decode cX1_scanBrief 100 = .ok (.iload_n 1, 1) := by decide +kernel
theorem dX1_scanBrief_101 : decode cX1_scanBrief 101 = .ok (.sipush 190, 3) := by decide +kernel
theorem dX1_scanBrief_104 : decode cX1_scanBrief 104 = .ok (.if_icmp .gt 18, 3) := by decide +kernel
theorem dX1_scanBrief_107 : decode cX1_scanBrief 107 = .ok (.aload_n 0, 1) := by decide +kernel
theorem dX1_scanBrief_108 : decode cX1_scanBrief 108 = .ok (.iload_n 1, 1) := by decide +kernel
theorem dX1_scanBrief_109 : decode cX1_scanBrief 109 = .ok (.sipush 128, 3) := by decide +kernel
theorem dX1_scanBrief_112 : decode cX1_scanBrief 112 = .ok (.isub, 1) := by decide +kernel
theorem dX1_scanBrief_113 : decode cX1_scanBrief 113 = .ok (.iconst 2, 1) := by decide +kernel
theorem dX1_scanBrief_114 : decode cX1_scanBrief 114 = .ok (.iadd, 1) := by decide +kernel
theorem dX1_scanBrief_115 : decode cX1_scanBrief 115 = .ok (.iconst 2, 1) := by decide +kernel
theorem dX1_scanBrief_116 : decode cX1_scanBrief 116 = .ok (.invokevirtual 117, 3) := by decide +kernel
theorem dX1_scanBrief_119 : decode cX1_scanBrief 119 = .ok (.goto 99, 3) := by decide +kernel
theorem dX1_scanBrief_122 : decode cX1_scanBrief 122 = .ok (.iload_n 1, 1) := by decide +kernel
theorem dX1_scanBrief_123 : decode cX1_scanBrief 123 = .ok (.sipush 192, 3) := by decide +kernel
theorem dX1_scanBrief_126 : decode cX1_scanBrief 126 = .ok (.if_icmp .lt 32, 3) := by decide +kernel
theorem dX1_scanBrief_129 : decode cX1_scanBrief 129 = .ok (.iload_n 1, 1) := by decide +kernel
theorem dX1_scanBrief_130 : decode cX1_scanBrief 130 = .ok (.sipush 223, 3) := by decide +kernel
theorem dX1_scanBrief_133 : decode cX1_scanBrief 133 = .ok (.if_icmp .gt 25, 3) := by decide +kernel
theorem dX1_scanBrief_136 : decode cX1_scanBrief 136 = .ok (.aload_n 0, 1) := by decide +kernel
theorem dX1_scanBrief_137 : decode cX1_scanBrief 137 = .ok (.bipush 7, 2) := by decide +kernel
theorem dX1_scanBrief_139 : decode cX1_scanBrief 139 = .ok (.putfield 114, 3) := by decide +kernel
theorem dX1_scanBrief_142 : decode cX1_scanBrief 142 = .ok (.aload_n 0, 1) := by decide +kernel
theorem dX1_scanBrief_143 : decode cX1_scanBrief 143 = .ok (.iload_n 1, 1) := by decide +kernel
theorem dX1_scanBrief_144 : decode cX1_scanBrief 144 = .ok (.sipush 192, 3) := by decide +kernel
theorem dX1_scanBrief_147 : decode cX1_scanBrief 147 = .ok (.isub, 1) := by decide +kernel
theorem dX1_scanBrief_148 : decode cX1_scanBrief 148 = .ok (.i2l, 1) := by decide +kernel
theorem dX1_scanBrief_149 : decode cX1_scanBrief 149 = .ok (.invokestatic 151, 3) := by decide +kernel
theorem dX1_scanBrief_152 : decode cX1_scanBrief 152 = .ok (.putfield 94, 3) := by decide +kernel
theorem dX1_scanBrief_155 : decode cX1_scanBrief 155 = .ok (.goto 63, 3) := by decide +kernel
theorem dX1_scanBrief_158 : decode cX1_scanBrief 158 = .ok (.iload_n 1, 1) := by decide +kernel
theorem dX1_scanBrief_159 : decode cX1_scanBrief 159 = .ok (.sipush 224, 3) := by decide +kernel
theorem dX1_scanBrief_162 : decode cX1_scanBrief 162 = .ok (.if_icmp .ne 11, 3) := by decide +kernel
theorem dX1_scanBrief_165 : decode cX1_scanBrief 165 = .ok (.aload_n 0, 1) := by decide +kernel
theorem dX1_scanBrief_166 : decode cX1_scanBrief 166 = .ok (.iconst 1, 1) := by decide +kernel
theorem dX1_scanBrief_167 : decode cX1_scanBrief 167 = .ok (.invokevirtual 123, 3) := by decide +kernel
theorem dX1_scanBrief_170 : decode cX1_scanBrief 170 = .ok (.goto 48, 3) := by decide +kernel
theorem dX1_scanBrief_173 : decode cX1_scanBrief 173 = .ok (.iload_n 1, 1) := by decide +kernel
theorem dX1_scanBrief_174 : decode cX1_scanBrief 174 = .ok (.sipush 228, 3) := by decide +kernel
theorem dX1_scanBrief_177 : decode cX1_scanBrief 177 = .ok (.if_icmp .ne 11, 3) := by decide +kernel
theorem dX1_scanBrief_180 : decode cX1_scanBrief 180 = .ok (.aload_n 0, 1) := by decide +kernel
theorem dX1_scanBrief_181 : decode cX1_scanBrief 181 = .ok (.iconst 2, 1) := by decide +kernel
theorem dX1_scanBrief_182 : decode cX1_scanBrief 182 = .ok (.invokevirtual 123, 3) := by decide +kernel
theorem dX1_scanBrief_185 : decode cX1_scanBrief 185 = .ok (.goto 33, 3) := by decide +kernel
theorem dX1_scanBrief_188 : decode cX1_scanBrief 188 = .ok (.iload_n 1, 1) := by decide +kernel
theorem dX1_scanBrief_189 : decode cX1_scanBrief 189 = .ok (.sipush 236, 3) := by decide +kernel
theorem dX1_scanBrief_192 : decode cX1_scanBrief 192 = .ok (.if_icmp .lt 22, 3) := by decide +kernel
theorem dX1_scanBrief_195 : decode cX1_scanBrief 195 = .ok (.iload_n 1, 1) := by decide +kernel
theorem dX1_scanBrief_196 : decode cX1_scanBrief 196 = .ok (.sipush 239, 3) := by decide +kernel
theorem dX1_scanBrief_199 : decode cX1_scanBrief 199 = .ok (.if_icmp .gt 15, 3) := by decide +kernel
theorem dX1_scanBrief_202 : decode cX1_scanBrief 202 = .ok (.aload_n 0, 1) := by decide +kernel
theorem dX1_scanBrief_203 : decode cX1_scanBrief 203 = .ok (.iload_n 1, 1) := by decide +kernel
theorem dX1_scanBrief_204 : decode cX1_scanBrief 204 = .ok (.sipush 236, 3) := by decide +kernel
theorem dX1_scanBrief_207 : decode cX1_scanBrief 207 = .ok (.isub, 1) := by decide +kernel
theorem dX1_scanBrief_208 : decode cX1_scanBrief 208 = .ok (.invokevirtual 120, 3) := by decide +kernel
theorem dX1_scanBrief_211 : decode cX1_scanBrief 211 = .ok (.goto 7, 3) := by decide +kernel
theorem dX1_scanBrief_214 : decode cX1_scanBrief 214 = .ok (.aload_n 0, 1) := by decide +kernel
theorem dX1_scanBrief_215 : decode cX1_scanBrief 215 = .ok (.invokevirtual 129, 3) := by decide +kernel
theorem dX1_scanBrief_218 : decode cX1_scanBrief 218 = .ok (.return_, 1) := by decide +kernel
theorem dX1_scanFarPlace_0 : decode cX1_scanFarPlace 0 = .ok (.aload_n 0, 1) := by decide +kernel
theorem dX1_scanFarPlace_1 : decode cX1_scanFarPlace 1 = .ok (.iconst 3, 1) := by decide +kernel
theorem dX1_scanFarPlace_2 : decode cX1_scanFarPlace 2 = .ok (.putfield 98, 3) := by decide +kernel
theorem dX1_scanFarPlace_5 : decode cX1_scanFarPlace 5 = .ok (.aload_n 0, 1) := by decide +kernel
theorem dX1_scanFarPlace_6 : decode cX1_scanFarPlace 6 = .ok (.invokevirtual 176, 3) := by decide +kernel
theorem dX1_scanFarPlace_9 : decode cX1_scanFarPlace 9 = .ok (.ifCond .eq 20, 3) := by decide +kernel
theorem dX1_scanFarPlace_12 : decode cX1_scanFarPlace 12 = .ok (.aload_n 0, 1) := by decide +kernel
theorem dX1_scanFarPlace_13 : decode cX1_scanFarPlace 13 = .ok (.iload_n 1, 1) := by decide +kernel
theorem dX1_scanFarPlace_14 : decode cX1_scanFarPlace 14 = .ok (.sipush 256, 3) := by decide +kernel
theorem dX1_scanFarPlace_17 : decode cX1_scanFarPlace 17 = .ok (.imul, 1) := by decide +kernel
theorem dX1_scanFarPlace_18 : decode cX1_scanFarPlace 18 = .ok (.aload_n 0, 1) := by decide +kernel
theorem dX1_scanFarPlace_19 : decode cX1_scanFarPlace 19 = .ok (.invokevirtual 111, 3) := by decide +kernel
theorem dX1_scanFarPlace_22 : decode cX1_scanFarPlace 22 = .ok (.iadd, 1) := by decide +kernel
theorem dX1_scanFarPlace_23 : decode cX1_scanFarPlace 23 = .ok (.putfield 104, 3) := by decide +kernel
theorem dX1_scanFarPlace_26 : decode cX1_scanFarPlace 26 = .ok (.goto 7, 3) := by decide +kernel
theorem dX1_scanFarPlace_29 : decode cX1_scanFarPlace 29 = .ok (.aload_n 0, 1) := by decide +kernel
theorem dX1_scanFarPlace_30 : decode cX1_scanFarPlace 30 = .ok (.invokevirtual 129, 3) := by decide +kernel
theorem dX1_scanFarPlace_33 : decode cX1_scanFarPlace 33 = .ok (.return_, 1) := by decide +kernel
theorem dX1_scanHead_0 : decode cX1_scanHead 0 = .ok (.iconst 0, 1) := by decide +kernel
theorem dX1_scanHead_1 : decode cX1_scanHead 1 = .ok (.istore_n 1, 1) := by decide +kernel
theorem dX1_scanHead_2 : decode cX1_scanHead 2 = .ok (.iload_n 1, 1) := by decide +kernel
theorem dX1_scanHead_3 : decode cX1_scanHead 3 = .ok (.iconst 4, 1) := by decide +kernel
theorem dX1_scanHead_4 : decode cX1_scanHead 4 = .ok (.if_icmp .ge 30, 3) := by decide +kernel
theorem dX1_scanHead_7 : decode cX1_scanHead 7 = .ok (.iload_n 1, 1) := by decide +kernel
theorem dX1_scanHead_8 : decode cX1_scanHead 8 = .ok (.aload_n 0, 1) := by decide +kernel
theorem dX1_scanHead_9 : decode cX1_scanHead 9 = .ok (.getfield 22, 3) := by decide +kernel
theorem dX1_scanHead_12 : decode cX1_scanHead 12 = .ok (.iload_n 1, 1) := by decide +kernel
theorem dX1_scanHead_13 : decode cX1_scanHead 13 = .ok (.invokevirtual 81, 3) := by decide +kernel
theorem dX1_scanHead_16 : decode cX1_scanHead 16 = .ok (.invokestatic 84, 3) := by decide +kernel
theorem dX1_scanHead_19 : decode cX1_scanHead 19 = .ok (.ifCond .ne 9, 3) := by decide +kernel
theorem dX1_scanHead_22 : decode cX1_scanHead 22 = .ok (.aload_n 0, 1) := by decide +kernel
theorem dX1_scanHead_23 : decode cX1_scanHead 23 = .ok (.iconst 1, 1) := by decide +kernel
theorem dX1_scanHead_24 : decode cX1_scanHead 24 = .ok (.iload_n 1, 1) := by decide +kernel
theorem dX1_scanHead_25 : decode cX1_scanHead 25 = .ok (.invokevirtual 77, 3) := by decide +kernel
theorem dX1_scanHead_28 : decode cX1_scanHead 28 = .ok (.iinc 1 1, 3) := by decide +kernel
theorem dX1_scanHead_31 : decode cX1_scanHead 31 = .ok (.goto (-29), 3) := by decide +kernel
theorem dX1_scanHead_34 : decode cX1_scanHead 34 = .ok (.aload_n 0, 1) := by decide +kernel
theorem dX1_scanHead_35 : decode cX1_scanHead 35 = .ok (.aload_n 0, 1) := by decide +kernel
theorem dX1_scanHead_36 : decode cX1_scanHead 36 = .ok (.getfield 22, 3) := by decide +kernel
theorem dX1_scanHead_39 : decode cX1_scanHead 39 = .ok (.iconst 3, 1) := by decide +kernel
theorem dX1_scanHead_40 : decode cX1_scanHead 40 = .ok (.invokevirtual 81, 3) := by decide +kernel
theorem dX1_scanHead_43 : decode cX1_scanHead 43 = .ok (.putfield 88, 3) := by decide +kernel
theorem dX1_scanHead_46 : decode cX1_scanHead 46 = .ok (.aload_n 0, 1) := by decide +kernel
theorem dX1_scanHead_47 : decode cX1_scanHead 47 = .ok (.iconst 4, 1) := by decide +kernel
theorem dX1_scanHead_48 : decode cX1_scanHead 48 = .ok (.putfield 69, 3) := by decide +kernel
theorem dX1_scanHead_51 : decode cX1_scanHead 51 = .ok (.return_, 1) := by decide +kernel
theorem dX1_scanInteger_0 : decode cX1_scanInteger 0 = .ok (.aload_n 0, 1) := by decide +kernel
theorem dX1_scanInteger_1 : decode cX1_scanInteger 1 = .ok (.bipush 7, 2) := by decide +kernel
theorem dX1_scanInteger_3 : decode cX1_scanInteger 3 = .ok (.putfield 114, 3) := by decide +kernel
theorem dX1_scanInteger_6 : decode cX1_scanInteger 6 = .ok (.aload_n 0, 1) := by decide +kernel
theorem dX1_scanInteger_7 : decode cX1_scanInteger 7 = .ok (.aload_n 0, 1) := by decide +kernel
theorem dX1_scanInteger_8 : decode cX1_scanInteger 8 = .ok (.iload_n 1, 1) := by decide +kernel
theorem dX1_scanInteger_9 : decode cX1_scanInteger 9 = .ok (.iload_n 2, 1) := by decide +kernel
theorem dX1_scanInteger_10 : decode cX1_scanInteger 10 = .ok (.invokevirtual 158, 3) := by decide +kernel
theorem dX1_scanInteger_13 : decode cX1_scanInteger 13 = .ok (.invokestatic 151, 3) := by decide +kernel
theorem dX1_scanInteger_16 : decode cX1_scanInteger 16 = .ok (.putfield 94, 3) := by decide +kernel
theorem dX1_scanInteger_19 : decode cX1_scanInteger 19 = .ok (.return_, 1) := by decide +kernel
theorem dX1_scanLong_0 : decode cX1_scanLong 0 = .ok (.aload_n 0, 1) := by decide +kernel
theorem dX1_scanLong_1 : decode cX1_scanLong 1 = .ok (.iload_n 1, 1) := by decide +kernel
theorem dX1_scanLong_2 : decode cX1_scanLong 2 = .ok (.putfield 98, 3) := by decide +kernel
theorem dX1_scanLong_5 : decode cX1_scanLong 5 = .ok (.aload_n 0, 1) := by decide +kernel
theorem dX1_scanLong_6 : decode cX1_scanLong 6 = .ok (.aload_n 0, 1) := by decide +kernel
theorem dX1_scanLong_7 : decode cX1_scanLong 7 = .ok (.getfield 69, 3) := by decide +kernel
theorem dX1_scanLong_10 : decode cX1_scanLong 10 = .ok (.putfield 169, 3) := by decide +kernel
theorem dX1_scanLong_13 : decode cX1_scanLong 13 = .ok (.aload_n 0, 1) := by decide +kernel
theorem dX1_scanLong_14 : decode cX1_scanLong 14 = .ok (.getfield 69, 3) := by decide +kernel
theorem dX1_scanLong_17 : decode cX1_scanLong 17 = .ok (.aload_n 0, 1) := by decide +kernel
theorem dX1_scanLong_18 : decode cX1_scanLong 18 = .ok (.getfield 22, 3) := by decide +kernel
theorem dX1_scanLong_21 : decode cX1_scanLong 21 = .ok (.invokevirtual 72, 3) := by decide +kernel
theorem dX1_scanLong_24 : decode cX1_scanLong 24 = .ok (.if_icmp .ge 33, 3) := by decide +kernel
theorem dX1_scanLong_27 : decode cX1_scanLong 27 = .ok (.aload_n 0, 1) := by decide +kernel
theorem dX1_scanLong_28 : decode cX1_scanLong 28 = .ok (.getfield 22, 3) := by decide +kernel
theorem dX1_scanLong_31 : decode cX1_scanLong 31 = .ok (.aload_n 0, 1) := by decide +kernel
theorem dX1_scanLong_32 : decode cX1_scanLong 32 = .ok (.getfield 69, 3) := by decide +kernel
theorem dX1_scanLong_35 : decode cX1_scanLong 35 = .ok (.invokevirtual 81, 3) := by decide +kernel
theorem dX1_scanLong_38 : decode cX1_scanLong 38 = .ok (.sipush 252, 3) := by decide +kernel
theorem dX1_scanLong_41 : decode cX1_scanLong 41 = .ok (.if_icmp .eq 16, 3) := by decide +kernel
theorem dX1_scanLong_44 : decode cX1_scanLong 44 = .ok (.aload_n 0, 1) := by decide +kernel
theorem dX1_scanLong_45 : decode cX1_scanLong 45 = .ok (.dup, 1) := by decide +kernel
theorem dX1_scanLong_46 : decode cX1_scanLong 46 = .ok (.getfield 69, 3) := by decide +kernel
theorem dX1_scanLong_49 : decode cX1_scanLong 49 = .ok (.iconst 1, 1) := by decide +kernel
theorem dX1_scanLong_50 : decode cX1_scanLong 50 = .ok (.iadd, 1) := by decide +kernel
theorem dX1_scanLong_51 : decode cX1_scanLong 51 = .ok (.putfield 69, 3) := by decide +kernel
theorem dX1_scanLong_54 : decode cX1_scanLong 54 = .ok (.goto (-41), 3) := by decide +kernel
theorem dX1_scanLong_57 : decode cX1_scanLong 57 = .ok (.aload_n 0, 1) := by decide +kernel
theorem dX1_scanLong_58 : decode cX1_scanLong 58 = .ok (.aload_n 0, 1) := by decide +kernel
theorem dX1_scanLong_59 : decode cX1_scanLong 59 = .ok (.getfield 69, 3) := by decide +kernel
theorem dX1_scanLong_62 : decode cX1_scanLong 62 = .ok (.aload_n 0, 1) := by decide +kernel
theorem dX1_scanLong_63 : decode cX1_scanLong 63 = .ok (.getfield 169, 3) := by decide +kernel
theorem dX1_scanLong_66 : decode cX1_scanLong 66 = .ok (.isub, 1) := by decide +kernel
theorem dX1_scanLong_67 : decode cX1_scanLong 67 = .ok (.putfield 101, 3) := by decide +kernel
theorem dX1_scanLong_70 : decode cX1_scanLong 70 = .ok (.aload_n 0, 1) := by decide +kernel
theorem dX1_scanLong_71 : decode cX1_scanLong 71 = .ok (.invokevirtual 111, 3) := by decide +kernel
theorem dX1_scanLong_74 : decode cX1_scanLong 74 = .ok (.pop, 1) := by decide +kernel
theorem dX1_scanLong_75 : decode cX1_scanLong 75 = .ok (.return_, 1) := by decide +kernel
theorem dX1_scanName_0 : decode cX1_scanName 0 = .ok (.aload_n 0, 1) := by decide +kernel
theorem dX1_scanName_1 : decode cX1_scanName 1 = .ok (.bipush 10, 2) := by decide +kernel
theorem dX1_scanName_3 : decode cX1_scanName 3 = .ok (.putfield 114, 3) := by decide +kernel
theorem dX1_scanName_6 : decode cX1_scanName 6 = .ok (.iload_n 1, 1) := by decide +kernel
theorem dX1_scanName_7 : decode cX1_scanName 7 = .ok (.sipush 251, 3) := by decide +kernel
theorem dX1_scanName_10 : decode cX1_scanName 10 = .ok (.if_icmp .ne 12, 3) := by decide +kernel
theorem dX1_scanName_13 : decode cX1_scanName 13 = .ok (.aload_n 0, 1) := by decide +kernel
theorem dX1_scanName_14 : decode cX1_scanName 14 = .ok (.bipush 11, 2) := by decide +kernel
theorem dX1_scanName_16 : decode cX1_scanName 16 = .ok (.putfield 114, 3) := by decide +kernel
theorem dX1_scanName_19 : decode cX1_scanName 19 = .ok (.goto 141, 3) := by decide +kernel
theorem dX1_scanName_22 : decode cX1_scanName 22 = .ok (.iload_n 1, 1) := by decide +kernel
theorem dX1_scanName_23 : decode cX1_scanName 23 = .ok (.bipush 32, 2) := by decide +kernel
theorem dX1_scanName_25 : decode cX1_scanName 25 = .ok (.if_icmp .ne 12, 3) := by decide +kernel
theorem dX1_scanName_28 : decode cX1_scanName 28 = .ok (.aload_n 0, 1) := by decide +kernel
theorem dX1_scanName_29 : decode cX1_scanName 29 = .ok (.iconst 0, 1) := by decide +kernel
theorem dX1_scanName_30 : decode cX1_scanName 30 = .ok (.iconst 2, 1) := by decide +kernel
theorem dX1_scanName_31 : decode cX1_scanName 31 = .ok (.invokevirtual 117, 3) := by decide +kernel
theorem dX1_scanName_34 : decode cX1_scanName 34 = .ok (.goto 126, 3) := by decide +kernel
theorem dX1_scanName_37 : decode cX1_scanName 37 = .ok (.iload_n 1, 1) := by decide +kernel
theorem dX1_scanName_38 : decode cX1_scanName 38 = .ok (.bipush 48, 2) := by decide +kernel
theorem dX1_scanName_40 : decode cX1_scanName 40 = .ok (.if_icmp .lt 20, 3) := by decide +kernel
theorem dX1_scanName_43 : decode cX1_scanName 43 = .ok (.iload_n 1, 1) := by decide +kernel
theorem dX1_scanName_44 : decode cX1_scanName 44 = .ok (.bipush 52, 2) := by decide +kernel
theorem dX1_scanName_46 : decode cX1_scanName 46 = .ok (.if_icmp .ge 14, 3) := by decide +kernel
theorem dX1_scanName_49 : decode cX1_scanName 49 = .ok (.aload_n 0, 1) := by decide +kernel
theorem dX1_scanName_50 : decode cX1_scanName 50 = .ok (.iload_n 1, 1) := by decide +kernel
theorem dX1_scanName_51 : decode cX1_scanName 51 = .ok (.bipush 48, 2) := by decide +kernel
theorem dX1_scanName_53 : decode cX1_scanName 53 = .ok (.isub, 1) := by decide +kernel
theorem dX1_scanName_54 : decode cX1_scanName 54 = .ok (.invokevirtual 120, 3) := by decide +kernel
theorem dX1_scanName_57 : decode cX1_scanName 57 = .ok (.goto 103, 3) := by decide +kernel
theorem dX1_scanName_60 : decode cX1_scanName 60 = .ok (.iload_n 1, 1) := by decide +kernel
theorem dX1_scanName_61 : decode cX1_scanName 61 = .ok (.bipush 52, 2) := by decide +kernel
theorem dX1_scanName_63 : decode cX1_scanName 63 = .ok (.if_icmp .ne 11, 3) := by decide +kernel
theorem dX1_scanName_66 : decode cX1_scanName 66 = .ok (.aload_n 0, 1) := by decide +kernel
theorem dX1_scanName_67 : decode cX1_scanName 67 = .ok (.iconst 2, 1) := by decide +kernel
theorem dX1_scanName_68 : decode cX1_scanName 68 = .ok (.invokevirtual 123, 3) := by decide +kernel
theorem dX1_scanName_71 : decode cX1_scanName 71 = .ok (.goto 89, 3) := by decide +kernel
theorem dX1_scanName_74 : decode cX1_scanName 74 = .ok (.iload_n 1, 1) := by decide +kernel
theorem dX1_scanName_75 : decode cX1_scanName 75 = .ok (.bipush 64, 2) := by decide +kernel
theorem dX1_scanName_77 : decode cX1_scanName 77 = .ok (.if_icmp .lt 21, 3) := by decide +kernel
theorem dX1_scanName_80 : decode cX1_scanName 80 = .ok (.iload_n 1, 1) := by decide +kernel
theorem dX1_scanName_81 : decode cX1_scanName 81 = .ok (.sipush 128, 3) := by decide +kernel
theorem dX1_scanName_84 : decode cX1_scanName 84 = .ok (.if_icmp .ge 14, 3) := by decide +kernel
theorem dX1_scanName_87 : decode cX1_scanName 87 = .ok (.aload_n 0, 1) := by decide +kernel
theorem dX1_scanName_88 : decode cX1_scanName 88 = .ok (.iload_n 1, 1) := by decide +kernel
theorem dX1_scanName_89 : decode cX1_scanName 89 = .ok (.bipush 64, 2) := by decide +kernel
theorem dX1_scanName_91 : decode cX1_scanName 91 = .ok (.isub, 1) := by decide +kernel
theorem dX1_scanName_92 : decode cX1_scanName 92 = .ok (.invokevirtual 126, 3) := by decide +kernel
theorem dX1_scanName_95 : decode cX1_scanName 95 = .ok (.goto 65, 3) := by decide +kernel
theorem dX1_scanName_98 : decode cX1_scanName 98 = .ok (.iload_n 1, 1) := by decide +kernel
theorem dX1_scanName_99 : decode cX1_scanName 99 = .ok (.sipush 128, 3) := by decide +kernel
theorem dX1_scanName_102 : decode cX1_scanName 102 = .ok (.if_icmp .lt 25, 3) := by decide +kernel
theorem dX1_scanName_105 : decode cX1_scanName 105 = .ok (.iload_n 1, 1) := by decide +kernel
theorem dX1_scanName_106 : decode cX1_scanName 106 = .ok (.sipush 192, 3) := by decide +kernel
theorem dX1_scanName_109 : decode cX1_scanName 109 = .ok (.if_icmp .ge 18, 3) := by decide +kernel
theorem dX1_scanName_112 : decode cX1_scanName 112 = .ok (.aload_n 0, 1) := by decide +kernel
theorem dX1_scanName_113 : decode cX1_scanName 113 = .ok (.iload_n 1, 1) := by decide +kernel
theorem dX1_scanName_114 : decode cX1_scanName 114 = .ok (.sipush 128, 3) := by decide +kernel
theorem dX1_scanName_117 : decode cX1_scanName 117 = .ok (.isub, 1) := by decide +kernel
theorem dX1_scanName_118 : decode cX1_scanName 118 = .ok (.iconst 1, 1) := by decide +kernel
theorem dX1_scanName_119 : decode cX1_scanName 119 = .ok (.iadd, 1) := by decide +kernel
theorem dX1_scanName_120 : decode cX1_scanName 120 = .ok (.iconst 1, 1) := by decide +kernel
theorem dX1_scanName_121 : decode cX1_scanName 121 = .ok (.invokevirtual 117, 3) := by decide +kernel
theorem dX1_scanName_124 : decode cX1_scanName 124 = .ok (.goto 36, 3) := by decide +kernel
theorem dX1_scanName_127 : decode cX1_scanName 127 = .ok (.iload_n 1, 1) := by decide +kernel
theorem dX1_scanName_128 : decode cX1_scanName 128 = .ok (.sipush 192, 3) := by decide +kernel
theorem dX1_scanName_131 : decode cX1_scanName 131 = .ok (.if_icmp .lt 25, 3) := by decide +kernel
theorem dX1_scanName_134 : decode cX1_scanName 134 = .ok (.iload_n 1, 1) := by decide +kernel
theorem dX1_scanName_135 : decode cX1_scanName 135 = .ok (.sipush 247, 3) := by decide +kernel
theorem dX1_scanName_138 : decode cX1_scanName 138 = .ok (.if_icmp .gt 18, 3) := by decide +kernel
theorem dX1_scanName_141 : decode cX1_scanName 141 = .ok (.aload_n 0, 1) := by decide +kernel
theorem dX1_scanName_142 : decode cX1_scanName 142 = .ok (.iload_n 1, 1) := by decide +kernel
theorem dX1_scanName_143 : decode cX1_scanName 143 = .ok (.sipush 192, 3) := by decide +kernel
theorem dX1_scanName_146 : decode cX1_scanName 146 = .ok (.isub, 1) := by decide +kernel
theorem dX1_scanName_147 : decode cX1_scanName 147 = .ok (.iconst 2, 1) := by decide +kernel
theorem dX1_scanName_148 : decode cX1_scanName 148 = .ok (.iadd, 1) := by decide +kernel
theorem dX1_scanName_149 : decode cX1_scanName 149 = .ok (.iconst 2, 1) := by decide +kernel
theorem dX1_scanName_150 : decode cX1_scanName 150 = .ok (.invokevirtual 117, 3) := by decide +kernel
theorem dX1_scanName_153 : decode cX1_scanName 153 = .ok (.goto 7, 3) := by decide +kernel
theorem dX1_scanName_156 : decode cX1_scanName 156 = .ok (.aload_n 0, 1) := by decide +kernel
theorem dX1_scanName_157 : decode cX1_scanName 157 = .ok (.invokevirtual 129, 3) := by decide +kernel
theorem dX1_scanName_160 : decode cX1_scanName 160 = .ok (.return_, 1) := by decide +kernel
theorem dX1_scanNearPlace_0 : decode cX1_scanNearPlace 0 = .ok (.aload_n 0, 1) := by decide +kernel
theorem dX1_scanNearPlace_1 : decode cX1_scanNearPlace 1 = .ok (.iconst 3, 1) := by decide +kernel
theorem dX1_scanNearPlace_2 : decode cX1_scanNearPlace 2 = .ok (.putfield 98, 3) := by decide +kernel
theorem dX1_scanNearPlace_5 : decode cX1_scanNearPlace 5 = .ok (.aload_n 0, 1) := by decide +kernel
theorem dX1_scanNearPlace_6 : decode cX1_scanNearPlace 6 = .ok (.invokevirtual 176, 3) := by decide +kernel
theorem dX1_scanNearPlace_9 : decode cX1_scanNearPlace 9 = .ok (.ifCond .eq 11, 3) := by decide +kernel
theorem dX1_scanNearPlace_12 : decode cX1_scanNearPlace 12 = .ok (.aload_n 0, 1) := by decide +kernel
theorem dX1_scanNearPlace_13 : decode cX1_scanNearPlace 13 = .ok (.iload_n 1, 1) := by decide +kernel
theorem dX1_scanNearPlace_14 : decode cX1_scanNearPlace 14 = .ok (.putfield 104, 3) := by decide +kernel
theorem dX1_scanNearPlace_17 : decode cX1_scanNearPlace 17 = .ok (.goto 7, 3) := by decide +kernel
theorem dX1_scanNearPlace_20 : decode cX1_scanNearPlace 20 = .ok (.aload_n 0, 1) := by decide +kernel
theorem dX1_scanNearPlace_21 : decode cX1_scanNearPlace 21 = .ok (.invokevirtual 129, 3) := by decide +kernel
theorem dX1_scanNearPlace_24 : decode cX1_scanNearPlace 24 = .ok (.return_, 1) := by decide +kernel
theorem dX1_scanRaw_0 : decode cX1_scanRaw 0 = .ok (.aload_n 0, 1) := by decide +kernel
theorem dX1_scanRaw_1 : decode cX1_scanRaw 1 = .ok (.iconst 4, 1) := by decide +kernel
theorem dX1_scanRaw_2 : decode cX1_scanRaw 2 = .ok (.putfield 114, 3) := by decide +kernel
theorem dX1_scanRaw_5 : decode cX1_scanRaw 5 = .ok (.aload_n 0, 1) := by decide +kernel
theorem dX1_scanRaw_6 : decode cX1_scanRaw 6 = .ok (.iconst 4, 1) := by decide +kernel
theorem dX1_scanRaw_7 : decode cX1_scanRaw 7 = .ok (.putfield 98, 3) := by decide +kernel
theorem dX1_scanRaw_10 : decode cX1_scanRaw 10 = .ok (.aload_n 0, 1) := by decide +kernel
theorem dX1_scanRaw_11 : decode cX1_scanRaw 11 = .ok (.getfield 88, 3) := by decide +kernel
theorem dX1_scanRaw_14 : decode cX1_scanRaw 14 = .ok (.iconst 4, 1) := by decide +kernel
theorem dX1_scanRaw_15 : decode cX1_scanRaw 15 = .ok (.iand, 1) := by decide +kernel
theorem dX1_scanRaw_16 : decode cX1_scanRaw 16 = .ok (.ifCond .ne 8, 3) := by decide +kernel
theorem dX1_scanRaw_19 : decode cX1_scanRaw 19 = .ok (.aload_n 0, 1) := by decide +kernel
theorem dX1_scanRaw_20 : decode cX1_scanRaw 20 = .ok (.invokevirtual 129, 3) := by decide +kernel
theorem dX1_scanRaw_23 : decode cX1_scanRaw 23 = .ok (.return_, 1) := by decide +kernel
theorem dX1_scanRaw_24 : decode cX1_scanRaw 24 = .ok (.aload_n 0, 1) := by decide +kernel
theorem dX1_scanRaw_25 : decode cX1_scanRaw 25 = .ok (.iconst 5, 1) := by decide +kernel
theorem dX1_scanRaw_26 : decode cX1_scanRaw 26 = .ok (.bipush 32, 2) := by decide +kernel
theorem dX1_scanRaw_28 : decode cX1_scanRaw 28 = .ok (.invokevirtual 158, 3) := by decide +kernel
theorem dX1_scanRaw_31 : decode cX1_scanRaw 31 = .ok (.lstore_n 1, 1) := by decide +kernel
theorem dX1_scanRaw_32 : decode cX1_scanRaw 32 = .ok (.aload_n 0, 1) := by decide +kernel
theorem dX1_scanRaw_33 : decode cX1_scanRaw 33 = .ok (.aload_n 0, 1) := by decide +kernel
theorem dX1_scanRaw_34 : decode cX1_scanRaw 34 = .ok (.getfield 69, 3) := by decide +kernel
theorem dX1_scanRaw_37 : decode cX1_scanRaw 37 = .ok (.putfield 169, 3) := by decide +kernel
theorem dX1_scanRaw_40 : decode cX1_scanRaw 40 = .ok (.aload_n 0, 1) := by decide +kernel
theorem dX1_scanRaw_41 : decode cX1_scanRaw 41 = .ok (.lload_n 1, 1) := by decide +kernel
theorem dX1_scanRaw_42 : decode cX1_scanRaw 42 = .ok (.invokevirtual 172, 3) := by decide +kernel
theorem dX1_scanRaw_45 : decode cX1_scanRaw 45 = .ok (.return_, 1) := by decide +kernel
theorem dX1_scanReal_0 : decode cX1_scanReal 0 = .ok (.aload_n 0, 1) := by decide +kernel
theorem dX1_scanReal_1 : decode cX1_scanReal 1 = .ok (.iload_n 1, 1) := by decide +kernel
theorem dX1_scanReal_2 : decode cX1_scanReal 2 = .ok (.putfield 114, 3) := by decide +kernel
theorem dX1_scanReal_5 : decode cX1_scanReal 5 = .ok (.iconst 0, 1) := by decide +kernel
theorem dX1_scanReal_6 : decode cX1_scanReal 6 = .ok (.istore 4, 2) := by decide +kernel
theorem dX1_scanReal_8 : decode cX1_scanReal 8 = .ok (.iload 4, 2) := by decide +kernel
theorem dX1_scanReal_10 : decode cX1_scanReal 10 = .ok (.iload_n 2, 1) := by decide +kernel
theorem dX1_scanReal_11 : decode cX1_scanReal 11 = .ok (.if_icmp .ge 35, 3) := by decide +kernel
theorem dX1_scanReal_14 : decode cX1_scanReal 14 = .ok (.aload_n 0, 1) := by decide +kernel
theorem dX1_scanReal_15 : decode cX1_scanReal 15 = .ok (.getfield 38, 3) := by decide +kernel
theorem dX1_scanReal_18 : decode cX1_scanReal 18 = .ok (.ifCond .ne 28, 3) := by decide +kernel
theorem dX1_scanReal_21 : decode cX1_scanReal 21 = .ok (.aload_n 0, 1) := by decide +kernel
theorem dX1_scanReal_22 : decode cX1_scanReal 22 = .ok (.aload_n 0, 1) := by decide +kernel
theorem dX1_scanReal_23 : decode cX1_scanReal 23 = .ok (.aload_n 0, 1) := by decide +kernel
theorem dX1_scanReal_24 : decode cX1_scanReal 24 = .ok (.getfield 94, 3) := by decide +kernel
theorem dX1_scanReal_27 : decode cX1_scanReal 27 = .ok (.aload_n 0, 1) := by decide +kernel
theorem dX1_scanReal_28 : decode cX1_scanReal 28 = .ok (.invokevirtual 162, 3) := by decide +kernel
theorem dX1_scanReal_31 : decode cX1_scanReal 31 = .ok (.bipush 7, 2) := by decide +kernel
theorem dX1_scanReal_33 : decode cX1_scanReal 33 = .ok (.iload_n 3, 1) := by decide +kernel
theorem dX1_scanReal_34 : decode cX1_scanReal 34 = .ok (.invokevirtual 165, 3) := by decide +kernel
theorem dX1_scanReal_37 : decode cX1_scanReal 37 = .ok (.putfield 94, 3) := by decide +kernel
theorem dX1_scanReal_40 : decode cX1_scanReal 40 = .ok (.iinc 4 1, 3) := by decide +kernel
theorem dX1_scanReal_43 : decode cX1_scanReal 43 = .ok (.goto (-35), 3) := by decide +kernel
theorem dX1_scanReal_46 : decode cX1_scanReal 46 = .ok (.return_, 1) := by decide +kernel
theorem dX1_scanShort_0 : decode cX1_scanShort 0 = .ok (.aload_n 0, 1) := by decide +kernel
theorem dX1_scanShort_1 : decode cX1_scanShort 1 = .ok (.iload_n 2, 1) := by decide +kernel
theorem dX1_scanShort_2 : decode cX1_scanShort 2 = .ok (.putfield 98, 3) := by decide +kernel
theorem dX1_scanShort_5 : decode cX1_scanShort 5 = .ok (.aload_n 0, 1) := by decide +kernel
theorem dX1_scanShort_6 : decode cX1_scanShort 6 = .ok (.aload_n 0, 1) := by decide +kernel
theorem dX1_scanShort_7 : decode cX1_scanShort 7 = .ok (.getfield 69, 3) := by decide +kernel
theorem dX1_scanShort_10 : decode cX1_scanShort 10 = .ok (.putfield 169, 3) := by decide +kernel
theorem dX1_scanShort_13 : decode cX1_scanShort 13 = .ok (.aload_n 0, 1) := by decide +kernel
theorem dX1_scanShort_14 : decode cX1_scanShort 14 = .ok (.iload_n 1, 1) := by decide +kernel
theorem dX1_scanShort_15 : decode cX1_scanShort 15 = .ok (.i2l, 1) := by decide +kernel
theorem dX1_scanShort_16 : decode cX1_scanShort 16 = .ok (.invokevirtual 172, 3) := by decide +kernel
theorem dX1_scanShort_19 : decode cX1_scanShort 19 = .ok (.return_, 1) := by decide +kernel
theorem dX1_scanValue_0 : decode cX1_scanValue 0 = .ok (.iload_n 1, 1) := by decide +kernel
theorem dX1_scanValue_1 : decode cX1_scanValue 1 = .ok (.lookupswitch 167 #[(36, 83), (37, 93), (40, 104), (41, 116), (232, 129), (248, 143), (249, 160), (250, 151), (253, 136)], 83) := by decide +kernel
theorem dX1_scanValue_84 : decode cX1_scanValue 84 = .ok (.aload_n 0, 1) := by decide +kernel
theorem dX1_scanValue_85 : decode cX1_scanValue 85 = .ok (.iconst 5, 1) := by decide +kernel
theorem dX1_scanValue_86 : decode cX1_scanValue 86 = .ok (.bipush 32, 2) := by decide +kernel
theorem dX1_scanValue_88 : decode cX1_scanValue 88 = .ok (.invokevirtual 132, 3) := by decide +kernel
theorem dX1_scanValue_91 : decode cX1_scanValue 91 = .ok (.goto 82, 3) := by decide +kernel
theorem dX1_scanValue_94 : decode cX1_scanValue 94 = .ok (.aload_n 0, 1) := by decide +kernel
theorem dX1_scanValue_95 : decode cX1_scanValue 95 = .ok (.bipush 10, 2) := by decide +kernel
theorem dX1_scanValue_97 : decode cX1_scanValue 97 = .ok (.bipush 64, 2) := by decide +kernel
theorem dX1_scanValue_99 : decode cX1_scanValue 99 = .ok (.invokevirtual 132, 3) := by decide +kernel
theorem dX1_scanValue_102 : decode cX1_scanValue 102 = .ok (.goto 71, 3) := by decide +kernel
theorem dX1_scanValue_105 : decode cX1_scanValue 105 = .ok (.aload_n 0, 1) := by decide +kernel
theorem dX1_scanValue_106 : decode cX1_scanValue 106 = .ok (.bipush 8, 2) := by decide +kernel
theorem dX1_scanValue_108 : decode cX1_scanValue 108 = .ok (.iconst 5, 1) := by decide +kernel
theorem dX1_scanValue_109 : decode cX1_scanValue 109 = .ok (.bipush 32, 2) := by decide +kernel
theorem dX1_scanValue_111 : decode cX1_scanValue 111 = .ok (.invokevirtual 135, 3) := by decide +kernel
theorem dX1_scanValue_114 : decode cX1_scanValue 114 = .ok (.goto 59, 3) := by decide +kernel
theorem dX1_scanValue_117 : decode cX1_scanValue 117 = .ok (.aload_n 0, 1) := by decide +kernel
theorem dX1_scanValue_118 : decode cX1_scanValue 118 = .ok (.bipush 9, 2) := by decide +kernel
theorem dX1_scanValue_120 : decode cX1_scanValue 120 = .ok (.bipush 10, 2) := by decide +kernel
theorem dX1_scanValue_122 : decode cX1_scanValue 122 = .ok (.bipush 64, 2) := by decide +kernel
theorem dX1_scanValue_124 : decode cX1_scanValue 124 = .ok (.invokevirtual 135, 3) := by decide +kernel
theorem dX1_scanValue_127 : decode cX1_scanValue 127 = .ok (.goto 46, 3) := by decide +kernel
theorem dX1_scanValue_130 : decode cX1_scanValue 130 = .ok (.aload_n 0, 1) := by decide +kernel
theorem dX1_scanValue_131 : decode cX1_scanValue 131 = .ok (.invokevirtual 139, 3) := by decide +kernel
theorem dX1_scanValue_134 : decode cX1_scanValue 134 = .ok (.goto 39, 3) := by decide +kernel
theorem dX1_scanValue_137 : decode cX1_scanValue 137 = .ok (.aload_n 0, 1) := by decide +kernel
theorem dX1_scanValue_138 : decode cX1_scanValue 138 = .ok (.invokevirtual 142, 3) := by decide +kernel
theorem dX1_scanValue_141 : decode cX1_scanValue 141 = .ok (.goto 32, 3) := by decide +kernel
theorem dX1_scanValue_144 : decode cX1_scanValue 144 = .ok (.aload_n 0, 1) := by decide +kernel
theorem dX1_scanValue_145 : decode cX1_scanValue 145 = .ok (.iconst 5, 1) := by decide +kernel
theorem dX1_scanValue_146 : decode cX1_scanValue 146 = .ok (.putfield 114, 3) := by decide +kernel
theorem dX1_scanValue_149 : decode cX1_scanValue 149 = .ok (.goto 24, 3) := by decide +kernel
theorem dX1_scanValue_152 : decode cX1_scanValue 152 = .ok (.aload_n 0, 1) := by decide +kernel
theorem dX1_scanValue_153 : decode cX1_scanValue 153 = .ok (.bipush 6, 2) := by decide +kernel
theorem dX1_scanValue_155 : decode cX1_scanValue 155 = .ok (.putfield 114, 3) := by decide +kernel
theorem dX1_scanValue_158 : decode cX1_scanValue 158 = .ok (.goto 15, 3) := by decide +kernel
theorem dX1_scanValue_161 : decode cX1_scanValue 161 = .ok (.aload_n 0, 1) := by decide +kernel
theorem dX1_scanValue_162 : decode cX1_scanValue 162 = .ok (.invokevirtual 145, 3) := by decide +kernel
theorem dX1_scanValue_165 : decode cX1_scanValue 165 = .ok (.goto 8, 3) := by decide +kernel
theorem dX1_scanValue_168 : decode cX1_scanValue 168 = .ok (.aload_n 0, 1) := by decide +kernel
theorem dX1_scanValue_169 : decode cX1_scanValue 169 = .ok (.iload_n 1, 1) := by decide +kernel
theorem dX1_scanValue_170 : decode cX1_scanValue 170 = .ok (.invokevirtual 148, 3) := by decide +kernel
theorem dX1_scanValue_173 : decode cX1_scanValue 173 = .ok (.return_, 1) := by decide +kernel
theorem dX1_sevensOf_0 : decode cX1_sevensOf 0 = .ok (.ldc2_w 191, 3) := by decide +kernel
theorem dX1_sevensOf_3 : decode cX1_sevensOf 3 = .ok (.lload_n 0, 1) := by decide +kernel
theorem dX1_sevensOf_4 : decode cX1_sevensOf 4 = .ok (.lmul, 1) := by decide +kernel
theorem dX1_sevensOf_5 : decode cX1_sevensOf 5 = .ok (.ldc2_w 193, 3) := by decide +kernel
theorem dX1_sevensOf_8 : decode cX1_sevensOf 8 = .ok (.ladd, 1) := by decide +kernel
theorem dX1_sevensOf_9 : decode cX1_sevensOf 9 = .ok (.ldc2_w 195, 3) := by decide +kernel
theorem dX1_sevensOf_12 : decode cX1_sevensOf 12 = .ok (.ldiv, 1) := by decide +kernel
theorem dX1_sevensOf_13 : decode cX1_sevensOf 13 = .ok (.lreturn, 1) := by decide +kernel
theorem dX1_skip_0 : decode cX1_skip 0 = .ok (.lload_n 1, 1) := by decide +kernel
theorem dX1_skip_1 : decode cX1_skip 1 = .ok (.aload_n 0, 1) := by decide +kernel
theorem dX1_skip_2 : decode cX1_skip 2 = .ok (.getfield 22, 3) := by decide +kernel
theorem dX1_skip_5 : decode cX1_skip 5 = .ok (.invokevirtual 72, 3) := by decide +kernel
theorem dX1_skip_8 : decode cX1_skip 8 = .ok (.aload_n 0, 1) := by decide +kernel
theorem dX1_skip_9 : decode cX1_skip 9 = .ok (.getfield 69, 3) := by decide +kernel
theorem dX1_skip_12 : decode cX1_skip 12 = .ok (.isub, 1) := by decide +kernel
theorem dX1_skip_13 : decode cX1_skip 13 = .ok (.i2l, 1) := by decide +kernel
theorem dX1_skip_14 : decode cX1_skip 14 = .ok (.lcmp, 1) := by decide +kernel
theorem dX1_skip_15 : decode cX1_skip 15 = .ok (.ifCond .le 18, 3) := by decide +kernel
theorem dX1_skip_18 : decode cX1_skip 18 = .ok (.aload_n 0, 1) := by decide +kernel
theorem dX1_skip_19 : decode cX1_skip 19 = .ok (.iconst 2, 1) := by decide +kernel
theorem dX1_skip_20 : decode cX1_skip 20 = .ok (.aload_n 0, 1) := by decide +kernel
theorem dX1_skip_21 : decode cX1_skip 21 = .ok (.getfield 22, 3) := by decide +kernel
theorem dX1_skip_24 : decode cX1_skip 24 = .ok (.invokevirtual 72, 3) := by decide +kernel
theorem dX1_skip_27 : decode cX1_skip 27 = .ok (.invokevirtual 77, 3) := by decide +kernel
theorem dX1_skip_30 : decode cX1_skip 30 = .ok (.goto 22, 3) := by decide +kernel
theorem dX1_skip_33 : decode cX1_skip 33 = .ok (.aload_n 0, 1) := by decide +kernel
theorem dX1_skip_34 : decode cX1_skip 34 = .ok (.lload_n 1, 1) := by decide +kernel
theorem dX1_skip_35 : decode cX1_skip 35 = .ok (.l2i, 1) := by decide +kernel
theorem dX1_skip_36 : decode cX1_skip 36 = .ok (.putfield 101, 3) := by decide +kernel
theorem dX1_skip_39 : decode cX1_skip 39 = .ok (.aload_n 0, 1) := by decide +kernel
theorem dX1_skip_40 : decode cX1_skip 40 = .ok (.dup, 1) := by decide +kernel
theorem dX1_skip_41 : decode cX1_skip 41 = .ok (.getfield 69, 3) := by decide +kernel
theorem dX1_skip_44 : decode cX1_skip 44 = .ok (.aload_n 0, 1) := by decide +kernel
theorem dX1_skip_45 : decode cX1_skip 45 = .ok (.getfield 101, 3) := by decide +kernel
theorem dX1_skip_48 : decode cX1_skip 48 = .ok (.iadd, 1) := by decide +kernel
theorem dX1_skip_49 : decode cX1_skip 49 = .ok (.putfield 69, 3) := by decide +kernel
theorem dX1_skip_52 : decode cX1_skip 52 = .ok (.return_, 1) := by decide +kernel
theorem dX1_table_0 : decode cX1_table 0 = .ok (.aload_n 0, 1) := by decide +kernel
theorem dX1_table_1 : decode cX1_table 1 = .ok (.getfield 114, 3) := by decide +kernel
theorem dX1_table_4 : decode cX1_table 4 = .ok (.bipush 10, 2) := by decide +kernel
theorem dX1_table_6 : decode cX1_table 6 = .ok (.if_icmp .ne 10, 3) := by decide +kernel
theorem dX1_table_9 : decode cX1_table 9 = .ok (.aload_n 0, 1) := by decide +kernel
theorem dX1_table_10 : decode cX1_table 10 = .ok (.getfield 15, 3) := by decide +kernel
theorem dX1_table_13 : decode cX1_table 13 = .ok (.goto 7, 3) := by decide +kernel
theorem dX1_table_16 : decode cX1_table 16 = .ok (.aload_n 0, 1) := by decide +kernel
theorem dX1_table_17 : decode cX1_table 17 = .ok (.getfield 19, 3) := by decide +kernel
theorem dX1_table_20 : decode cX1_table 20 = .ok (.areturn, 1) := by decide +kernel
theorem dX1_take_0 : decode cX1_take 0 = .ok (.aload_n 0, 1) := by decide +kernel
theorem dX1_take_1 : decode cX1_take 1 = .ok (.getfield 22, 3) := by decide +kernel
theorem dX1_take_4 : decode cX1_take 4 = .ok (.aload_n 0, 1) := by decide +kernel
theorem dX1_take_5 : decode cX1_take 5 = .ok (.getfield 69, 3) := by decide +kernel
theorem dX1_take_8 : decode cX1_take 8 = .ok (.invokevirtual 81, 3) := by decide +kernel
theorem dX1_take_11 : decode cX1_take 11 = .ok (.istore_n 1, 1) := by decide +kernel
theorem dX1_take_12 : decode cX1_take 12 = .ok (.iload_n 1, 1) := by decide +kernel
theorem dX1_take_13 : decode cX1_take 13 = .ok (.iconst (-1), 1) := by decide +kernel
theorem dX1_take_14 : decode cX1_take 14 = .ok (.if_icmp .ne 15, 3) := by decide +kernel
theorem dX1_take_17 : decode cX1_take 17 = .ok (.aload_n 0, 1) := by decide +kernel
theorem dX1_take_18 : decode cX1_take 18 = .ok (.iconst 2, 1) := by decide +kernel
theorem dX1_take_19 : decode cX1_take 19 = .ok (.aload_n 0, 1) := by decide +kernel
theorem dX1_take_20 : decode cX1_take 20 = .ok (.getfield 69, 3) := by decide +kernel
theorem dX1_take_23 : decode cX1_take 23 = .ok (.invokevirtual 77, 3) := by decide +kernel
theorem dX1_take_26 : decode cX1_take 26 = .ok (.goto 13, 3) := by decide +kernel
theorem dX1_take_29 : decode cX1_take 29 = .ok (.aload_n 0, 1) := by decide +kernel
theorem dX1_take_30 : decode cX1_take 30 = .ok (.dup, 1) := by decide +kernel
theorem dX1_take_31 : decode cX1_take 31 = .ok (.getfield 69, 3) := by decide +kernel
theorem dX1_take_34 : decode cX1_take 34 = .ok (.iconst 1, 1) := by decide +kernel
theorem dX1_take_35 : decode cX1_take 35 = .ok (.iadd, 1) := by decide +kernel
theorem dX1_take_36 : decode cX1_take 36 = .ok (.putfield 69, 3) := by decide +kernel
theorem dX1_take_39 : decode cX1_take 39 = .ok (.iload_n 1, 1) := by decide +kernel
theorem dX1_take_40 : decode cX1_take 40 = .ok (.ireturn, 1) := by decide +kernel
theorem dX1_takeCount_0 : decode cX1_takeCount 0 = .ok (.lconst 0, 1) := by decide +kernel
theorem dX1_takeCount_1 : decode cX1_takeCount 1 = .ok (.lstore_n 3, 1) := by decide +kernel
theorem dX1_takeCount_2 : decode cX1_takeCount 2 = .ok (.iconst 1, 1) := by decide +kernel
theorem dX1_takeCount_3 : decode cX1_takeCount 3 = .ok (.istore 5, 2) := by decide +kernel
theorem dX1_takeCount_5 : decode cX1_takeCount 5 = .ok (.iload 5, 2) := by decide +kernel
theorem dX1_takeCount_7 : decode cX1_takeCount 7 = .ok (.iload_n 1, 1) := by decide +kernel
theorem dX1_takeCount_8 : decode cX1_takeCount 8 = .ok (.if_icmp .gt 88, 3) := by decide +kernel
theorem dX1_takeCount_11 : decode cX1_takeCount 11 = .ok (.aload_n 0, 1) := by decide +kernel
theorem dX1_takeCount_12 : decode cX1_takeCount 12 = .ok (.invokevirtual 111, 3) := by decide +kernel
theorem dX1_takeCount_15 : decode cX1_takeCount 15 = .ok (.istore 6, 2) := by decide +kernel
theorem dX1_takeCount_17 : decode cX1_takeCount 17 = .ok (.iload 6, 2) := by decide +kernel
theorem dX1_takeCount_19 : decode cX1_takeCount 19 = .ok (.sipush 128, 3) := by decide +kernel
theorem dX1_takeCount_22 : decode cX1_takeCount 22 = .ok (.if_icmp .lt 25, 3) := by decide +kernel
theorem dX1_takeCount_25 : decode cX1_takeCount 25 = .ok (.iload 6, 2) := by decide +kernel
theorem dX1_takeCount_27 : decode cX1_takeCount 27 = .ok (.sipush 192, 3) := by decide +kernel
theorem dX1_takeCount_30 : decode cX1_takeCount 30 = .ok (.if_icmp .ge 17, 3) := by decide +kernel
theorem dX1_takeCount_33 : decode cX1_takeCount 33 = .ok (.aload_n 0, 1) := by decide +kernel
theorem dX1_takeCount_34 : decode cX1_takeCount 34 = .ok (.lload_n 3, 1) := by decide +kernel
theorem dX1_takeCount_35 : decode cX1_takeCount 35 = .ok (.iload 6, 2) := by decide +kernel
theorem dX1_takeCount_37 : decode cX1_takeCount 37 = .ok (.bipush 63, 2) := by decide +kernel
theorem dX1_takeCount_39 : decode cX1_takeCount 39 = .ok (.iand, 1) := by decide +kernel
theorem dX1_takeCount_40 : decode cX1_takeCount 40 = .ok (.bipush 6, 2) := by decide +kernel
theorem dX1_takeCount_42 : decode cX1_takeCount 42 = .ok (.iload_n 2, 1) := by decide +kernel
theorem dX1_takeCount_43 : decode cX1_takeCount 43 = .ok (.invokevirtual 165, 3) := by decide +kernel
theorem dX1_takeCount_46 : decode cX1_takeCount 46 = .ok (.lreturn, 1) := by decide +kernel
theorem dX1_takeCount_47 : decode cX1_takeCount 47 = .ok (.iload 6, 2) := by decide +kernel
theorem dX1_takeCount_49 : decode cX1_takeCount 49 = .ok (.sipush 192, 3) := by decide +kernel
theorem dX1_takeCount_52 : decode cX1_takeCount 52 = .ok (.if_icmp .ge 14, 3) := by decide +kernel
theorem dX1_takeCount_55 : decode cX1_takeCount 55 = .ok (.iload 6, 2) := by decide +kernel
theorem dX1_takeCount_57 : decode cX1_takeCount 57 = .ok (.ifCond .lt 13, 3) := by decide +kernel
theorem dX1_takeCount_60 : decode cX1_takeCount 60 = .ok (.iload 5, 2) := by decide +kernel
theorem dX1_takeCount_62 : decode cX1_takeCount 62 = .ok (.iload_n 1, 1) := by decide +kernel
theorem dX1_takeCount_63 : decode cX1_takeCount 63 = .ok (.if_icmp .ne 7, 3) := by decide +kernel
theorem dX1_takeCount_66 : decode cX1_takeCount 66 = .ok (.aload_n 0, 1) := by decide +kernel
theorem dX1_takeCount_67 : decode cX1_takeCount 67 = .ok (.invokevirtual 129, 3) := by decide +kernel
theorem dX1_takeCount_70 : decode cX1_takeCount 70 = .ok (.aload_n 0, 1) := by decide +kernel
theorem dX1_takeCount_71 : decode cX1_takeCount 71 = .ok (.getfield 38, 3) := by decide +kernel
theorem dX1_takeCount_74 : decode cX1_takeCount 74 = .ok (.ifCond .eq 5, 3) := by decide +kernel
theorem dX1_takeCount_77 : decode cX1_takeCount 77 = .ok (.lconst 0, 1) := by decide +kernel
theorem dX1_takeCount_78 : decode cX1_takeCount 78 = .ok (.lreturn, 1) := by decide +kernel
theorem dX1_takeCount_79 : decode cX1_takeCount 79 = .ok (.aload_n 0, 1) := by decide +kernel
theorem dX1_takeCount_80 : decode cX1_takeCount 80 = .ok (.lload_n 3, 1) := by decide +kernel
theorem dX1_takeCount_81 : decode cX1_takeCount 81 = .ok (.iload 6, 2) := by decide +kernel
theorem dX1_takeCount_83 : decode cX1_takeCount 83 = .ok (.bipush 7, 2) := by decide +kernel
theorem dX1_takeCount_85 : decode cX1_takeCount 85 = .ok (.iload_n 2, 1) := by decide +kernel
theorem dX1_takeCount_86 : decode cX1_takeCount 86 = .ok (.invokevirtual 165, 3) := by decide +kernel
theorem dX1_takeCount_89 : decode cX1_takeCount 89 = .ok (.lstore_n 3, 1) := by decide +kernel
theorem dX1_takeCount_90 : decode cX1_takeCount 90 = .ok (.iinc 5 1, 3) := by decide +kernel
theorem dX1_takeCount_93 : decode cX1_takeCount 93 = .ok (.goto (-88), 3) := by decide +kernel
theorem dX1_takeCount_96 : decode cX1_takeCount 96 = .ok (.lconst 0, 1) := by decide +kernel
theorem dX1_takeCount_97 : decode cX1_takeCount 97 = .ok (.lreturn, 1) := by decide +kernel
theorem dX1_takeSeven_0 : decode cX1_takeSeven 0 = .ok (.aload_n 0, 1) := by decide +kernel
theorem dX1_takeSeven_1 : decode cX1_takeSeven 1 = .ok (.invokevirtual 111, 3) := by decide +kernel
theorem dX1_takeSeven_4 : decode cX1_takeSeven 4 = .ok (.istore_n 1, 1) := by decide +kernel
theorem dX1_takeSeven_5 : decode cX1_takeSeven 5 = .ok (.iload_n 1, 1) := by decide +kernel
theorem dX1_takeSeven_6 : decode cX1_takeSeven 6 = .ok (.sipush 128, 3) := by decide +kernel
theorem dX1_takeSeven_9 : decode cX1_takeSeven 9 = .ok (.if_icmp .lt 7, 3) := by decide +kernel
theorem dX1_takeSeven_12 : decode cX1_takeSeven 12 = .ok (.aload_n 0, 1) := by decide +kernel
theorem dX1_takeSeven_13 : decode cX1_takeSeven 13 = .ok (.invokevirtual 129, 3) := by decide +kernel
theorem dX1_takeSeven_16 : decode cX1_takeSeven 16 = .ok (.iload_n 1, 1) := by decide +kernel
theorem dX1_takeSeven_17 : decode cX1_takeSeven 17 = .ok (.bipush 127, 2) := by decide +kernel
theorem dX1_takeSeven_19 : decode cX1_takeSeven 19 = .ok (.iand, 1) := by decide +kernel
theorem dX1_takeSeven_20 : decode cX1_takeSeven 20 = .ok (.ireturn, 1) := by decide +kernel
