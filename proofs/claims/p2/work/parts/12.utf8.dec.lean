theorem dX4_isAscii_0 : decode cX4_isAscii 0 = .ok (.iload_n 1, 1) := by decide +kernel
theorem dX4_isAscii_1 : decode cX4_isAscii 1 = .ok (.istore_n 3, 1) := by decide +kernel
theorem dX4_isAscii_2 : decode cX4_isAscii 2 = .ok (.iload_n 3, 1) := by decide +kernel
theorem dX4_isAscii_3 : decode cX4_isAscii 3 = .ok (.iload_n 1, 1) := by decide +kernel
theorem dX4_isAscii_4 : decode cX4_isAscii 4 = .ok (.iload_n 2, 1) := by decide +kernel
theorem dX4_isAscii_5 : decode cX4_isAscii 5 = .ok (.iadd, 1) := by decide +kernel
theorem dX4_isAscii_6 : decode cX4_isAscii 6 = .ok (.if_icmp .ge 31, 3) := by decide +kernel
theorem dX4_isAscii_9 : decode cX4_isAscii 9 = .ok (.aload_n 0, 1) := by decide +kernel
theorem dX4_isAscii_10 : decode cX4_isAscii 10 = .ok (.iload_n 3, 1) := by decide +kernel
theorem dX4_isAscii_11 : decode cX4_isAscii 11 = .ok (.invokevirtual 7, 3) := by decide +kernel
theorem dX4_isAscii_14 : decode cX4_isAscii 14 = .ok (.istore 4, 2) := by decide +kernel
theorem dX4_isAscii_16 : decode cX4_isAscii 16 = .ok (.iload 4, 2) := by decide +kernel
theorem dX4_isAscii_18 : decode cX4_isAscii 18 = .ok (.ifCond .lt 11, 3) := by decide +kernel
theorem dX4_isAscii_21 : decode cX4_isAscii 21 = .ok (.iload 4, 2) := by decide +kernel
theorem dX4_isAscii_23 : decode cX4_isAscii 23 = .ok (.sipush 128, 3) := by decide +kernel
theorem dX4_isAscii_26 : decode cX4_isAscii 26 = .ok (.if_icmp .lt 5, 3) := by decide +kernel
theorem dX4_isAscii_29 : decode cX4_isAscii 29 = .ok (.iconst 0, 1) := by decide +kernel
theorem dX4_isAscii_30 : decode cX4_isAscii 30 = .ok (.ireturn, 1) := by decide +kernel
theorem dX4_isAscii_31 : decode cX4_isAscii 31 = .ok (.iinc 3 1, 3) := by decide +kernel
theorem dX4_isAscii_34 : decode cX4_isAscii 34 = .ok (.goto (-32), 3) := by decide +kernel
theorem dX4_isAscii_37 : decode cX4_isAscii 37 = .ok (.iconst 1, 1) := by decide +kernel
theorem dX4_isAscii_38 : decode cX4_isAscii 38 = .ok (.ireturn, 1) := by decide +kernel
theorem dX4_isBetween_0 : decode cX4_isBetween 0 = .ok (.iload_n 0, 1) := by decide +kernel
theorem dX4_isBetween_1 : decode cX4_isBetween 1 = .ok (.iload_n 1, 1) := by decide +kernel
theorem dX4_isBetween_2 : decode cX4_isBetween 2 = .ok (.if_icmp .lt 12, 3) := by decide +kernel
theorem dX4_isBetween_5 : decode cX4_isBetween 5 = .ok (.iload_n 0, 1) := by decide +kernel
theorem dX4_isBetween_6 : decode cX4_isBetween 6 = .ok (.iload_n 2, 1) := by decide +kernel
theorem dX4_isBetween_7 : decode cX4_isBetween 7 = .ok (.if_icmp .gt 7, 3) := by decide +kernel
theorem dX4_isBetween_10 : decode cX4_isBetween 10 = .ok (.iconst 1, 1) := by decide +kernel
theorem dX4_isBetween_11 : decode cX4_isBetween 11 = .ok (.goto 4, 3) := by decide +kernel
theorem dX4_isBetween_14 : decode cX4_isBetween 14 = .ok (.iconst 0, 1) := by decide +kernel
theorem dX4_isBetween_15 : decode cX4_isBetween 15 = .ok (.ireturn, 1) := by decide +kernel
theorem dX4_isSecond_0 : decode cX4_isSecond 0 = .ok (.iload_n 0, 1) := by decide +kernel
theorem dX4_isSecond_1 : decode cX4_isSecond 1 = .ok (.lookupswitch 87 #[(224, 43), (237, 54), (240, 65), (244, 76)], 43) := by decide +kernel
theorem dX4_isSecond_44 : decode cX4_isSecond 44 = .ok (.iload_n 1, 1) := by decide +kernel
theorem dX4_isSecond_45 : decode cX4_isSecond 45 = .ok (.sipush 160, 3) := by decide +kernel
theorem dX4_isSecond_48 : decode cX4_isSecond 48 = .ok (.sipush 191, 3) := by decide +kernel
theorem dX4_isSecond_51 : decode cX4_isSecond 51 = .ok (.invokestatic 23, 3) := by decide +kernel
theorem dX4_isSecond_54 : decode cX4_isSecond 54 = .ok (.ireturn, 1) := by decide +kernel
theorem dX4_isSecond_55 : decode cX4_isSecond 55 = .ok (.iload_n 1, 1) := by decide +kernel
theorem dX4_isSecond_56 : decode cX4_isSecond 56 = .ok (.sipush 128, 3) := by decide +kernel
theorem dX4_isSecond_59 : decode cX4_isSecond 59 = .ok (.sipush 159, 3) := by decide +kernel
theorem dX4_isSecond_62 : decode cX4_isSecond 62 = .ok (.invokestatic 23, 3) := by decide +kernel
theorem dX4_isSecond_65 : decode cX4_isSecond 65 = .ok (.ireturn, 1) := by decide +kernel
theorem dX4_isSecond_66 : decode cX4_isSecond 66 = .ok (.iload_n 1, 1) := by decide +kernel
theorem dX4_isSecond_67 : decode cX4_isSecond 67 = .ok (.sipush 144, 3) := by decide +kernel
theorem dX4_isSecond_70 : decode cX4_isSecond 70 = .ok (.sipush 191, 3) := by decide +kernel
theorem dX4_isSecond_73 : decode cX4_isSecond 73 = .ok (.invokestatic 23, 3) := by decide +kernel
theorem dX4_isSecond_76 : decode cX4_isSecond 76 = .ok (.ireturn, 1) := by decide +kernel
theorem dX4_isSecond_77 : decode cX4_isSecond 77 = .ok (.iload_n 1, 1) := by decide +kernel
theorem dX4_isSecond_78 : decode cX4_isSecond 78 = .ok (.sipush 128, 3) := by decide +kernel
theorem dX4_isSecond_81 : decode cX4_isSecond 81 = .ok (.sipush 143, 3) := by decide +kernel
theorem dX4_isSecond_84 : decode cX4_isSecond 84 = .ok (.invokestatic 23, 3) := by decide +kernel
theorem dX4_isSecond_87 : decode cX4_isSecond 87 = .ok (.ireturn, 1) := by decide +kernel
theorem dX4_isSecond_88 : decode cX4_isSecond 88 = .ok (.iload_n 1, 1) := by decide +kernel
theorem dX4_isSecond_89 : decode cX4_isSecond 89 = .ok (.sipush 128, 3) := by decide +kernel
theorem dX4_isSecond_92 : decode cX4_isSecond 92 = .ok (.sipush 191, 3) := by decide +kernel
theorem dX4_isSecond_95 : decode cX4_isSecond 95 = .ok (.invokestatic 23, 3) := by decide +kernel
theorem dX4_isSecond_98 : decode cX4_isSecond 98 = .ok (.ireturn, 1) := by decide +kernel
theorem dX4_isText_0 : decode cX4_isText 0 = .ok (.iload_n 1, 1) := by decide +kernel
theorem dX4_isText_1 : decode cX4_isText 1 = .ok (.iload_n 2, 1) := by decide +kernel
theorem dX4_isText_2 : decode cX4_isText 2 = .ok (.iadd, 1) := by decide +kernel
theorem dX4_isText_3 : decode cX4_isText 3 = .ok (.istore_n 3, 1) := by decide +kernel
theorem dX4_isText_4 : decode cX4_isText 4 = .ok (.iload_n 1, 1) := by decide +kernel
theorem dX4_isText_5 : decode cX4_isText 5 = .ok (.istore 4, 2) := by decide +kernel
theorem dX4_isText_7 : decode cX4_isText 7 = .ok (.iload 4, 2) := by decide +kernel
theorem dX4_isText_9 : decode cX4_isText 9 = .ok (.iload_n 3, 1) := by decide +kernel
theorem dX4_isText_10 : decode cX4_isText 10 = .ok (.if_icmp .ge 37, 3) := by decide +kernel
theorem dX4_isText_13 : decode cX4_isText 13 = .ok (.aload_n 0, 1) := by decide +kernel
theorem dX4_isText_14 : decode cX4_isText 14 = .ok (.iload 4, 2) := by decide +kernel
theorem dX4_isText_16 : decode cX4_isText 16 = .ok (.invokestatic 13, 3) := by decide +kernel
theorem dX4_isText_19 : decode cX4_isText 19 = .ok (.istore 5, 2) := by decide +kernel
theorem dX4_isText_21 : decode cX4_isText 21 = .ok (.iload 5, 2) := by decide +kernel
theorem dX4_isText_23 : decode cX4_isText 23 = .ok (.ifCond .eq 12, 3) := by decide +kernel
theorem dX4_isText_26 : decode cX4_isText 26 = .ok (.iload 5, 2) := by decide +kernel
theorem dX4_isText_28 : decode cX4_isText 28 = .ok (.iload_n 3, 1) := by decide +kernel
theorem dX4_isText_29 : decode cX4_isText 29 = .ok (.iload 4, 2) := by decide +kernel
theorem dX4_isText_31 : decode cX4_isText 31 = .ok (.isub, 1) := by decide +kernel
theorem dX4_isText_32 : decode cX4_isText 32 = .ok (.if_icmp .le 5, 3) := by decide +kernel
theorem dX4_isText_35 : decode cX4_isText 35 = .ok (.iconst 0, 1) := by decide +kernel
theorem dX4_isText_36 : decode cX4_isText 36 = .ok (.ireturn, 1) := by decide +kernel
theorem dX4_isText_37 : decode cX4_isText 37 = .ok (.iload 4, 2) := by decide +kernel
theorem dX4_isText_39 : decode cX4_isText 39 = .ok (.iload 5, 2) := by decide +kernel
theorem dX4_isText_41 : decode cX4_isText 41 = .ok (.iadd, 1) := by decide +kernel
theorem dX4_isText_42 : decode cX4_isText 42 = .ok (.istore 4, 2) := by decide +kernel
theorem dX4_isText_44 : decode cX4_isText 44 = .ok (.goto (-37), 3) := by decide +kernel
theorem dX4_isText_47 : decode cX4_isText 47 = .ok (.iconst 1, 1) := by decide +kernel
theorem dX4_isText_48 : decode cX4_isText 48 = .ok (.ireturn, 1) := by decide +kernel
theorem dX4_widthAt_0 : decode cX4_widthAt 0 = .ok (.aload_n 0, 1) := by decide +kernel
theorem dX4_widthAt_1 : decode cX4_widthAt 1 = .ok (.iload_n 1, 1) := by decide +kernel
theorem dX4_widthAt_2 : decode cX4_widthAt 2 = .ok (.invokevirtual 7, 3) := by decide +kernel
theorem dX4_widthAt_5 : decode cX4_widthAt 5 = .ok (.istore_n 2, 1) := by decide +kernel
theorem dX4_widthAt_6 : decode cX4_widthAt 6 = .ok (.iload_n 2, 1) := by decide +kernel
theorem dX4_widthAt_7 : decode cX4_widthAt 7 = .ok (.ifCond .ge 5, 3) := by decide +kernel
theorem dX4_widthAt_10 : decode cX4_widthAt 10 = .ok (.iconst 0, 1) := by decide +kernel
theorem dX4_widthAt_11 : decode cX4_widthAt 11 = .ok (.ireturn, 1) := by decide +kernel
theorem dX4_widthAt_12 : decode cX4_widthAt 12 = .ok (.iload_n 2, 1) := by decide +kernel
theorem dX4_widthAt_13 : decode cX4_widthAt 13 = .ok (.sipush 128, 3) := by decide +kernel
theorem dX4_widthAt_16 : decode cX4_widthAt 16 = .ok (.if_icmp .ge 5, 3) := by decide +kernel
theorem dX4_widthAt_19 : decode cX4_widthAt 19 = .ok (.iconst 1, 1) := by decide +kernel
theorem dX4_widthAt_20 : decode cX4_widthAt 20 = .ok (.ireturn, 1) := by decide +kernel
theorem dX4_widthAt_21 : decode cX4_widthAt 21 = .ok (.iload_n 2, 1) := by decide +kernel
theorem dX4_widthAt_22 : decode cX4_widthAt 22 = .ok (.sipush 194, 3) := by decide +kernel
theorem dX4_widthAt_25 : decode cX4_widthAt 25 = .ok (.if_icmp .lt 24, 3) := by decide +kernel
theorem dX4_widthAt_28 : decode cX4_widthAt 28 = .ok (.iload_n 2, 1) := by decide +kernel
theorem dX4_widthAt_29 : decode cX4_widthAt 29 = .ok (.sipush 244, 3) := by decide +kernel
theorem dX4_widthAt_32 : decode cX4_widthAt 32 = .ok (.if_icmp .gt 17, 3) := by decide +kernel
theorem dX4_widthAt_35 : decode cX4_widthAt 35 = .ok (.iload_n 2, 1) := by decide +kernel
theorem dX4_widthAt_36 : decode cX4_widthAt 36 = .ok (.aload_n 0, 1) := by decide +kernel
theorem dX4_widthAt_37 : decode cX4_widthAt 37 = .ok (.iload_n 1, 1) := by decide +kernel
theorem dX4_widthAt_38 : decode cX4_widthAt 38 = .ok (.iconst 1, 1) := by decide +kernel
theorem dX4_widthAt_39 : decode cX4_widthAt 39 = .ok (.iadd, 1) := by decide +kernel
theorem dX4_widthAt_40 : decode cX4_widthAt 40 = .ok (.invokevirtual 7, 3) := by decide +kernel
theorem dX4_widthAt_43 : decode cX4_widthAt 43 = .ok (.invokestatic 19, 3) := by decide +kernel
theorem dX4_widthAt_46 : decode cX4_widthAt 46 = .ok (.ifCond .ne 5, 3) := by decide +kernel
theorem dX4_widthAt_49 : decode cX4_widthAt 49 = .ok (.iconst 0, 1) := by decide +kernel
theorem dX4_widthAt_50 : decode cX4_widthAt 50 = .ok (.ireturn, 1) := by decide +kernel
theorem dX4_widthAt_51 : decode cX4_widthAt 51 = .ok (.iload_n 2, 1) := by decide +kernel
theorem dX4_widthAt_52 : decode cX4_widthAt 52 = .ok (.sipush 224, 3) := by decide +kernel
theorem dX4_widthAt_55 : decode cX4_widthAt 55 = .ok (.if_icmp .ge 7, 3) := by decide +kernel
theorem dX4_widthAt_58 : decode cX4_widthAt 58 = .ok (.iconst 2, 1) := by decide +kernel
theorem dX4_widthAt_59 : decode cX4_widthAt 59 = .ok (.goto 15, 3) := by decide +kernel
theorem dX4_widthAt_62 : decode cX4_widthAt 62 = .ok (.iload_n 2, 1) := by decide +kernel
theorem dX4_widthAt_63 : decode cX4_widthAt 63 = .ok (.sipush 240, 3) := by decide +kernel
theorem dX4_widthAt_66 : decode cX4_widthAt 66 = .ok (.if_icmp .ge 7, 3) := by decide +kernel
theorem dX4_widthAt_69 : decode cX4_widthAt 69 = .ok (.iconst 3, 1) := by decide +kernel
theorem dX4_widthAt_70 : decode cX4_widthAt 70 = .ok (.goto 4, 3) := by decide +kernel
theorem dX4_widthAt_73 : decode cX4_widthAt 73 = .ok (.iconst 4, 1) := by decide +kernel
theorem dX4_widthAt_74 : decode cX4_widthAt 74 = .ok (.istore_n 3, 1) := by decide +kernel
theorem dX4_widthAt_75 : decode cX4_widthAt 75 = .ok (.iconst 2, 1) := by decide +kernel
theorem dX4_widthAt_76 : decode cX4_widthAt 76 = .ok (.istore 4, 2) := by decide +kernel
theorem dX4_widthAt_78 : decode cX4_widthAt 78 = .ok (.iload 4, 2) := by decide +kernel
theorem dX4_widthAt_80 : decode cX4_widthAt 80 = .ok (.iload_n 3, 1) := by decide +kernel
theorem dX4_widthAt_81 : decode cX4_widthAt 81 = .ok (.if_icmp .ge 31, 3) := by decide +kernel
theorem dX4_widthAt_84 : decode cX4_widthAt 84 = .ok (.aload_n 0, 1) := by decide +kernel
theorem dX4_widthAt_85 : decode cX4_widthAt 85 = .ok (.iload_n 1, 1) := by decide +kernel
theorem dX4_widthAt_86 : decode cX4_widthAt 86 = .ok (.iload 4, 2) := by decide +kernel
theorem dX4_widthAt_88 : decode cX4_widthAt 88 = .ok (.iadd, 1) := by decide +kernel
theorem dX4_widthAt_89 : decode cX4_widthAt 89 = .ok (.invokevirtual 7, 3) := by decide +kernel
theorem dX4_widthAt_92 : decode cX4_widthAt 92 = .ok (.sipush 128, 3) := by decide +kernel
theorem dX4_widthAt_95 : decode cX4_widthAt 95 = .ok (.sipush 191, 3) := by decide +kernel
theorem dX4_widthAt_98 : decode cX4_widthAt 98 = .ok (.invokestatic 23, 3) := by decide +kernel
theorem dX4_widthAt_101 : decode cX4_widthAt 101 = .ok (.ifCond .ne 5, 3) := by decide +kernel
theorem dX4_widthAt_104 : decode cX4_widthAt 104 = .ok (.iconst 0, 1) := by decide +kernel
theorem dX4_widthAt_105 : decode cX4_widthAt 105 = .ok (.ireturn, 1) := by decide +kernel
theorem dX4_widthAt_106 : decode cX4_widthAt 106 = .ok (.iinc 4 1, 3) := by decide +kernel
theorem dX4_widthAt_109 : decode cX4_widthAt 109 = .ok (.goto (-31), 3) := by decide +kernel
theorem dX4_widthAt_112 : decode cX4_widthAt 112 = .ok (.iload_n 3, 1) := by decide +kernel
theorem dX4_widthAt_113 : decode cX4_widthAt 113 = .ok (.ireturn, 1) := by decide +kernel
