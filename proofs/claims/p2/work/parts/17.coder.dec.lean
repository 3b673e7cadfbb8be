theorem dX6_addPlain_0 : decode cX6_addPlain 0 = .ok (.aload_n 0, 1) := by decide +kernel
theorem dX6_addPlain_1 : decode cX6_addPlain 1 = .ok (.getfield 30, 3) := by decide +kernel
theorem dX6_addPlain_4 : decode cX6_addPlain 4 = .ok (.iload_n 1, 1) := by decide +kernel
theorem dX6_addPlain_5 : decode cX6_addPlain 5 = .ok (.invokevirtual 122, 3) := by decide +kernel
theorem dX6_addPlain_8 : decode cX6_addPlain 8 = .ok (.ifCond .eq 15, 3) := by decide +kernel
theorem dX6_addPlain_11 : decode cX6_addPlain 11 = .ok (.aload_n 0, 1) := by decide +kernel
theorem dX6_addPlain_12 : decode cX6_addPlain 12 = .ok (.getfield 30, 3) := by decide +kernel
theorem dX6_addPlain_15 : decode cX6_addPlain 15 = .ok (.iload_n 1, 1) := by decide +kernel
theorem dX6_addPlain_16 : decode cX6_addPlain 16 = .ok (.iconst 0, 1) := by decide +kernel
theorem dX6_addPlain_17 : decode cX6_addPlain 17 = .ok (.invokevirtual 126, 3) := by decide +kernel
theorem dX6_addPlain_20 : decode cX6_addPlain 20 = .ok (.ifCond .ne 5, 3) := by decide +kernel
theorem dX6_addPlain_23 : decode cX6_addPlain 23 = .ok (.iconst (-1), 1) := by decide +kernel
theorem dX6_addPlain_24 : decode cX6_addPlain 24 = .ok (.ireturn, 1) := by decide +kernel
theorem dX6_addPlain_25 : decode cX6_addPlain 25 = .ok (.aload_n 0, 1) := by decide +kernel
theorem dX6_addPlain_26 : decode cX6_addPlain 26 = .ok (.getfield 30, 3) := by decide +kernel
theorem dX6_addPlain_29 : decode cX6_addPlain 29 = .ok (.iload_n 1, 1) := by decide +kernel
theorem dX6_addPlain_30 : decode cX6_addPlain 30 = .ok (.lload_n 2, 1) := by decide +kernel
theorem dX6_addPlain_31 : decode cX6_addPlain 31 = .ok (.invokevirtual 130, 3) := by decide +kernel
theorem dX6_addPlain_34 : decode cX6_addPlain 34 = .ok (.aload_n 0, 1) := by decide +kernel
theorem dX6_addPlain_35 : decode cX6_addPlain 35 = .ok (.getfield 30, 3) := by decide +kernel
theorem dX6_addPlain_38 : decode cX6_addPlain 38 = .ok (.invokevirtual 68, 3) := by decide +kernel
theorem dX6_addPlain_41 : decode cX6_addPlain 41 = .ok (.ireturn, 1) := by decide +kernel
theorem dX6_addTyped_0 : decode cX6_addTyped 0 = .ok (.aload_n 0, 1) := by decide +kernel
theorem dX6_addTyped_1 : decode cX6_addTyped 1 = .ok (.getfield 30, 3) := by decide +kernel
theorem dX6_addTyped_4 : decode cX6_addTyped 4 = .ok (.iload_n 1, 1) := by decide +kernel
theorem dX6_addTyped_5 : decode cX6_addTyped 5 = .ok (.invokevirtual 122, 3) := by decide +kernel
theorem dX6_addTyped_8 : decode cX6_addTyped 8 = .ok (.ifCond .eq 21, 3) := by decide +kernel
theorem dX6_addTyped_11 : decode cX6_addTyped 11 = .ok (.aload_n 0, 1) := by decide +kernel
theorem dX6_addTyped_12 : decode cX6_addTyped 12 = .ok (.getfield 30, 3) := by decide +kernel
theorem dX6_addTyped_15 : decode cX6_addTyped 15 = .ok (.iload_n 1, 1) := by decide +kernel
theorem dX6_addTyped_16 : decode cX6_addTyped 16 = .ok (.aload_n 0, 1) := by decide +kernel
theorem dX6_addTyped_17 : decode cX6_addTyped 17 = .ok (.getfield 14, 3) := by decide +kernel
theorem dX6_addTyped_20 : decode cX6_addTyped 20 = .ok (.invokevirtual 83, 3) := by decide +kernel
theorem dX6_addTyped_23 : decode cX6_addTyped 23 = .ok (.invokevirtual 126, 3) := by decide +kernel
theorem dX6_addTyped_26 : decode cX6_addTyped 26 = .ok (.ifCond .ne 5, 3) := by decide +kernel
theorem dX6_addTyped_29 : decode cX6_addTyped 29 = .ok (.iconst (-1), 1) := by decide +kernel
theorem dX6_addTyped_30 : decode cX6_addTyped 30 = .ok (.ireturn, 1) := by decide +kernel
theorem dX6_addTyped_31 : decode cX6_addTyped 31 = .ok (.iload_n 1, 1) := by decide +kernel
theorem dX6_addTyped_32 : decode cX6_addTyped 32 = .ok (.iconst 4, 1) := by decide +kernel
theorem dX6_addTyped_33 : decode cX6_addTyped 33 = .ok (.if_icmp .eq 23, 3) := by decide +kernel
theorem dX6_addTyped_36 : decode cX6_addTyped 36 = .ok (.aload_n 0, 1) := by decide +kernel
theorem dX6_addTyped_37 : decode cX6_addTyped 37 = .ok (.getfield 14, 3) := by decide +kernel
theorem dX6_addTyped_40 : decode cX6_addTyped 40 = .ok (.iconst 0, 1) := by decide +kernel
theorem dX6_addTyped_41 : decode cX6_addTyped 41 = .ok (.aload_n 0, 1) := by decide +kernel
theorem dX6_addTyped_42 : decode cX6_addTyped 42 = .ok (.getfield 14, 3) := by decide +kernel
theorem dX6_addTyped_45 : decode cX6_addTyped 45 = .ok (.invokevirtual 83, 3) := by decide +kernel
theorem dX6_addTyped_48 : decode cX6_addTyped 48 = .ok (.invokestatic 134, 3) := by decide +kernel
theorem dX6_addTyped_51 : decode cX6_addTyped 51 = .ok (.ifCond .ne 5, 3) := by decide +kernel
theorem dX6_addTyped_54 : decode cX6_addTyped 54 = .ok (.iconst (-1), 1) := by decide +kernel
theorem dX6_addTyped_55 : decode cX6_addTyped 55 = .ok (.ireturn, 1) := by decide +kernel
theorem dX6_addTyped_56 : decode cX6_addTyped 56 = .ok (.aload_n 0, 1) := by decide +kernel
theorem dX6_addTyped_57 : decode cX6_addTyped 57 = .ok (.getfield 30, 3) := by decide +kernel
theorem dX6_addTyped_60 : decode cX6_addTyped 60 = .ok (.iload_n 1, 1) := by decide +kernel
theorem dX6_addTyped_61 : decode cX6_addTyped 61 = .ok (.lconst 0, 1) := by decide +kernel
theorem dX6_addTyped_62 : decode cX6_addTyped 62 = .ok (.invokevirtual 130, 3) := by decide +kernel
theorem dX6_addTyped_65 : decode cX6_addTyped 65 = .ok (.aload_n 0, 1) := by decide +kernel
theorem dX6_addTyped_66 : decode cX6_addTyped 66 = .ok (.getfield 30, 3) := by decide +kernel
theorem dX6_addTyped_69 : decode cX6_addTyped 69 = .ok (.aload_n 0, 1) := by decide +kernel
theorem dX6_addTyped_70 : decode cX6_addTyped 70 = .ok (.getfield 14, 3) := by decide +kernel
theorem dX6_addTyped_73 : decode cX6_addTyped 73 = .ok (.iconst 0, 1) := by decide +kernel
theorem dX6_addTyped_74 : decode cX6_addTyped 74 = .ok (.aload_n 0, 1) := by decide +kernel
theorem dX6_addTyped_75 : decode cX6_addTyped 75 = .ok (.getfield 14, 3) := by decide +kernel
theorem dX6_addTyped_78 : decode cX6_addTyped 78 = .ok (.invokevirtual 83, 3) := by decide +kernel
theorem dX6_addTyped_81 : decode cX6_addTyped 81 = .ok (.invokevirtual 140, 3) := by decide +kernel
theorem dX6_addTyped_84 : decode cX6_addTyped 84 = .ok (.aload_n 0, 1) := by decide +kernel
theorem dX6_addTyped_85 : decode cX6_addTyped 85 = .ok (.getfield 14, 3) := by decide +kernel
theorem dX6_addTyped_88 : decode cX6_addTyped 88 = .ok (.invokevirtual 95, 3) := by decide +kernel
theorem dX6_addTyped_91 : decode cX6_addTyped 91 = .ok (.aload_n 0, 1) := by decide +kernel
theorem dX6_addTyped_92 : decode cX6_addTyped 92 = .ok (.getfield 30, 3) := by decide +kernel
theorem dX6_addTyped_95 : decode cX6_addTyped 95 = .ok (.invokevirtual 68, 3) := by decide +kernel
theorem dX6_addTyped_98 : decode cX6_addTyped 98 = .ok (.ireturn, 1) := by decide +kernel
theorem dX6_byteOf_0 : decode cX6_byteOf 0 = .ok (.aload_n 0, 1) := by decide +kernel
theorem dX6_byteOf_1 : decode cX6_byteOf 1 = .ok (.getfield 30, 3) := by decide +kernel
theorem dX6_byteOf_4 : decode cX6_byteOf 4 = .ok (.iload_n 1, 1) := by decide +kernel
theorem dX6_byteOf_5 : decode cX6_byteOf 5 = .ok (.iload_n 2, 1) := by decide +kernel
theorem dX6_byteOf_6 : decode cX6_byteOf 6 = .ok (.invokevirtual 112, 3) := by decide +kernel
theorem dX6_byteOf_9 : decode cX6_byteOf 9 = .ok (.ireturn, 1) := by decide +kernel
theorem dX6_check_0 : decode cX6_check 0 = .ok (.aload_n 0, 1) := by decide +kernel
theorem dX6_check_1 : decode cX6_check 1 = .ok (.getfield 30, 3) := by decide +kernel
theorem dX6_check_4 : decode cX6_check 4 = .ok (.invokevirtual 119, 3) := by decide +kernel
theorem dX6_check_7 : decode cX6_check 7 = .ok (.ifCond .eq 7, 3) := by decide +kernel
theorem dX6_check_10 : decode cX6_check 10 = .ok (.iconst 1, 1) := by decide +kernel
theorem dX6_check_11 : decode cX6_check 11 = .ok (.goto 4, 3) := by decide +kernel
theorem dX6_check_14 : decode cX6_check 14 = .ok (.iconst 0, 1) := by decide +kernel
theorem dX6_check_15 : decode cX6_check 15 = .ok (.ireturn, 1) := by decide +kernel
theorem dX6_count_0 : decode cX6_count 0 = .ok (.iload_n 1, 1) := by decide +kernel
theorem dX6_count_1 : decode cX6_count 1 = .ok (.tableswitch 95 0 5 #[39, 47, 63, 71, 79, 87], 39) := by decide +kernel
theorem dX6_count_40 : decode cX6_count 40 = .ok (.aload_n 0, 1) := by decide +kernel
theorem dX6_count_41 : decode cX6_count 41 = .ok (.getfield 30, 3) := by decide +kernel
theorem dX6_count_44 : decode cX6_count 44 = .ok (.invokevirtual 68, 3) := by decide +kernel
theorem dX6_count_47 : decode cX6_count 47 = .ok (.ireturn, 1) := by decide +kernel
theorem dX6_count_48 : decode cX6_count 48 = .ok (.aload_n 0, 1) := by decide +kernel
theorem dX6_count_49 : decode cX6_count 49 = .ok (.getfield 30, 3) := by decide +kernel
theorem dX6_count_52 : decode cX6_count 52 = .ok (.invokevirtual 75, 3) := by decide +kernel
theorem dX6_count_55 : decode cX6_count 55 = .ok (.ifCond .eq 7, 3) := by decide +kernel
theorem dX6_count_58 : decode cX6_count 58 = .ok (.iconst 1, 1) := by decide +kernel
theorem dX6_count_59 : decode cX6_count 59 = .ok (.goto 4, 3) := by decide +kernel
theorem dX6_count_62 : decode cX6_count 62 = .ok (.iconst 0, 1) := by decide +kernel
theorem dX6_count_63 : decode cX6_count 63 = .ok (.ireturn, 1) := by decide +kernel
theorem dX6_count_64 : decode cX6_count 64 = .ok (.aload_n 0, 1) := by decide +kernel
theorem dX6_count_65 : decode cX6_count 65 = .ok (.getfield 30, 3) := by decide +kernel
theorem dX6_count_68 : decode cX6_count 68 = .ok (.invokevirtual 116, 3) := by decide +kernel
theorem dX6_count_71 : decode cX6_count 71 = .ok (.ireturn, 1) := by decide +kernel
theorem dX6_count_72 : decode cX6_count 72 = .ok (.aload_n 0, 1) := by decide +kernel
theorem dX6_count_73 : decode cX6_count 73 = .ok (.getfield 14, 3) := by decide +kernel
theorem dX6_count_76 : decode cX6_count 76 = .ok (.invokevirtual 83, 3) := by decide +kernel
theorem dX6_count_79 : decode cX6_count 79 = .ok (.ireturn, 1) := by decide +kernel
theorem dX6_count_80 : decode cX6_count 80 = .ok (.aload_n 0, 1) := by decide +kernel
theorem dX6_count_81 : decode cX6_count 81 = .ok (.getfield 18, 3) := by decide +kernel
theorem dX6_count_84 : decode cX6_count 84 = .ok (.invokevirtual 83, 3) := by decide +kernel
theorem dX6_count_87 : decode cX6_count 87 = .ok (.ireturn, 1) := by decide +kernel
theorem dX6_count_88 : decode cX6_count 88 = .ok (.aload_n 0, 1) := by decide +kernel
theorem dX6_count_89 : decode cX6_count 89 = .ok (.getfield 21, 3) := by decide +kernel
theorem dX6_count_92 : decode cX6_count 92 = .ok (.invokevirtual 83, 3) := by decide +kernel
theorem dX6_count_95 : decode cX6_count 95 = .ok (.ireturn, 1) := by decide +kernel
theorem dX6_count_96 : decode cX6_count 96 = .ok (.iconst (-1), 1) := by decide +kernel
theorem dX6_count_97 : decode cX6_count 97 = .ok (.ireturn, 1) := by decide +kernel
theorem dX6_drop_0 : decode cX6_drop 0 = .ok (.aload_n 0, 1) := by decide +kernel
theorem dX6_drop_1 : decode cX6_drop 1 = .ok (.getfield 30, 3) := by decide +kernel
theorem dX6_drop_4 : decode cX6_drop 4 = .ok (.invokevirtual 68, 3) := by decide +kernel
theorem dX6_drop_7 : decode cX6_drop 7 = .ok (.istore_n 1, 1) := by decide +kernel
theorem dX6_drop_8 : decode cX6_drop 8 = .ok (.aload_n 0, 1) := by decide +kernel
theorem dX6_drop_9 : decode cX6_drop 9 = .ok (.getfield 30, 3) := by decide +kernel
theorem dX6_drop_12 : decode cX6_drop 12 = .ok (.invokevirtual 72, 3) := by decide +kernel
theorem dX6_drop_15 : decode cX6_drop 15 = .ok (.iload_n 1, 1) := by decide +kernel
theorem dX6_drop_16 : decode cX6_drop 16 = .ok (.ireturn, 1) := by decide +kernel
theorem dX6_end_0 : decode cX6_end 0 = .ok (.aload_n 0, 1) := by decide +kernel
theorem dX6_end_1 : decode cX6_end 1 = .ok (.bipush 11, 2) := by decide +kernel
theorem dX6_end_3 : decode cX6_end 3 = .ok (.lconst 0, 1) := by decide +kernel
theorem dX6_end_4 : decode cX6_end 4 = .ok (.invokevirtual 64, 3) := by decide +kernel
theorem dX6_end_7 : decode cX6_end 7 = .ok (.ireturn, 1) := by decide +kernel
theorem dX6_integer_0 : decode cX6_integer 0 = .ok (.aload_n 0, 1) := by decide +kernel
theorem dX6_integer_1 : decode cX6_integer 1 = .ok (.bipush 7, 2) := by decide +kernel
theorem dX6_integer_3 : decode cX6_integer 3 = .ok (.lload_n 1, 1) := by decide +kernel
theorem dX6_integer_4 : decode cX6_integer 4 = .ok (.invokevirtual 64, 3) := by decide +kernel
theorem dX6_integer_7 : decode cX6_integer 7 = .ok (.ireturn, 1) := by decide +kernel
theorem dX6_item_0 : decode cX6_item 0 = .ok (.iload_n 2, 1) := by decide +kernel
theorem dX6_item_1 : decode cX6_item 1 = .ok (.tableswitch 54 0 2 #[27, 36, 45], 27) := by decide +kernel
theorem dX6_item_28 : decode cX6_item 28 = .ok (.aload_n 0, 1) := by decide +kernel
theorem dX6_item_29 : decode cX6_item 29 = .ok (.getfield 30, 3) := by decide +kernel
theorem dX6_item_32 : decode cX6_item 32 = .ok (.iload_n 1, 1) := by decide +kernel
theorem dX6_item_33 : decode cX6_item 33 = .ok (.invokevirtual 99, 3) := by decide +kernel
theorem dX6_item_36 : decode cX6_item 36 = .ok (.ireturn, 1) := by decide +kernel
theorem dX6_item_37 : decode cX6_item 37 = .ok (.aload_n 0, 1) := by decide +kernel
theorem dX6_item_38 : decode cX6_item 38 = .ok (.getfield 30, 3) := by decide +kernel
theorem dX6_item_41 : decode cX6_item 41 = .ok (.iload_n 1, 1) := by decide +kernel
theorem dX6_item_42 : decode cX6_item 42 = .ok (.invokevirtual 102, 3) := by decide +kernel
theorem dX6_item_45 : decode cX6_item 45 = .ok (.ireturn, 1) := by decide +kernel
theorem dX6_item_46 : decode cX6_item 46 = .ok (.aload_n 0, 1) := by decide +kernel
theorem dX6_item_47 : decode cX6_item 47 = .ok (.getfield 30, 3) := by decide +kernel
theorem dX6_item_50 : decode cX6_item 50 = .ok (.iload_n 1, 1) := by decide +kernel
theorem dX6_item_51 : decode cX6_item 51 = .ok (.invokevirtual 105, 3) := by decide +kernel
theorem dX6_item_54 : decode cX6_item 54 = .ok (.ireturn, 1) := by decide +kernel
theorem dX6_item_55 : decode cX6_item 55 = .ok (.iconst (-1), 1) := by decide +kernel
theorem dX6_item_56 : decode cX6_item 56 = .ok (.ireturn, 1) := by decide +kernel
theorem dX6_load_0 : decode cX6_load 0 = .ok (.aload_n 0, 1) := by decide +kernel
theorem dX6_load_1 : decode cX6_load 1 = .ok (.getfield 18, 3) := by decide +kernel
theorem dX6_load_4 : decode cX6_load 4 = .ok (.lload_n 1, 1) := by decide +kernel
theorem dX6_load_5 : decode cX6_load 5 = .ok (.iload_n 3, 1) := by decide +kernel
theorem dX6_load_6 : decode cX6_load 6 = .ok (.invokevirtual 56, 3) := by decide +kernel
theorem dX6_load_9 : decode cX6_load 9 = .ok (.ireturn, 1) := by decide +kernel
theorem dX6_loop_0 : decode cX6_loop 0 = .ok (.aload_n 0, 1) := by decide +kernel
theorem dX6_loop_1 : decode cX6_loop 1 = .ok (.getfield 18, 3) := by decide +kernel
theorem dX6_loop_4 : decode cX6_loop 4 = .ok (.aload_n 0, 1) := by decide +kernel
theorem dX6_loop_5 : decode cX6_loop 5 = .ok (.getfield 21, 3) := by decide +kernel
theorem dX6_loop_8 : decode cX6_loop 8 = .ok (.invokevirtual 87, 3) := by decide +kernel
theorem dX6_loop_11 : decode cX6_loop 11 = .ok (.aload_n 0, 1) := by decide +kernel
theorem dX6_loop_12 : decode cX6_loop 12 = .ok (.getfield 18, 3) := by decide +kernel
theorem dX6_loop_15 : decode cX6_loop 15 = .ok (.invokevirtual 83, 3) := by decide +kernel
theorem dX6_loop_18 : decode cX6_loop 18 = .ok (.ireturn, 1) := by decide +kernel
theorem dX6_name_0 : decode cX6_name 0 = .ok (.aload_n 0, 1) := by decide +kernel
theorem dX6_name_1 : decode cX6_name 1 = .ok (.bipush 10, 2) := by decide +kernel
theorem dX6_name_3 : decode cX6_name 3 = .ok (.invokevirtual 60, 3) := by decide +kernel
theorem dX6_name_6 : decode cX6_name 6 = .ok (.ireturn, 1) := by decide +kernel
theorem dX6_number_0 : decode cX6_number 0 = .ok (.aload_n 0, 1) := by decide +kernel
theorem dX6_number_1 : decode cX6_number 1 = .ok (.getfield 30, 3) := by decide +kernel
theorem dX6_number_4 : decode cX6_number 4 = .ok (.iload_n 1, 1) := by decide +kernel
theorem dX6_number_5 : decode cX6_number 5 = .ok (.invokevirtual 108, 3) := by decide +kernel
theorem dX6_number_8 : decode cX6_number 8 = .ok (.lreturn, 1) := by decide +kernel
theorem dX6_place_0 : decode cX6_place 0 = .ok (.aload_n 0, 1) := by decide +kernel
theorem dX6_place_1 : decode cX6_place 1 = .ok (.getfield 52, 3) := by decide +kernel
theorem dX6_place_4 : decode cX6_place 4 = .ok (.invokevirtual 96, 3) := by decide +kernel
theorem dX6_place_7 : decode cX6_place 7 = .ok (.ireturn, 1) := by decide +kernel
theorem dX6_real_0 : decode cX6_real 0 = .ok (.iload_n 3, 1) := by decide +kernel
theorem dX6_real_1 : decode cX6_real 1 = .ok (.iconst 1, 1) := by decide +kernel
theorem dX6_real_2 : decode cX6_real 2 = .ok (.if_icmp .ne 11, 3) := by decide +kernel
theorem dX6_real_5 : decode cX6_real 5 = .ok (.aload_n 0, 1) := by decide +kernel
theorem dX6_real_6 : decode cX6_real 6 = .ok (.bipush 9, 2) := by decide +kernel
theorem dX6_real_8 : decode cX6_real 8 = .ok (.lload_n 1, 1) := by decide +kernel
theorem dX6_real_9 : decode cX6_real 9 = .ok (.invokevirtual 64, 3) := by decide +kernel
theorem dX6_real_12 : decode cX6_real 12 = .ok (.ireturn, 1) := by decide +kernel
theorem dX6_real_13 : decode cX6_real 13 = .ok (.iload_n 3, 1) := by decide +kernel
theorem dX6_real_14 : decode cX6_real 14 = .ok (.ifCond .ne 22, 3) := by decide +kernel
theorem dX6_real_17 : decode cX6_real 17 = .ok (.lload_n 1, 1) := by decide +kernel
theorem dX6_real_18 : decode cX6_real 18 = .ok (.bipush 32, 2) := by decide +kernel
theorem dX6_real_20 : decode cX6_real 20 = .ok (.lushr, 1) := by decide +kernel
theorem dX6_real_21 : decode cX6_real 21 = .ok (.lconst 0, 1) := by decide +kernel
theorem dX6_real_22 : decode cX6_real 22 = .ok (.lcmp, 1) := by decide +kernel
theorem dX6_real_23 : decode cX6_real 23 = .ok (.ifCond .ne 13, 3) := by decide +kernel
theorem dX6_real_26 : decode cX6_real 26 = .ok (.aload_n 0, 1) := by decide +kernel
theorem dX6_real_27 : decode cX6_real 27 = .ok (.bipush 8, 2) := by decide +kernel
theorem dX6_real_29 : decode cX6_real 29 = .ok (.lload_n 1, 1) := by decide +kernel
theorem dX6_real_30 : decode cX6_real 30 = .ok (.invokevirtual 64, 3) := by decide +kernel
theorem dX6_real_33 : decode cX6_real 33 = .ok (.goto 4, 3) := by decide +kernel
theorem dX6_real_36 : decode cX6_real 36 = .ok (.iconst (-1), 1) := by decide +kernel
theorem dX6_real_37 : decode cX6_real 37 = .ok (.ireturn, 1) := by decide +kernel
theorem dX6_type_0 : decode cX6_type 0 = .ok (.aload_n 0, 1) := by decide +kernel
theorem dX6_type_1 : decode cX6_type 1 = .ok (.getfield 14, 3) := by decide +kernel
theorem dX6_type_4 : decode cX6_type 4 = .ok (.lload_n 1, 1) := by decide +kernel
theorem dX6_type_5 : decode cX6_type 5 = .ok (.iload_n 3, 1) := by decide +kernel
theorem dX6_type_6 : decode cX6_type 6 = .ok (.invokevirtual 56, 3) := by decide +kernel
theorem dX6_type_9 : decode cX6_type 9 = .ok (.ireturn, 1) := by decide +kernel
theorem dX6_value_0 : decode cX6_value 0 = .ok (.iload_n 1, 1) := by decide +kernel
theorem dX6_value_1 : decode cX6_value 1 = .ok (.ifCond .lt 9, 3) := by decide +kernel
theorem dX6_value_4 : decode cX6_value 4 = .ok (.iload_n 1, 1) := by decide +kernel
theorem dX6_value_5 : decode cX6_value 5 = .ok (.bipush 6, 2) := by decide +kernel
theorem dX6_value_7 : decode cX6_value 7 = .ok (.if_icmp .le 5, 3) := by decide +kernel
theorem dX6_value_10 : decode cX6_value 10 = .ok (.iconst (-1), 1) := by decide +kernel
theorem dX6_value_11 : decode cX6_value 11 = .ok (.ireturn, 1) := by decide +kernel
theorem dX6_value_12 : decode cX6_value 12 = .ok (.iload_n 1, 1) := by decide +kernel
theorem dX6_value_13 : decode cX6_value 13 = .ok (.iconst 3, 1) := by decide +kernel
theorem dX6_value_14 : decode cX6_value 14 = .ok (.if_icmp .eq 8, 3) := by decide +kernel
theorem dX6_value_17 : decode cX6_value 17 = .ok (.iload_n 1, 1) := by decide +kernel
theorem dX6_value_18 : decode cX6_value 18 = .ok (.iconst 4, 1) := by decide +kernel
theorem dX6_value_19 : decode cX6_value 19 = .ok (.if_icmp .ne 11, 3) := by decide +kernel
theorem dX6_value_22 : decode cX6_value 22 = .ok (.aload_n 0, 1) := by decide +kernel
theorem dX6_value_23 : decode cX6_value 23 = .ok (.iload_n 1, 1) := by decide +kernel
theorem dX6_value_24 : decode cX6_value 24 = .ok (.invokevirtual 60, 3) := by decide +kernel
theorem dX6_value_27 : decode cX6_value 27 = .ok (.goto 9, 3) := by decide +kernel
theorem dX6_value_30 : decode cX6_value 30 = .ok (.aload_n 0, 1) := by decide +kernel
theorem dX6_value_31 : decode cX6_value 31 = .ok (.iload_n 1, 1) := by decide +kernel
theorem dX6_value_32 : decode cX6_value 32 = .ok (.lconst 0, 1) := by decide +kernel
theorem dX6_value_33 : decode cX6_value 33 = .ok (.invokevirtual 64, 3) := by decide +kernel
theorem dX6_value_36 : decode cX6_value 36 = .ok (.ireturn, 1) := by decide +kernel
theorem dX6_written_0 : decode cX6_written 0 = .ok (.aload_n 0, 1) := by decide +kernel
theorem dX6_written_1 : decode cX6_written 1 = .ok (.getfield 21, 3) := by decide +kernel
theorem dX6_written_4 : decode cX6_written 4 = .ok (.iload_n 1, 1) := by decide +kernel
theorem dX6_written_5 : decode cX6_written 5 = .ok (.invokevirtual 84, 3) := by decide +kernel
theorem dX6_written_8 : decode cX6_written 8 = .ok (.ireturn, 1) := by decide +kernel
