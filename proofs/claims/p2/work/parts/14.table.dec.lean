theorem dX3_bucketOf_0 : decode cX3_bucketOf 0 = .ok (.iload_n 0, 1) := by decide +kernel
theorem dX3_bucketOf_1 : decode cX3_bucketOf 1 = .ok (.iload_n 0, 1) := by decide +kernel
theorem dX3_bucketOf_2 : decode cX3_bucketOf 2 = .ok (.bipush 8, 2) := by decide +kernel
theorem dX3_bucketOf_4 : decode cX3_bucketOf 4 = .ok (.iushr, 1) := by decide +kernel
theorem dX3_bucketOf_5 : decode cX3_bucketOf 5 = .ok (.ixor, 1) := by decide +kernel
theorem dX3_bucketOf_6 : decode cX3_bucketOf 6 = .ok (.sipush 255, 3) := by decide +kernel
theorem dX3_bucketOf_9 : decode cX3_bucketOf 9 = .ok (.iand, 1) := by decide +kernel
theorem dX3_bucketOf_10 : decode cX3_bucketOf 10 = .ok (.ireturn, 1) := by decide +kernel
theorem dX3_canBeTold_0 : decode cX3_canBeTold 0 = .ok (.iload_n 0, 1) := by decide +kernel
theorem dX3_canBeTold_1 : decode cX3_canBeTold 1 = .ok (.sipush 255, 3) := by decide +kernel
theorem dX3_canBeTold_4 : decode cX3_canBeTold 4 = .ok (.iand, 1) := by decide +kernel
theorem dX3_canBeTold_5 : decode cX3_canBeTold 5 = .ok (.sipush 254, 3) := by decide +kernel
theorem dX3_canBeTold_8 : decode cX3_canBeTold 8 = .ok (.if_icmp .ge 7, 3) := by decide +kernel
theorem dX3_canBeTold_11 : decode cX3_canBeTold 11 = .ok (.iconst 1, 1) := by decide +kernel
theorem dX3_canBeTold_12 : decode cX3_canBeTold 12 = .ok (.goto 4, 3) := by decide +kernel
theorem dX3_canBeTold_15 : decode cX3_canBeTold 15 = .ok (.iconst 0, 1) := by decide +kernel
theorem dX3_canBeTold_16 : decode cX3_canBeTold 16 = .ok (.ireturn, 1) := by decide +kernel
theorem dX3_clear_0 : decode cX3_clear 0 = .ok (.aload_n 0, 1) := by decide +kernel
theorem dX3_clear_1 : decode cX3_clear 1 = .ok (.iconst 0, 1) := by decide +kernel
theorem dX3_clear_2 : decode cX3_clear 2 = .ok (.putfield 21, 3) := by decide +kernel
theorem dX3_clear_5 : decode cX3_clear 5 = .ok (.aload_n 0, 1) := by decide +kernel
theorem dX3_clear_6 : decode cX3_clear 6 = .ok (.getfield 18, 3) := by decide +kernel
theorem dX3_clear_9 : decode cX3_clear 9 = .ok (.iconst (-1), 1) := by decide +kernel
theorem dX3_clear_10 : decode cX3_clear 10 = .ok (.invokestatic 25, 3) := by decide +kernel
theorem dX3_clear_13 : decode cX3_clear 13 = .ok (.return_, 1) := by decide +kernel
theorem dX3_itemAt_0 : decode cX3_itemAt 0 = .ok (.iload_n 1, 1) := by decide +kernel
theorem dX3_itemAt_1 : decode cX3_itemAt 1 = .ok (.ifCond .lt 27, 3) := by decide +kernel
theorem dX3_itemAt_4 : decode cX3_itemAt 4 = .ok (.iload_n 1, 1) := by decide +kernel
theorem dX3_itemAt_5 : decode cX3_itemAt 5 = .ok (.aload_n 0, 1) := by decide +kernel
theorem dX3_itemAt_6 : decode cX3_itemAt 6 = .ok (.getfield 21, 3) := by decide +kernel
theorem dX3_itemAt_9 : decode cX3_itemAt 9 = .ok (.if_icmp .ge 19, 3) := by decide +kernel
theorem dX3_itemAt_12 : decode cX3_itemAt 12 = .ok (.iload_n 1, 1) := by decide +kernel
theorem dX3_itemAt_13 : decode cX3_itemAt 13 = .ok (.invokestatic 31, 3) := by decide +kernel
theorem dX3_itemAt_16 : decode cX3_itemAt 16 = .ok (.ifCond .eq 12, 3) := by decide +kernel
theorem dX3_itemAt_19 : decode cX3_itemAt 19 = .ok (.aload_n 0, 1) := by decide +kernel
theorem dX3_itemAt_20 : decode cX3_itemAt 20 = .ok (.getfield 9, 3) := by decide +kernel
theorem dX3_itemAt_23 : decode cX3_itemAt 23 = .ok (.iload_n 1, 1) := by decide +kernel
theorem dX3_itemAt_24 : decode cX3_itemAt 24 = .ok (.iaload, 1) := by decide +kernel
theorem dX3_itemAt_25 : decode cX3_itemAt 25 = .ok (.goto 4, 3) := by decide +kernel
theorem dX3_itemAt_28 : decode cX3_itemAt 28 = .ok (.iconst (-1), 1) := by decide +kernel
theorem dX3_itemAt_29 : decode cX3_itemAt 29 = .ok (.ireturn, 1) := by decide +kernel
theorem dX3_placeOf_0 : decode cX3_placeOf 0 = .ok (.aload_n 0, 1) := by decide +kernel
theorem dX3_placeOf_1 : decode cX3_placeOf 1 = .ok (.getfield 18, 3) := by decide +kernel
theorem dX3_placeOf_4 : decode cX3_placeOf 4 = .ok (.aload_n 1, 1) := by decide +kernel
theorem dX3_placeOf_5 : decode cX3_placeOf 5 = .ok (.iload_n 2, 1) := by decide +kernel
theorem dX3_placeOf_6 : decode cX3_placeOf 6 = .ok (.invokevirtual 38, 3) := by decide +kernel
theorem dX3_placeOf_9 : decode cX3_placeOf 9 = .ok (.invokestatic 44, 3) := by decide +kernel
theorem dX3_placeOf_12 : decode cX3_placeOf 12 = .ok (.iaload, 1) := by decide +kernel
theorem dX3_placeOf_13 : decode cX3_placeOf 13 = .ok (.istore_n 3, 1) := by decide +kernel
theorem dX3_placeOf_14 : decode cX3_placeOf 14 = .ok (.iconst 0, 1) := by decide +kernel
theorem dX3_placeOf_15 : decode cX3_placeOf 15 = .ok (.istore 4, 2) := by decide +kernel
theorem dX3_placeOf_17 : decode cX3_placeOf 17 = .ok (.iload 4, 2) := by decide +kernel
theorem dX3_placeOf_19 : decode cX3_placeOf 19 = .ok (.aload_n 0, 1) := by decide +kernel
theorem dX3_placeOf_20 : decode cX3_placeOf 20 = .ok (.getfield 21, 3) := by decide +kernel
theorem dX3_placeOf_23 : decode cX3_placeOf 23 = .ok (.if_icmp .ge 44, 3) := by decide +kernel
theorem dX3_placeOf_26 : decode cX3_placeOf 26 = .ok (.iload_n 3, 1) := by decide +kernel
theorem dX3_placeOf_27 : decode cX3_placeOf 27 = .ok (.ifCond .lt 40, 3) := by decide +kernel
theorem dX3_placeOf_30 : decode cX3_placeOf 30 = .ok (.iload_n 3, 1) := by decide +kernel
theorem dX3_placeOf_31 : decode cX3_placeOf 31 = .ok (.aload_n 0, 1) := by decide +kernel
theorem dX3_placeOf_32 : decode cX3_placeOf 32 = .ok (.getfield 21, 3) := by decide +kernel
theorem dX3_placeOf_35 : decode cX3_placeOf 35 = .ok (.if_icmp .ge 32, 3) := by decide +kernel
theorem dX3_placeOf_38 : decode cX3_placeOf 38 = .ok (.aload_n 1, 1) := by decide +kernel
theorem dX3_placeOf_39 : decode cX3_placeOf 39 = .ok (.aload_n 0, 1) := by decide +kernel
theorem dX3_placeOf_40 : decode cX3_placeOf 40 = .ok (.getfield 9, 3) := by decide +kernel
theorem dX3_placeOf_43 : decode cX3_placeOf 43 = .ok (.iload_n 3, 1) := by decide +kernel
theorem dX3_placeOf_44 : decode cX3_placeOf 44 = .ok (.iaload, 1) := by decide +kernel
theorem dX3_placeOf_45 : decode cX3_placeOf 45 = .ok (.iload_n 2, 1) := by decide +kernel
theorem dX3_placeOf_46 : decode cX3_placeOf 46 = .ok (.invokevirtual 47, 3) := by decide +kernel
theorem dX3_placeOf_49 : decode cX3_placeOf 49 = .ok (.ifCond .eq 5, 3) := by decide +kernel
theorem dX3_placeOf_52 : decode cX3_placeOf 52 = .ok (.iload_n 3, 1) := by decide +kernel
theorem dX3_placeOf_53 : decode cX3_placeOf 53 = .ok (.ireturn, 1) := by decide +kernel
theorem dX3_placeOf_54 : decode cX3_placeOf 54 = .ok (.aload_n 0, 1) := by decide +kernel
theorem dX3_placeOf_55 : decode cX3_placeOf 55 = .ok (.getfield 15, 3) := by decide +kernel
theorem dX3_placeOf_58 : decode cX3_placeOf 58 = .ok (.iload_n 3, 1) := by decide +kernel
theorem dX3_placeOf_59 : decode cX3_placeOf 59 = .ok (.iaload, 1) := by decide +kernel
theorem dX3_placeOf_60 : decode cX3_placeOf 60 = .ok (.istore_n 3, 1) := by decide +kernel
theorem dX3_placeOf_61 : decode cX3_placeOf 61 = .ok (.iinc 4 1, 3) := by decide +kernel
theorem dX3_placeOf_64 : decode cX3_placeOf 64 = .ok (.goto (-47), 3) := by decide +kernel
theorem dX3_placeOf_67 : decode cX3_placeOf 67 = .ok (.iconst (-1), 1) := by decide +kernel
theorem dX3_placeOf_68 : decode cX3_placeOf 68 = .ok (.ireturn, 1) := by decide +kernel
theorem dX3_put_0 : decode cX3_put 0 = .ok (.aload_n 0, 1) := by decide +kernel
theorem dX3_put_1 : decode cX3_put 1 = .ok (.getfield 21, 3) := by decide +kernel
theorem dX3_put_4 : decode cX3_put 4 = .ok (.sipush 1024, 3) := by decide +kernel
theorem dX3_put_7 : decode cX3_put 7 = .ok (.if_icmp .lt 7, 3) := by decide +kernel
theorem dX3_put_10 : decode cX3_put 10 = .ok (.aload_n 0, 1) := by decide +kernel
theorem dX3_put_11 : decode cX3_put 11 = .ok (.invokevirtual 35, 3) := by decide +kernel
theorem dX3_put_14 : decode cX3_put 14 = .ok (.aload_n 0, 1) := by decide +kernel
theorem dX3_put_15 : decode cX3_put 15 = .ok (.getfield 9, 3) := by decide +kernel
theorem dX3_put_18 : decode cX3_put 18 = .ok (.aload_n 0, 1) := by decide +kernel
theorem dX3_put_19 : decode cX3_put 19 = .ok (.getfield 21, 3) := by decide +kernel
theorem dX3_put_22 : decode cX3_put 22 = .ok (.iload_n 2, 1) := by decide +kernel
theorem dX3_put_23 : decode cX3_put 23 = .ok (.iastore, 1) := by decide +kernel
theorem dX3_put_24 : decode cX3_put 24 = .ok (.aload_n 0, 1) := by decide +kernel
theorem dX3_put_25 : decode cX3_put 25 = .ok (.getfield 21, 3) := by decide +kernel
theorem dX3_put_28 : decode cX3_put 28 = .ok (.invokestatic 31, 3) := by decide +kernel
theorem dX3_put_31 : decode cX3_put 31 = .ok (.ifCond .eq 37, 3) := by decide +kernel
theorem dX3_put_34 : decode cX3_put 34 = .ok (.aload_n 1, 1) := by decide +kernel
theorem dX3_put_35 : decode cX3_put 35 = .ok (.iload_n 2, 1) := by decide +kernel
theorem dX3_put_36 : decode cX3_put 36 = .ok (.invokevirtual 38, 3) := by decide +kernel
theorem dX3_put_39 : decode cX3_put 39 = .ok (.invokestatic 44, 3) := by decide +kernel
theorem dX3_put_42 : decode cX3_put 42 = .ok (.istore_n 3, 1) := by decide +kernel
theorem dX3_put_43 : decode cX3_put 43 = .ok (.aload_n 0, 1) := by decide +kernel
theorem dX3_put_44 : decode cX3_put 44 = .ok (.getfield 15, 3) := by decide +kernel
theorem dX3_put_47 : decode cX3_put 47 = .ok (.aload_n 0, 1) := by decide +kernel
theorem dX3_put_48 : decode cX3_put 48 = .ok (.getfield 21, 3) := by decide +kernel
theorem dX3_put_51 : decode cX3_put 51 = .ok (.aload_n 0, 1) := by decide +kernel
theorem dX3_put_52 : decode cX3_put 52 = .ok (.getfield 18, 3) := by decide +kernel
theorem dX3_put_55 : decode cX3_put 55 = .ok (.iload_n 3, 1) := by decide +kernel
theorem dX3_put_56 : decode cX3_put 56 = .ok (.iaload, 1) := by decide +kernel
theorem dX3_put_57 : decode cX3_put 57 = .ok (.iastore, 1) := by decide +kernel
theorem dX3_put_58 : decode cX3_put 58 = .ok (.aload_n 0, 1) := by decide +kernel
theorem dX3_put_59 : decode cX3_put 59 = .ok (.getfield 18, 3) := by decide +kernel
theorem dX3_put_62 : decode cX3_put 62 = .ok (.iload_n 3, 1) := by decide +kernel
theorem dX3_put_63 : decode cX3_put 63 = .ok (.aload_n 0, 1) := by decide +kernel
theorem dX3_put_64 : decode cX3_put 64 = .ok (.getfield 21, 3) := by decide +kernel
theorem dX3_put_67 : decode cX3_put 67 = .ok (.iastore, 1) := by decide +kernel
theorem dX3_put_68 : decode cX3_put 68 = .ok (.aload_n 0, 1) := by decide +kernel
theorem dX3_put_69 : decode cX3_put 69 = .ok (.dup, 1) := by decide +kernel
theorem dX3_put_70 : decode cX3_put 70 = .ok (.getfield 21, 3) := by decide +kernel
theorem dX3_put_73 : decode cX3_put 73 = .ok (.iconst 1, 1) := by decide +kernel
theorem dX3_put_74 : decode cX3_put 74 = .ok (.iadd, 1) := by decide +kernel
theorem dX3_put_75 : decode cX3_put 75 = .ok (.putfield 21, 3) := by decide +kernel
theorem dX3_put_78 : decode cX3_put 78 = .ok (.return_, 1) := by decide +kernel
theorem dX3_takes_0 : decode cX3_takes 0 = .ok (.iload_n 0, 1) := by decide +kernel
theorem dX3_takes_1 : decode cX3_takes 1 = .ok (.iconst 1, 1) := by decide +kernel
theorem dX3_takes_2 : decode cX3_takes 2 = .ok (.if_icmp .lt 13, 3) := by decide +kernel
theorem dX3_takes_5 : decode cX3_takes 5 = .ok (.iload_n 0, 1) := by decide +kernel
theorem dX3_takes_6 : decode cX3_takes 6 = .ok (.bipush 64, 2) := by decide +kernel
theorem dX3_takes_8 : decode cX3_takes 8 = .ok (.if_icmp .gt 7, 3) := by decide +kernel
theorem dX3_takes_11 : decode cX3_takes 11 = .ok (.iconst 1, 1) := by decide +kernel
theorem dX3_takes_12 : decode cX3_takes 12 = .ok (.goto 4, 3) := by decide +kernel
theorem dX3_takes_15 : decode cX3_takes 15 = .ok (.iconst 0, 1) := by decide +kernel
theorem dX3_takes_16 : decode cX3_takes 16 = .ok (.ireturn, 1) := by decide +kernel
