theorem dJ7_fill_53178_0 : decode cJ7_fill_53178 0 = .ok (.iconst 0, 1) := by decide +kernel
theorem dJ7_fill_53178_1 : decode cJ7_fill_53178 1 = .ok (.istore_n 2, 1) := by decide +kernel
theorem dJ7_fill_53178_2 : decode cJ7_fill_53178 2 = .ok (.aload_n 0, 1) := by decide +kernel
theorem dJ7_fill_53178_3 : decode cJ7_fill_53178 3 = .ok (.arraylength, 1) := by decide +kernel
theorem dJ7_fill_53178_4 : decode cJ7_fill_53178 4 = .ok (.istore_n 3, 1) := by decide +kernel
theorem dJ7_fill_53178_5 : decode cJ7_fill_53178 5 = .ok (.iload_n 2, 1) := by decide +kernel
theorem dJ7_fill_53178_6 : decode cJ7_fill_53178 6 = .ok (.iload_n 3, 1) := by decide +kernel
theorem dJ7_fill_53178_7 : decode cJ7_fill_53178 7 = .ok (.if_icmp .ge 13, 3) := by decide +kernel
theorem dJ7_fill_53178_10 : decode cJ7_fill_53178 10 = .ok (.aload_n 0, 1) := by decide +kernel
theorem dJ7_fill_53178_11 : decode cJ7_fill_53178 11 = .ok (.iload_n 2, 1) := by decide +kernel
theorem dJ7_fill_53178_12 : decode cJ7_fill_53178 12 = .ok (.iload_n 1, 1) := by decide +kernel
theorem dJ7_fill_53178_13 : decode cJ7_fill_53178 13 = .ok (.iastore, 1) := by decide +kernel
theorem dJ7_fill_53178_14 : decode cJ7_fill_53178 14 = .ok (.iinc 2 1, 3) := by decide +kernel
theorem dJ7_fill_53178_17 : decode cJ7_fill_53178 17 = .ok (.goto (-12), 3) := by decide +kernel
theorem dJ7_fill_53178_20 : decode cJ7_fill_53178 20 = .ok (.return_, 1) := by decide +kernel
theorem dX2_at_0 : decode cX2_at 0 = .ok (.iload_n 1, 1) := by decide +kernel
theorem dX2_at_1 : decode cX2_at 1 = .ok (.ifCond .lt 24, 3) := by decide +kernel
theorem dX2_at_4 : decode cX2_at 4 = .ok (.iload_n 1, 1) := by decide +kernel
theorem dX2_at_5 : decode cX2_at 5 = .ok (.aload_n 0, 1) := by decide +kernel
theorem dX2_at_6 : decode cX2_at 6 = .ok (.getfield 15, 3) := by decide +kernel
theorem dX2_at_9 : decode cX2_at 9 = .ok (.if_icmp .ge 16, 3) := by decide +kernel
theorem dX2_at_12 : decode cX2_at 12 = .ok (.aload_n 0, 1) := by decide +kernel
theorem dX2_at_13 : decode cX2_at 13 = .ok (.getfield 9, 3) := by decide +kernel
theorem dX2_at_16 : decode cX2_at 16 = .ok (.iload_n 1, 1) := by decide +kernel
theorem dX2_at_17 : decode cX2_at 17 = .ok (.baload, 1) := by decide +kernel
theorem dX2_at_18 : decode cX2_at 18 = .ok (.sipush 255, 3) := by decide +kernel
theorem dX2_at_21 : decode cX2_at 21 = .ok (.iand, 1) := by decide +kernel
theorem dX2_at_22 : decode cX2_at 22 = .ok (.goto 4, 3) := by decide +kernel
theorem dX2_at_25 : decode cX2_at 25 = .ok (.iconst (-1), 1) := by decide +kernel
theorem dX2_at_26 : decode cX2_at 26 = .ok (.ireturn, 1) := by decide +kernel
theorem dX2_clear_0 : decode cX2_clear 0 = .ok (.aload_n 0, 1) := by decide +kernel
theorem dX2_clear_1 : decode cX2_clear 1 = .ok (.iconst 0, 1) := by decide +kernel
theorem dX2_clear_2 : decode cX2_clear 2 = .ok (.putfield 15, 3) := by decide +kernel
theorem dX2_clear_5 : decode cX2_clear 5 = .ok (.aload_n 0, 1) := by decide +kernel
theorem dX2_clear_6 : decode cX2_clear 6 = .ok (.iconst 0, 1) := by decide +kernel
theorem dX2_clear_7 : decode cX2_clear 7 = .ok (.putfield 19, 3) := by decide +kernel
theorem dX2_clear_10 : decode cX2_clear 10 = .ok (.return_, 1) := by decide +kernel
theorem dX2_copyFrom_0 : decode cX2_copyFrom 0 = .ok (.aload_n 0, 1) := by decide +kernel
theorem dX2_copyFrom_1 : decode cX2_copyFrom 1 = .ok (.invokevirtual 27, 3) := by decide +kernel
theorem dX2_copyFrom_4 : decode cX2_copyFrom 4 = .ok (.iconst 0, 1) := by decide +kernel
theorem dX2_copyFrom_5 : decode cX2_copyFrom 5 = .ok (.istore_n 2, 1) := by decide +kernel
theorem dX2_copyFrom_6 : decode cX2_copyFrom 6 = .ok (.iload_n 2, 1) := by decide +kernel
theorem dX2_copyFrom_7 : decode cX2_copyFrom 7 = .ok (.aload_n 1, 1) := by decide +kernel
theorem dX2_copyFrom_8 : decode cX2_copyFrom 8 = .ok (.getfield 15, 3) := by decide +kernel
theorem dX2_copyFrom_11 : decode cX2_copyFrom 11 = .ok (.if_icmp .ge 18, 3) := by decide +kernel
theorem dX2_copyFrom_14 : decode cX2_copyFrom 14 = .ok (.aload_n 0, 1) := by decide +kernel
theorem dX2_copyFrom_15 : decode cX2_copyFrom 15 = .ok (.aload_n 1, 1) := by decide +kernel
theorem dX2_copyFrom_16 : decode cX2_copyFrom 16 = .ok (.iload_n 2, 1) := by decide +kernel
theorem dX2_copyFrom_17 : decode cX2_copyFrom 17 = .ok (.invokevirtual 30, 3) := by decide +kernel
theorem dX2_copyFrom_20 : decode cX2_copyFrom 20 = .ok (.invokevirtual 23, 3) := by decide +kernel
theorem dX2_copyFrom_23 : decode cX2_copyFrom 23 = .ok (.iinc 2 1, 3) := by decide +kernel
theorem dX2_copyFrom_26 : decode cX2_copyFrom 26 = .ok (.goto (-20), 3) := by decide +kernel
theorem dX2_copyFrom_29 : decode cX2_copyFrom 29 = .ok (.return_, 1) := by decide +kernel
theorem dX2_isTooLong_0 : decode cX2_isTooLong 0 = .ok (.aload_n 0, 1) := by decide +kernel
theorem dX2_isTooLong_1 : decode cX2_isTooLong 1 = .ok (.getfield 19, 3) := by decide +kernel
theorem dX2_isTooLong_4 : decode cX2_isTooLong 4 = .ok (.ireturn, 1) := by decide +kernel
theorem dX2_push_0 : decode cX2_push 0 = .ok (.aload_n 0, 1) := by decide +kernel
theorem dX2_push_1 : decode cX2_push 1 = .ok (.getfield 15, 3) := by decide +kernel
theorem dX2_push_4 : decode cX2_push 4 = .ok (.aload_n 0, 1) := by decide +kernel
theorem dX2_push_5 : decode cX2_push 5 = .ok (.getfield 9, 3) := by decide +kernel
theorem dX2_push_8 : decode cX2_push 8 = .ok (.arraylength, 1) := by decide +kernel
theorem dX2_push_9 : decode cX2_push 9 = .ok (.if_icmp .ge 27, 3) := by decide +kernel
theorem dX2_push_12 : decode cX2_push 12 = .ok (.aload_n 0, 1) := by decide +kernel
theorem dX2_push_13 : decode cX2_push 13 = .ok (.getfield 9, 3) := by decide +kernel
theorem dX2_push_16 : decode cX2_push 16 = .ok (.aload_n 0, 1) := by decide +kernel
theorem dX2_push_17 : decode cX2_push 17 = .ok (.getfield 15, 3) := by decide +kernel
theorem dX2_push_20 : decode cX2_push 20 = .ok (.iload_n 1, 1) := by decide +kernel
theorem dX2_push_21 : decode cX2_push 21 = .ok (.i2b, 1) := by decide +kernel
theorem dX2_push_22 : decode cX2_push 22 = .ok (.bastore, 1) := by decide +kernel
theorem dX2_push_23 : decode cX2_push 23 = .ok (.aload_n 0, 1) := by decide +kernel
theorem dX2_push_24 : decode cX2_push 24 = .ok (.dup, 1) := by decide +kernel
theorem dX2_push_25 : decode cX2_push 25 = .ok (.getfield 15, 3) := by decide +kernel
theorem dX2_push_28 : decode cX2_push 28 = .ok (.iconst 1, 1) := by decide +kernel
theorem dX2_push_29 : decode cX2_push 29 = .ok (.iadd, 1) := by decide +kernel
theorem dX2_push_30 : decode cX2_push 30 = .ok (.putfield 15, 3) := by decide +kernel
theorem dX2_push_33 : decode cX2_push 33 = .ok (.goto 8, 3) := by decide +kernel
theorem dX2_push_36 : decode cX2_push 36 = .ok (.aload_n 0, 1) := by decide +kernel
theorem dX2_push_37 : decode cX2_push 37 = .ok (.iconst 1, 1) := by decide +kernel
theorem dX2_push_38 : decode cX2_push 38 = .ok (.putfield 19, 3) := by decide +kernel
theorem dX2_push_41 : decode cX2_push 41 = .ok (.return_, 1) := by decide +kernel
theorem dX2_pushLowest_0 : decode cX2_pushLowest 0 = .ok (.iload_n 3, 1) := by decide +kernel
theorem dX2_pushLowest_1 : decode cX2_pushLowest 1 = .ok (.iconst 1, 1) := by decide +kernel
theorem dX2_pushLowest_2 : decode cX2_pushLowest 2 = .ok (.if_icmp .lt 23, 3) := by decide +kernel
theorem dX2_pushLowest_5 : decode cX2_pushLowest 5 = .ok (.iload_n 3, 1) := by decide +kernel
theorem dX2_pushLowest_6 : decode cX2_pushLowest 6 = .ok (.bipush 8, 2) := by decide +kernel
theorem dX2_pushLowest_8 : decode cX2_pushLowest 8 = .ok (.if_icmp .gt 17, 3) := by decide +kernel
theorem dX2_pushLowest_11 : decode cX2_pushLowest 11 = .ok (.iload_n 3, 1) := by decide +kernel
theorem dX2_pushLowest_12 : decode cX2_pushLowest 12 = .ok (.aload_n 0, 1) := by decide +kernel
theorem dX2_pushLowest_13 : decode cX2_pushLowest 13 = .ok (.getfield 9, 3) := by decide +kernel
theorem dX2_pushLowest_16 : decode cX2_pushLowest 16 = .ok (.arraylength, 1) := by decide +kernel
theorem dX2_pushLowest_17 : decode cX2_pushLowest 17 = .ok (.aload_n 0, 1) := by decide +kernel
theorem dX2_pushLowest_18 : decode cX2_pushLowest 18 = .ok (.getfield 15, 3) := by decide +kernel
theorem dX2_pushLowest_21 : decode cX2_pushLowest 21 = .ok (.isub, 1) := by decide +kernel
theorem dX2_pushLowest_22 : decode cX2_pushLowest 22 = .ok (.if_icmp .le 5, 3) := by decide +kernel
theorem dX2_pushLowest_25 : decode cX2_pushLowest 25 = .ok (.iconst (-1), 1) := by decide +kernel
theorem dX2_pushLowest_26 : decode cX2_pushLowest 26 = .ok (.ireturn, 1) := by decide +kernel
theorem dX2_pushLowest_27 : decode cX2_pushLowest 27 = .ok (.iload_n 3, 1) := by decide +kernel
theorem dX2_pushLowest_28 : decode cX2_pushLowest 28 = .ok (.iconst 1, 1) := by decide +kernel
theorem dX2_pushLowest_29 : decode cX2_pushLowest 29 = .ok (.isub, 1) := by decide +kernel
theorem dX2_pushLowest_30 : decode cX2_pushLowest 30 = .ok (.istore 4, 2) := by decide +kernel
theorem dX2_pushLowest_32 : decode cX2_pushLowest 32 = .ok (.iload 4, 2) := by decide +kernel
theorem dX2_pushLowest_34 : decode cX2_pushLowest 34 = .ok (.ifCond .lt 21, 3) := by decide +kernel
theorem dX2_pushLowest_37 : decode cX2_pushLowest 37 = .ok (.aload_n 0, 1) := by decide +kernel
theorem dX2_pushLowest_38 : decode cX2_pushLowest 38 = .ok (.lload_n 1, 1) := by decide +kernel
theorem dX2_pushLowest_39 : decode cX2_pushLowest 39 = .ok (.bipush 8, 2) := by decide +kernel
theorem dX2_pushLowest_41 : decode cX2_pushLowest 41 = .ok (.iload 4, 2) := by decide +kernel
theorem dX2_pushLowest_43 : decode cX2_pushLowest 43 = .ok (.imul, 1) := by decide +kernel
theorem dX2_pushLowest_44 : decode cX2_pushLowest 44 = .ok (.lushr, 1) := by decide +kernel
theorem dX2_pushLowest_45 : decode cX2_pushLowest 45 = .ok (.l2i, 1) := by decide +kernel
theorem dX2_pushLowest_46 : decode cX2_pushLowest 46 = .ok (.invokevirtual 23, 3) := by decide +kernel
theorem dX2_pushLowest_49 : decode cX2_pushLowest 49 = .ok (.iinc 4 (-1), 3) := by decide +kernel
theorem dX2_pushLowest_52 : decode cX2_pushLowest 52 = .ok (.goto (-20), 3) := by decide +kernel
theorem dX2_pushLowest_55 : decode cX2_pushLowest 55 = .ok (.aload_n 0, 1) := by decide +kernel
theorem dX2_pushLowest_56 : decode cX2_pushLowest 56 = .ok (.getfield 15, 3) := by decide +kernel
theorem dX2_pushLowest_59 : decode cX2_pushLowest 59 = .ok (.ireturn, 1) := by decide +kernel
theorem dX2_size_0 : decode cX2_size 0 = .ok (.aload_n 0, 1) := by decide +kernel
theorem dX2_size_1 : decode cX2_size 1 = .ok (.getfield 15, 3) := by decide +kernel
theorem dX2_size_4 : decode cX2_size 4 = .ok (.ireturn, 1) := by decide +kernel
