theorem dX0_accepts_0 : decode cX0_accepts 0 = .ok (.aload_n 0, 1) := by decide +kernel
theorem dX0_accepts_1 : decode cX0_accepts 1 = .ok (.invokevirtual 57, 3) := by decide +kernel
theorem dX0_accepts_4 : decode cX0_accepts 4 = .ok (.bipush 6, 2) := by decide +kernel
theorem dX0_accepts_6 : decode cX0_accepts 6 = .ok (.if_icmp .ne 14, 3) := by decide +kernel
theorem dX0_accepts_9 : decode cX0_accepts 9 = .ok (.aload_n 0, 1) := by decide +kernel
theorem dX0_accepts_10 : decode cX0_accepts 10 = .ok (.getfield 50, 3) := by decide +kernel
theorem dX0_accepts_13 : decode cX0_accepts 13 = .ok (.ifCond .ne 7, 3) := by decide +kernel
theorem dX0_accepts_16 : decode cX0_accepts 16 = .ok (.iconst 1, 1) := by decide +kernel
theorem dX0_accepts_17 : decode cX0_accepts 17 = .ok (.goto 4, 3) := by decide +kernel
theorem dX0_accepts_20 : decode cX0_accepts 20 = .ok (.iconst 0, 1) := by decide +kernel
theorem dX0_accepts_21 : decode cX0_accepts 21 = .ok (.istore_n 2, 1) := by decide +kernel
theorem dX0_accepts_22 : decode cX0_accepts 22 = .ok (.iload_n 1, 1) := by decide +kernel
theorem dX0_accepts_23 : decode cX0_accepts 23 = .ok (.bipush 10, 2) := by decide +kernel
theorem dX0_accepts_25 : decode cX0_accepts 25 = .ok (.if_icmp .ne 5, 3) := by decide +kernel
theorem dX0_accepts_28 : decode cX0_accepts 28 = .ok (.iload_n 2, 1) := by decide +kernel
theorem dX0_accepts_29 : decode cX0_accepts 29 = .ok (.ireturn, 1) := by decide +kernel
theorem dX0_accepts_30 : decode cX0_accepts 30 = .ok (.iload_n 1, 1) := by decide +kernel
theorem dX0_accepts_31 : decode cX0_accepts 31 = .ok (.bipush 11, 2) := by decide +kernel
theorem dX0_accepts_33 : decode cX0_accepts 33 = .ok (.if_icmp .ne 23, 3) := by decide +kernel
theorem dX0_accepts_36 : decode cX0_accepts 36 = .ok (.aload_n 0, 1) := by decide +kernel
theorem dX0_accepts_37 : decode cX0_accepts 37 = .ok (.getfield 47, 3) := by decide +kernel
theorem dX0_accepts_40 : decode cX0_accepts 40 = .ok (.ifCond .le 14, 3) := by decide +kernel
theorem dX0_accepts_43 : decode cX0_accepts 43 = .ok (.aload_n 0, 1) := by decide +kernel
theorem dX0_accepts_44 : decode cX0_accepts 44 = .ok (.getfield 50, 3) := by decide +kernel
theorem dX0_accepts_47 : decode cX0_accepts 47 = .ok (.ifCond .ne 7, 3) := by decide +kernel
theorem dX0_accepts_50 : decode cX0_accepts 50 = .ok (.iconst 1, 1) := by decide +kernel
theorem dX0_accepts_51 : decode cX0_accepts 51 = .ok (.goto 4, 3) := by decide +kernel
theorem dX0_accepts_54 : decode cX0_accepts 54 = .ok (.iconst 0, 1) := by decide +kernel
theorem dX0_accepts_55 : decode cX0_accepts 55 = .ok (.ireturn, 1) := by decide +kernel
theorem dX0_accepts_56 : decode cX0_accepts 56 = .ok (.aload_n 0, 1) := by decide +kernel
theorem dX0_accepts_57 : decode cX0_accepts 57 = .ok (.invokevirtual 60, 3) := by decide +kernel
theorem dX0_accepts_60 : decode cX0_accepts 60 = .ok (.ifCond .ne 11, 3) := by decide +kernel
theorem dX0_accepts_63 : decode cX0_accepts 63 = .ok (.iload_n 2, 1) := by decide +kernel
theorem dX0_accepts_64 : decode cX0_accepts 64 = .ok (.ifCond .ne 7, 3) := by decide +kernel
theorem dX0_accepts_67 : decode cX0_accepts 67 = .ok (.iconst 1, 1) := by decide +kernel
theorem dX0_accepts_68 : decode cX0_accepts 68 = .ok (.goto 4, 3) := by decide +kernel
theorem dX0_accepts_71 : decode cX0_accepts 71 = .ok (.iconst 0, 1) := by decide +kernel
theorem dX0_accepts_72 : decode cX0_accepts 72 = .ok (.ireturn, 1) := by decide +kernel
theorem dX0_clear_0 : decode cX0_clear 0 = .ok (.aload_n 0, 1) := by decide +kernel
theorem dX0_clear_1 : decode cX0_clear 1 = .ok (.iconst 0, 1) := by decide +kernel
theorem dX0_clear_2 : decode cX0_clear 2 = .ok (.putfield 40, 3) := by decide +kernel
theorem dX0_clear_5 : decode cX0_clear 5 = .ok (.aload_n 0, 1) := by decide +kernel
theorem dX0_clear_6 : decode cX0_clear 6 = .ok (.iconst 0, 1) := by decide +kernel
theorem dX0_clear_7 : decode cX0_clear 7 = .ok (.putfield 47, 3) := by decide +kernel
theorem dX0_clear_10 : decode cX0_clear 10 = .ok (.aload_n 0, 1) := by decide +kernel
theorem dX0_clear_11 : decode cX0_clear 11 = .ok (.iconst 0, 1) := by decide +kernel
theorem dX0_clear_12 : decode cX0_clear 12 = .ok (.putfield 50, 3) := by decide +kernel
theorem dX0_clear_15 : decode cX0_clear 15 = .ok (.aload_n 0, 1) := by decide +kernel
theorem dX0_clear_16 : decode cX0_clear 16 = .ok (.getfield 33, 3) := by decide +kernel
theorem dX0_clear_19 : decode cX0_clear 19 = .ok (.invokevirtual 54, 3) := by decide +kernel
theorem dX0_clear_22 : decode cX0_clear 22 = .ok (.return_, 1) := by decide +kernel
theorem dX0_copyText_0 : decode cX0_copyText 0 = .ok (.aload_n 0, 1) := by decide +kernel
theorem dX0_copyText_1 : decode cX0_copyText 1 = .ok (.iload_n 1, 1) := by decide +kernel
theorem dX0_copyText_2 : decode cX0_copyText 2 = .ok (.invokevirtual 78, 3) := by decide +kernel
theorem dX0_copyText_5 : decode cX0_copyText 5 = .ok (.ifCond .eq 40, 3) := by decide +kernel
theorem dX0_copyText_8 : decode cX0_copyText 8 = .ok (.iconst 0, 1) := by decide +kernel
theorem dX0_copyText_9 : decode cX0_copyText 9 = .ok (.istore_n 3, 1) := by decide +kernel
theorem dX0_copyText_10 : decode cX0_copyText 10 = .ok (.iload_n 3, 1) := by decide +kernel
theorem dX0_copyText_11 : decode cX0_copyText 11 = .ok (.aload_n 0, 1) := by decide +kernel
theorem dX0_copyText_12 : decode cX0_copyText 12 = .ok (.getfield 18, 3) := by decide +kernel
theorem dX0_copyText_15 : decode cX0_copyText 15 = .ok (.iload_n 1, 1) := by decide +kernel
theorem dX0_copyText_16 : decode cX0_copyText 16 = .ok (.iaload, 1) := by decide +kernel
theorem dX0_copyText_17 : decode cX0_copyText 17 = .ok (.if_icmp .ge 28, 3) := by decide +kernel
theorem dX0_copyText_20 : decode cX0_copyText 20 = .ok (.aload_n 2, 1) := by decide +kernel
theorem dX0_copyText_21 : decode cX0_copyText 21 = .ok (.aload_n 0, 1) := by decide +kernel
theorem dX0_copyText_22 : decode cX0_copyText 22 = .ok (.getfield 33, 3) := by decide +kernel
theorem dX0_copyText_25 : decode cX0_copyText 25 = .ok (.aload_n 0, 1) := by decide +kernel
theorem dX0_copyText_26 : decode cX0_copyText 26 = .ok (.getfield 15, 3) := by decide +kernel
theorem dX0_copyText_29 : decode cX0_copyText 29 = .ok (.iload_n 1, 1) := by decide +kernel
theorem dX0_copyText_30 : decode cX0_copyText 30 = .ok (.iaload, 1) := by decide +kernel
theorem dX0_copyText_31 : decode cX0_copyText 31 = .ok (.iload_n 3, 1) := by decide +kernel
theorem dX0_copyText_32 : decode cX0_copyText 32 = .ok (.iadd, 1) := by decide +kernel
theorem dX0_copyText_33 : decode cX0_copyText 33 = .ok (.invokevirtual 71, 3) := by decide +kernel
theorem dX0_copyText_36 : decode cX0_copyText 36 = .ok (.invokevirtual 68, 3) := by decide +kernel
theorem dX0_copyText_39 : decode cX0_copyText 39 = .ok (.iinc 3 1, 3) := by decide +kernel
theorem dX0_copyText_42 : decode cX0_copyText 42 = .ok (.goto (-32), 3) := by decide +kernel
theorem dX0_copyText_45 : decode cX0_copyText 45 = .ok (.return_, 1) := by decide +kernel
theorem dX0_depthOf_0 : decode cX0_depthOf 0 = .ok (.aload_n 0, 1) := by decide +kernel
theorem dX0_depthOf_1 : decode cX0_depthOf 1 = .ok (.iload_n 1, 1) := by decide +kernel
theorem dX0_depthOf_2 : decode cX0_depthOf 2 = .ok (.invokevirtual 78, 3) := by decide +kernel
theorem dX0_depthOf_5 : decode cX0_depthOf 5 = .ok (.ifCond .eq 12, 3) := by decide +kernel
theorem dX0_depthOf_8 : decode cX0_depthOf 8 = .ok (.aload_n 0, 1) := by decide +kernel
theorem dX0_depthOf_9 : decode cX0_depthOf 9 = .ok (.getfield 21, 3) := by decide +kernel
theorem dX0_depthOf_12 : decode cX0_depthOf 12 = .ok (.iload_n 1, 1) := by decide +kernel
theorem dX0_depthOf_13 : decode cX0_depthOf 13 = .ok (.iaload, 1) := by decide +kernel
theorem dX0_depthOf_14 : decode cX0_depthOf 14 = .ok (.goto 4, 3) := by decide +kernel
theorem dX0_depthOf_17 : decode cX0_depthOf 17 = .ok (.iconst (-1), 1) := by decide +kernel
theorem dX0_depthOf_18 : decode cX0_depthOf 18 = .ok (.ireturn, 1) := by decide +kernel
theorem dX0_extend_0 : decode cX0_extend 0 = .ok (.aload_n 0, 1) := by decide +kernel
theorem dX0_extend_1 : decode cX0_extend 1 = .ok (.getfield 40, 3) := by decide +kernel
theorem dX0_extend_4 : decode cX0_extend 4 = .ok (.ifCond .le 41, 3) := by decide +kernel
theorem dX0_extend_7 : decode cX0_extend 7 = .ok (.aload_n 0, 1) := by decide +kernel
theorem dX0_extend_8 : decode cX0_extend 8 = .ok (.getfield 33, 3) := by decide +kernel
theorem dX0_extend_11 : decode cX0_extend 11 = .ok (.iload_n 1, 1) := by decide +kernel
theorem dX0_extend_12 : decode cX0_extend 12 = .ok (.invokevirtual 68, 3) := by decide +kernel
theorem dX0_extend_15 : decode cX0_extend 15 = .ok (.aload_n 0, 1) := by decide +kernel
theorem dX0_extend_16 : decode cX0_extend 16 = .ok (.getfield 18, 3) := by decide +kernel
theorem dX0_extend_19 : decode cX0_extend 19 = .ok (.aload_n 0, 1) := by decide +kernel
theorem dX0_extend_20 : decode cX0_extend 20 = .ok (.getfield 40, 3) := by decide +kernel
theorem dX0_extend_23 : decode cX0_extend 23 = .ok (.iconst 1, 1) := by decide +kernel
theorem dX0_extend_24 : decode cX0_extend 24 = .ok (.isub, 1) := by decide +kernel
theorem dX0_extend_25 : decode cX0_extend 25 = .ok (.aload_n 0, 1) := by decide +kernel
theorem dX0_extend_26 : decode cX0_extend 26 = .ok (.getfield 33, 3) := by decide +kernel
theorem dX0_extend_29 : decode cX0_extend 29 = .ok (.invokevirtual 44, 3) := by decide +kernel
theorem dX0_extend_32 : decode cX0_extend 32 = .ok (.aload_n 0, 1) := by decide +kernel
theorem dX0_extend_33 : decode cX0_extend 33 = .ok (.getfield 15, 3) := by decide +kernel
theorem dX0_extend_36 : decode cX0_extend 36 = .ok (.aload_n 0, 1) := by decide +kernel
theorem dX0_extend_37 : decode cX0_extend 37 = .ok (.getfield 40, 3) := by decide +kernel
theorem dX0_extend_40 : decode cX0_extend 40 = .ok (.iconst 1, 1) := by decide +kernel
theorem dX0_extend_41 : decode cX0_extend 41 = .ok (.isub, 1) := by decide +kernel
theorem dX0_extend_42 : decode cX0_extend 42 = .ok (.iaload, 1) := by decide +kernel
theorem dX0_extend_43 : decode cX0_extend 43 = .ok (.isub, 1) := by decide +kernel
theorem dX0_extend_44 : decode cX0_extend 44 = .ok (.iastore, 1) := by decide +kernel
theorem dX0_extend_45 : decode cX0_extend 45 = .ok (.return_, 1) := by decide +kernel
theorem dX0_extendBy_0 : decode cX0_extendBy 0 = .ok (.iload_n 2, 1) := by decide +kernel
theorem dX0_extendBy_1 : decode cX0_extendBy 1 = .ok (.istore 4, 2) := by decide +kernel
theorem dX0_extendBy_3 : decode cX0_extendBy 3 = .ok (.iload 4, 2) := by decide +kernel
theorem dX0_extendBy_5 : decode cX0_extendBy 5 = .ok (.iload_n 2, 1) := by decide +kernel
theorem dX0_extendBy_6 : decode cX0_extendBy 6 = .ok (.iload_n 3, 1) := by decide +kernel
theorem dX0_extendBy_7 : decode cX0_extendBy 7 = .ok (.iadd, 1) := by decide +kernel
theorem dX0_extendBy_8 : decode cX0_extendBy 8 = .ok (.if_icmp .ge 19, 3) := by decide +kernel
theorem dX0_extendBy_11 : decode cX0_extendBy 11 = .ok (.aload_n 0, 1) := by decide +kernel
theorem dX0_extendBy_12 : decode cX0_extendBy 12 = .ok (.aload_n 1, 1) := by decide +kernel
theorem dX0_extendBy_13 : decode cX0_extendBy 13 = .ok (.iload 4, 2) := by decide +kernel
theorem dX0_extendBy_15 : decode cX0_extendBy 15 = .ok (.invokevirtual 71, 3) := by decide +kernel
theorem dX0_extendBy_18 : decode cX0_extendBy 18 = .ok (.invokevirtual 75, 3) := by decide +kernel
theorem dX0_extendBy_21 : decode cX0_extendBy 21 = .ok (.iinc 4 1, 3) := by decide +kernel
theorem dX0_extendBy_24 : decode cX0_extendBy 24 = .ok (.goto (-21), 3) := by decide +kernel
theorem dX0_extendBy_27 : decode cX0_extendBy 27 = .ok (.return_, 1) := by decide +kernel
theorem dX0_extendByTextOf_0 : decode cX0_extendByTextOf 0 = .ok (.aload_n 0, 1) := by decide +kernel
theorem dX0_extendByTextOf_1 : decode cX0_extendByTextOf 1 = .ok (.iload_n 1, 1) := by decide +kernel
theorem dX0_extendByTextOf_2 : decode cX0_extendByTextOf 2 = .ok (.invokevirtual 78, 3) := by decide +kernel
theorem dX0_extendByTextOf_5 : decode cX0_extendByTextOf 5 = .ok (.ifCond .eq 23, 3) := by decide +kernel
theorem dX0_extendByTextOf_8 : decode cX0_extendByTextOf 8 = .ok (.aload_n 0, 1) := by decide +kernel
theorem dX0_extendByTextOf_9 : decode cX0_extendByTextOf 9 = .ok (.aload_n 0, 1) := by decide +kernel
theorem dX0_extendByTextOf_10 : decode cX0_extendByTextOf 10 = .ok (.getfield 33, 3) := by decide +kernel
theorem dX0_extendByTextOf_13 : decode cX0_extendByTextOf 13 = .ok (.aload_n 0, 1) := by decide +kernel
theorem dX0_extendByTextOf_14 : decode cX0_extendByTextOf 14 = .ok (.getfield 15, 3) := by decide +kernel
theorem dX0_extendByTextOf_17 : decode cX0_extendByTextOf 17 = .ok (.iload_n 1, 1) := by decide +kernel
theorem dX0_extendByTextOf_18 : decode cX0_extendByTextOf 18 = .ok (.iaload, 1) := by decide +kernel
theorem dX0_extendByTextOf_19 : decode cX0_extendByTextOf 19 = .ok (.aload_n 0, 1) := by decide +kernel
theorem dX0_extendByTextOf_20 : decode cX0_extendByTextOf 20 = .ok (.getfield 18, 3) := by decide +kernel
theorem dX0_extendByTextOf_23 : decode cX0_extendByTextOf 23 = .ok (.iload_n 1, 1) := by decide +kernel
theorem dX0_extendByTextOf_24 : decode cX0_extendByTextOf 24 = .ok (.iaload, 1) := by decide +kernel
theorem dX0_extendByTextOf_25 : decode cX0_extendByTextOf 25 = .ok (.invokevirtual 81, 3) := by decide +kernel
theorem dX0_extendByTextOf_28 : decode cX0_extendByTextOf 28 = .ok (.return_, 1) := by decide +kernel
theorem dX0_has_0 : decode cX0_has 0 = .ok (.iload_n 1, 1) := by decide +kernel
theorem dX0_has_1 : decode cX0_has 1 = .ok (.ifCond .lt 22, 3) := by decide +kernel
theorem dX0_has_4 : decode cX0_has 4 = .ok (.iload_n 1, 1) := by decide +kernel
theorem dX0_has_5 : decode cX0_has 5 = .ok (.aload_n 0, 1) := by decide +kernel
theorem dX0_has_6 : decode cX0_has 6 = .ok (.getfield 40, 3) := by decide +kernel
theorem dX0_has_9 : decode cX0_has 9 = .ok (.if_icmp .ge 14, 3) := by decide +kernel
theorem dX0_has_12 : decode cX0_has 12 = .ok (.iload_n 1, 1) := by decide +kernel
theorem dX0_has_13 : decode cX0_has 13 = .ok (.sipush 1500, 3) := by decide +kernel
theorem dX0_has_16 : decode cX0_has 16 = .ok (.if_icmp .ge 7, 3) := by decide +kernel
theorem dX0_has_19 : decode cX0_has 19 = .ok (.iconst 1, 1) := by decide +kernel
theorem dX0_has_20 : decode cX0_has 20 = .ok (.goto 4, 3) := by decide +kernel
theorem dX0_has_23 : decode cX0_has 23 = .ok (.iconst 0, 1) := by decide +kernel
theorem dX0_has_24 : decode cX0_has 24 = .ok (.ireturn, 1) := by decide +kernel
theorem dX0_hasRoom_0 : decode cX0_hasRoom 0 = .ok (.aload_n 0, 1) := by decide +kernel
theorem dX0_hasRoom_1 : decode cX0_hasRoom 1 = .ok (.getfield 40, 3) := by decide +kernel
theorem dX0_hasRoom_4 : decode cX0_hasRoom 4 = .ok (.sipush 1500, 3) := by decide +kernel
theorem dX0_hasRoom_7 : decode cX0_hasRoom 7 = .ok (.if_icmp .ge 18, 3) := by decide +kernel
theorem dX0_hasRoom_10 : decode cX0_hasRoom 10 = .ok (.iload_n 2, 1) := by decide +kernel
theorem dX0_hasRoom_11 : decode cX0_hasRoom 11 = .ok (.sipush 5000, 3) := by decide +kernel
theorem dX0_hasRoom_14 : decode cX0_hasRoom 14 = .ok (.aload_n 0, 1) := by decide +kernel
theorem dX0_hasRoom_15 : decode cX0_hasRoom 15 = .ok (.getfield 33, 3) := by decide +kernel
theorem dX0_hasRoom_18 : decode cX0_hasRoom 18 = .ok (.invokevirtual 44, 3) := by decide +kernel
theorem dX0_hasRoom_21 : decode cX0_hasRoom 21 = .ok (.isub, 1) := by decide +kernel
theorem dX0_hasRoom_22 : decode cX0_hasRoom 22 = .ok (.if_icmp .le 5, 3) := by decide +kernel
theorem dX0_hasRoom_25 : decode cX0_hasRoom 25 = .ok (.iconst 0, 1) := by decide +kernel
theorem dX0_hasRoom_26 : decode cX0_hasRoom 26 = .ok (.ireturn, 1) := by decide +kernel
theorem dX0_hasRoom_27 : decode cX0_hasRoom 27 = .ok (.iload_n 1, 1) := by decide +kernel
theorem dX0_hasRoom_28 : decode cX0_hasRoom 28 = .ok (.invokestatic 64, 3) := by decide +kernel
theorem dX0_hasRoom_31 : decode cX0_hasRoom 31 = .ok (.ifCond .eq 12, 3) := by decide +kernel
theorem dX0_hasRoom_34 : decode cX0_hasRoom 34 = .ok (.aload_n 0, 1) := by decide +kernel
theorem dX0_hasRoom_35 : decode cX0_hasRoom 35 = .ok (.getfield 47, 3) := by decide +kernel
theorem dX0_hasRoom_38 : decode cX0_hasRoom 38 = .ok (.bipush 30, 2) := by decide +kernel
theorem dX0_hasRoom_40 : decode cX0_hasRoom 40 = .ok (.if_icmp .ge 7, 3) := by decide +kernel
theorem dX0_hasRoom_43 : decode cX0_hasRoom 43 = .ok (.iconst 1, 1) := by decide +kernel
theorem dX0_hasRoom_44 : decode cX0_hasRoom 44 = .ok (.goto 4, 3) := by decide +kernel
theorem dX0_hasRoom_47 : decode cX0_hasRoom 47 = .ok (.iconst 0, 1) := by decide +kernel
theorem dX0_hasRoom_48 : decode cX0_hasRoom 48 = .ok (.ireturn, 1) := by decide +kernel
theorem dX0_haveSameText_0 : decode cX0_haveSameText 0 = .ok (.aload_n 0, 1) := by decide +kernel
theorem dX0_haveSameText_1 : decode cX0_haveSameText 1 = .ok (.iload_n 1, 1) := by decide +kernel
theorem dX0_haveSameText_2 : decode cX0_haveSameText 2 = .ok (.invokevirtual 78, 3) := by decide +kernel
theorem dX0_haveSameText_5 : decode cX0_haveSameText 5 = .ok (.ifCond .eq 26, 3) := by decide +kernel
theorem dX0_haveSameText_8 : decode cX0_haveSameText 8 = .ok (.aload_n 0, 1) := by decide +kernel
theorem dX0_haveSameText_9 : decode cX0_haveSameText 9 = .ok (.iload_n 2, 1) := by decide +kernel
theorem dX0_haveSameText_10 : decode cX0_haveSameText 10 = .ok (.invokevirtual 78, 3) := by decide +kernel
theorem dX0_haveSameText_13 : decode cX0_haveSameText 13 = .ok (.ifCond .eq 18, 3) := by decide +kernel
theorem dX0_haveSameText_16 : decode cX0_haveSameText 16 = .ok (.aload_n 0, 1) := by decide +kernel
theorem dX0_haveSameText_17 : decode cX0_haveSameText 17 = .ok (.getfield 18, 3) := by decide +kernel
theorem dX0_haveSameText_20 : decode cX0_haveSameText 20 = .ok (.iload_n 1, 1) := by decide +kernel
theorem dX0_haveSameText_21 : decode cX0_haveSameText 21 = .ok (.iaload, 1) := by decide +kernel
theorem dX0_haveSameText_22 : decode cX0_haveSameText 22 = .ok (.aload_n 0, 1) := by decide +kernel
theorem dX0_haveSameText_23 : decode cX0_haveSameText 23 = .ok (.getfield 18, 3) := by decide +kernel
theorem dX0_haveSameText_26 : decode cX0_haveSameText 26 = .ok (.iload_n 2, 1) := by decide +kernel
theorem dX0_haveSameText_27 : decode cX0_haveSameText 27 = .ok (.iaload, 1) := by decide +kernel
theorem dX0_haveSameText_28 : decode cX0_haveSameText 28 = .ok (.if_icmp .eq 5, 3) := by decide +kernel
theorem dX0_haveSameText_31 : decode cX0_haveSameText 31 = .ok (.iconst 0, 1) := by decide +kernel
theorem dX0_haveSameText_32 : decode cX0_haveSameText 32 = .ok (.ireturn, 1) := by decide +kernel
theorem dX0_haveSameText_33 : decode cX0_haveSameText 33 = .ok (.iconst 0, 1) := by decide +kernel
theorem dX0_haveSameText_34 : decode cX0_haveSameText 34 = .ok (.istore_n 3, 1) := by decide +kernel
theorem dX0_haveSameText_35 : decode cX0_haveSameText 35 = .ok (.iload_n 3, 1) := by decide +kernel
theorem dX0_haveSameText_36 : decode cX0_haveSameText 36 = .ok (.aload_n 0, 1) := by decide +kernel
theorem dX0_haveSameText_37 : decode cX0_haveSameText 37 = .ok (.getfield 18, 3) := by decide +kernel
theorem dX0_haveSameText_40 : decode cX0_haveSameText 40 = .ok (.iload_n 1, 1) := by decide +kernel
theorem dX0_haveSameText_41 : decode cX0_haveSameText 41 = .ok (.iaload, 1) := by decide +kernel
theorem dX0_haveSameText_42 : decode cX0_haveSameText 42 = .ok (.if_icmp .ge 44, 3) := by decide +kernel
theorem dX0_haveSameText_45 : decode cX0_haveSameText 45 = .ok (.aload_n 0, 1) := by decide +kernel
theorem dX0_haveSameText_46 : decode cX0_haveSameText 46 = .ok (.getfield 33, 3) := by decide +kernel
theorem dX0_haveSameText_49 : decode cX0_haveSameText 49 = .ok (.aload_n 0, 1) := by decide +kernel
theorem dX0_haveSameText_50 : decode cX0_haveSameText 50 = .ok (.getfield 15, 3) := by decide +kernel
theorem dX0_haveSameText_53 : decode cX0_haveSameText 53 = .ok (.iload_n 1, 1) := by decide +kernel
theorem dX0_haveSameText_54 : decode cX0_haveSameText 54 = .ok (.iaload, 1) := by decide +kernel
theorem dX0_haveSameText_55 : decode cX0_haveSameText 55 = .ok (.iload_n 3, 1) := by decide +kernel
theorem dX0_haveSameText_56 : decode cX0_haveSameText 56 = .ok (.iadd, 1) := by decide +kernel
theorem dX0_haveSameText_57 : decode cX0_haveSameText 57 = .ok (.invokevirtual 71, 3) := by decide +kernel
theorem dX0_haveSameText_60 : decode cX0_haveSameText 60 = .ok (.aload_n 0, 1) := by decide +kernel
theorem dX0_haveSameText_61 : decode cX0_haveSameText 61 = .ok (.getfield 33, 3) := by decide +kernel
theorem dX0_haveSameText_64 : decode cX0_haveSameText 64 = .ok (.aload_n 0, 1) := by decide +kernel
theorem dX0_haveSameText_65 : decode cX0_haveSameText 65 = .ok (.getfield 15, 3) := by decide +kernel
theorem dX0_haveSameText_68 : decode cX0_haveSameText 68 = .ok (.iload_n 2, 1) := by decide +kernel
theorem dX0_haveSameText_69 : decode cX0_haveSameText 69 = .ok (.iaload, 1) := by decide +kernel
theorem dX0_haveSameText_70 : decode cX0_haveSameText 70 = .ok (.iload_n 3, 1) := by decide +kernel
theorem dX0_haveSameText_71 : decode cX0_haveSameText 71 = .ok (.iadd, 1) := by decide +kernel
theorem dX0_haveSameText_72 : decode cX0_haveSameText 72 = .ok (.invokevirtual 71, 3) := by decide +kernel
theorem dX0_haveSameText_75 : decode cX0_haveSameText 75 = .ok (.if_icmp .eq 5, 3) := by decide +kernel
theorem dX0_haveSameText_78 : decode cX0_haveSameText 78 = .ok (.iconst 0, 1) := by decide +kernel
theorem dX0_haveSameText_79 : decode cX0_haveSameText 79 = .ok (.ireturn, 1) := by decide +kernel
theorem dX0_haveSameText_80 : decode cX0_haveSameText 80 = .ok (.iinc 3 1, 3) := by decide +kernel
theorem dX0_haveSameText_83 : decode cX0_haveSameText 83 = .ok (.goto (-48), 3) := by decide +kernel
theorem dX0_haveSameText_86 : decode cX0_haveSameText 86 = .ok (.iconst 1, 1) := by decide +kernel
theorem dX0_haveSameText_87 : decode cX0_haveSameText 87 = .ok (.ireturn, 1) := by decide +kernel
theorem dX0_innermost_0 : decode cX0_innermost 0 = .ok (.aload_n 0, 1) := by decide +kernel
theorem dX0_innermost_1 : decode cX0_innermost 1 = .ok (.getfield 47, 3) := by decide +kernel
theorem dX0_innermost_4 : decode cX0_innermost 4 = .ok (.ifCond .le 26, 3) := by decide +kernel
theorem dX0_innermost_7 : decode cX0_innermost 7 = .ok (.aload_n 0, 1) := by decide +kernel
theorem dX0_innermost_8 : decode cX0_innermost 8 = .ok (.getfield 47, 3) := by decide +kernel
theorem dX0_innermost_11 : decode cX0_innermost 11 = .ok (.bipush 30, 2) := by decide +kernel
theorem dX0_innermost_13 : decode cX0_innermost 13 = .ok (.if_icmp .gt 17, 3) := by decide +kernel
theorem dX0_innermost_16 : decode cX0_innermost 16 = .ok (.aload_n 0, 1) := by decide +kernel
theorem dX0_innermost_17 : decode cX0_innermost 17 = .ok (.getfield 37, 3) := by decide +kernel
theorem dX0_innermost_20 : decode cX0_innermost 20 = .ok (.aload_n 0, 1) := by decide +kernel
theorem dX0_innermost_21 : decode cX0_innermost 21 = .ok (.getfield 47, 3) := by decide +kernel
theorem dX0_innermost_24 : decode cX0_innermost 24 = .ok (.iconst 1, 1) := by decide +kernel
theorem dX0_innermost_25 : decode cX0_innermost 25 = .ok (.isub, 1) := by decide +kernel
theorem dX0_innermost_26 : decode cX0_innermost 26 = .ok (.iaload, 1) := by decide +kernel
theorem dX0_innermost_27 : decode cX0_innermost 27 = .ok (.goto 4, 3) := by decide +kernel
theorem dX0_innermost_30 : decode cX0_innermost 30 = .ok (.iconst (-1), 1) := by decide +kernel
theorem dX0_innermost_31 : decode cX0_innermost 31 = .ok (.ireturn, 1) := by decide +kernel
theorem dX0_isAscii_0 : decode cX0_isAscii 0 = .ok (.aload_n 0, 1) := by decide +kernel
theorem dX0_isAscii_1 : decode cX0_isAscii 1 = .ok (.iload_n 1, 1) := by decide +kernel
theorem dX0_isAscii_2 : decode cX0_isAscii 2 = .ok (.invokevirtual 78, 3) := by decide +kernel
theorem dX0_isAscii_5 : decode cX0_isAscii 5 = .ok (.ifCond .eq 29, 3) := by decide +kernel
theorem dX0_isAscii_8 : decode cX0_isAscii 8 = .ok (.aload_n 0, 1) := by decide +kernel
theorem dX0_isAscii_9 : decode cX0_isAscii 9 = .ok (.getfield 33, 3) := by decide +kernel
theorem dX0_isAscii_12 : decode cX0_isAscii 12 = .ok (.aload_n 0, 1) := by decide +kernel
theorem dX0_isAscii_13 : decode cX0_isAscii 13 = .ok (.getfield 15, 3) := by decide +kernel
theorem dX0_isAscii_16 : decode cX0_isAscii 16 = .ok (.iload_n 1, 1) := by decide +kernel
theorem dX0_isAscii_17 : decode cX0_isAscii 17 = .ok (.iaload, 1) := by decide +kernel
theorem dX0_isAscii_18 : decode cX0_isAscii 18 = .ok (.aload_n 0, 1) := by decide +kernel
theorem dX0_isAscii_19 : decode cX0_isAscii 19 = .ok (.getfield 18, 3) := by decide +kernel
theorem dX0_isAscii_22 : decode cX0_isAscii 22 = .ok (.iload_n 1, 1) := by decide +kernel
theorem dX0_isAscii_23 : decode cX0_isAscii 23 = .ok (.iaload, 1) := by decide +kernel
theorem dX0_isAscii_24 : decode cX0_isAscii 24 = .ok (.invokestatic 85, 3) := by decide +kernel
theorem dX0_isAscii_27 : decode cX0_isAscii 27 = .ok (.ifCond .eq 7, 3) := by decide +kernel
theorem dX0_isAscii_30 : decode cX0_isAscii 30 = .ok (.iconst 1, 1) := by decide +kernel
theorem dX0_isAscii_31 : decode cX0_isAscii 31 = .ok (.goto 4, 3) := by decide +kernel
theorem dX0_isAscii_34 : decode cX0_isAscii 34 = .ok (.iconst 0, 1) := by decide +kernel
theorem dX0_isAscii_35 : decode cX0_isAscii 35 = .ok (.ireturn, 1) := by decide +kernel
theorem dX0_isContainer_0 : decode cX0_isContainer 0 = .ok (.iload_n 0, 1) := by decide +kernel
theorem dX0_isContainer_1 : decode cX0_isContainer 1 = .ok (.iconst 5, 1) := by decide +kernel
theorem dX0_isContainer_2 : decode cX0_isContainer 2 = .ok (.if_icmp .eq 9, 3) := by decide +kernel
theorem dX0_isContainer_5 : decode cX0_isContainer 5 = .ok (.iload_n 0, 1) := by decide +kernel
theorem dX0_isContainer_6 : decode cX0_isContainer 6 = .ok (.bipush 6, 2) := by decide +kernel
theorem dX0_isContainer_8 : decode cX0_isContainer 8 = .ok (.if_icmp .ne 7, 3) := by decide +kernel
theorem dX0_isContainer_11 : decode cX0_isContainer 11 = .ok (.iconst 1, 1) := by decide +kernel
theorem dX0_isContainer_12 : decode cX0_isContainer 12 = .ok (.goto 4, 3) := by decide +kernel
theorem dX0_isContainer_15 : decode cX0_isContainer 15 = .ok (.iconst 0, 1) := by decide +kernel
theorem dX0_isContainer_16 : decode cX0_isContainer 16 = .ok (.ireturn, 1) := by decide +kernel
theorem dX0_isSound_0 : decode cX0_isSound 0 = .ok (.iconst 0, 1) := by decide +kernel
theorem dX0_isSound_1 : decode cX0_isSound 1 = .ok (.istore_n 1, 1) := by decide +kernel
theorem dX0_isSound_2 : decode cX0_isSound 2 = .ok (.iconst 0, 1) := by decide +kernel
theorem dX0_isSound_3 : decode cX0_isSound 3 = .ok (.istore_n 2, 1) := by decide +kernel
theorem dX0_isSound_4 : decode cX0_isSound 4 = .ok (.iload_n 2, 1) := by decide +kernel
theorem dX0_isSound_5 : decode cX0_isSound 5 = .ok (.aload_n 0, 1) := by decide +kernel
theorem dX0_isSound_6 : decode cX0_isSound 6 = .ok (.getfield 40, 3) := by decide +kernel
theorem dX0_isSound_9 : decode cX0_isSound 9 = .ok (.if_icmp .ge 30, 3) := by decide +kernel
theorem dX0_isSound_12 : decode cX0_isSound 12 = .ok (.aload_n 0, 1) := by decide +kernel
theorem dX0_isSound_13 : decode cX0_isSound 13 = .ok (.iload_n 2, 1) := by decide +kernel
theorem dX0_isSound_14 : decode cX0_isSound 14 = .ok (.invokevirtual 91, 3) := by decide +kernel
theorem dX0_isSound_17 : decode cX0_isSound 17 = .ok (.ifCond .ne 16, 3) := by decide +kernel
theorem dX0_isSound_20 : decode cX0_isSound 20 = .ok (.aload_n 0, 1) := by decide +kernel
theorem dX0_isSound_21 : decode cX0_isSound 21 = .ok (.iload_n 2, 1) := by decide +kernel
theorem dX0_isSound_22 : decode cX0_isSound 22 = .ok (.invokevirtual 94, 3) := by decide +kernel
theorem dX0_isSound_25 : decode cX0_isSound 25 = .ok (.bipush 11, 2) := by decide +kernel
theorem dX0_isSound_27 : decode cX0_isSound 27 = .ok (.if_icmp .eq 6, 3) := by decide +kernel
theorem dX0_isSound_30 : decode cX0_isSound 30 = .ok (.iinc 1 1, 3) := by decide +kernel
theorem dX0_isSound_33 : decode cX0_isSound 33 = .ok (.iinc 2 1, 3) := by decide +kernel
theorem dX0_isSound_36 : decode cX0_isSound 36 = .ok (.goto (-32), 3) := by decide +kernel
theorem dX0_isSound_39 : decode cX0_isSound 39 = .ok (.iload_n 1, 1) := by decide +kernel
theorem dX0_isSound_40 : decode cX0_isSound 40 = .ok (.iconst 1, 1) := by decide +kernel
theorem dX0_isSound_41 : decode cX0_isSound 41 = .ok (.if_icmp .gt 18, 3) := by decide +kernel
theorem dX0_isSound_44 : decode cX0_isSound 44 = .ok (.aload_n 0, 1) := by decide +kernel
theorem dX0_isSound_45 : decode cX0_isSound 45 = .ok (.getfield 47, 3) := by decide +kernel
theorem dX0_isSound_48 : decode cX0_isSound 48 = .ok (.aload_n 0, 1) := by decide +kernel
theorem dX0_isSound_49 : decode cX0_isSound 49 = .ok (.getfield 40, 3) := by decide +kernel
theorem dX0_isSound_52 : decode cX0_isSound 52 = .ok (.if_icmp .gt 7, 3) := by decide +kernel
theorem dX0_isSound_55 : decode cX0_isSound 55 = .ok (.iconst 1, 1) := by decide +kernel
theorem dX0_isSound_56 : decode cX0_isSound 56 = .ok (.goto 4, 3) := by decide +kernel
theorem dX0_isSound_59 : decode cX0_isSound 59 = .ok (.iconst 0, 1) := by decide +kernel
theorem dX0_isSound_60 : decode cX0_isSound 60 = .ok (.ireturn, 1) := by decide +kernel
theorem dX0_isWhole_0 : decode cX0_isWhole 0 = .ok (.aload_n 0, 1) := by decide +kernel
theorem dX0_isWhole_1 : decode cX0_isWhole 1 = .ok (.getfield 40, 3) := by decide +kernel
theorem dX0_isWhole_4 : decode cX0_isWhole 4 = .ok (.ifCond .le 14, 3) := by decide +kernel
theorem dX0_isWhole_7 : decode cX0_isWhole 7 = .ok (.aload_n 0, 1) := by decide +kernel
theorem dX0_isWhole_8 : decode cX0_isWhole 8 = .ok (.getfield 47, 3) := by decide +kernel
theorem dX0_isWhole_11 : decode cX0_isWhole 11 = .ok (.ifCond .ne 7, 3) := by decide +kernel
theorem dX0_isWhole_14 : decode cX0_isWhole 14 = .ok (.iconst 1, 1) := by decide +kernel
theorem dX0_isWhole_15 : decode cX0_isWhole 15 = .ok (.goto 4, 3) := by decide +kernel
theorem dX0_isWhole_18 : decode cX0_isWhole 18 = .ok (.iconst 0, 1) := by decide +kernel
theorem dX0_isWhole_19 : decode cX0_isWhole 19 = .ok (.ireturn, 1) := by decide +kernel
theorem dX0_kindOf_0 : decode cX0_kindOf 0 = .ok (.aload_n 0, 1) := by decide +kernel
theorem dX0_kindOf_1 : decode cX0_kindOf 1 = .ok (.iload_n 1, 1) := by decide +kernel
theorem dX0_kindOf_2 : decode cX0_kindOf 2 = .ok (.invokevirtual 78, 3) := by decide +kernel
theorem dX0_kindOf_5 : decode cX0_kindOf 5 = .ok (.ifCond .eq 12, 3) := by decide +kernel
theorem dX0_kindOf_8 : decode cX0_kindOf 8 = .ok (.aload_n 0, 1) := by decide +kernel
theorem dX0_kindOf_9 : decode cX0_kindOf 9 = .ok (.getfield 9, 3) := by decide +kernel
theorem dX0_kindOf_12 : decode cX0_kindOf 12 = .ok (.iload_n 1, 1) := by decide +kernel
theorem dX0_kindOf_13 : decode cX0_kindOf 13 = .ok (.iaload, 1) := by decide +kernel
theorem dX0_kindOf_14 : decode cX0_kindOf 14 = .ok (.goto 4, 3) := by decide +kernel
theorem dX0_kindOf_17 : decode cX0_kindOf 17 = .ok (.iconst (-1), 1) := by decide +kernel
theorem dX0_kindOf_18 : decode cX0_kindOf 18 = .ok (.ireturn, 1) := by decide +kernel
theorem dX0_lengthOf_0 : decode cX0_lengthOf 0 = .ok (.aload_n 0, 1) := by decide +kernel
theorem dX0_lengthOf_1 : decode cX0_lengthOf 1 = .ok (.iload_n 1, 1) := by decide +kernel
theorem dX0_lengthOf_2 : decode cX0_lengthOf 2 = .ok (.invokevirtual 78, 3) := by decide +kernel
theorem dX0_lengthOf_5 : decode cX0_lengthOf 5 = .ok (.ifCond .eq 12, 3) := by decide +kernel
theorem dX0_lengthOf_8 : decode cX0_lengthOf 8 = .ok (.aload_n 0, 1) := by decide +kernel
theorem dX0_lengthOf_9 : decode cX0_lengthOf 9 = .ok (.getfield 18, 3) := by decide +kernel
theorem dX0_lengthOf_12 : decode cX0_lengthOf 12 = .ok (.iload_n 1, 1) := by decide +kernel
theorem dX0_lengthOf_13 : decode cX0_lengthOf 13 = .ok (.iaload, 1) := by decide +kernel
theorem dX0_lengthOf_14 : decode cX0_lengthOf 14 = .ok (.goto 4, 3) := by decide +kernel
theorem dX0_lengthOf_17 : decode cX0_lengthOf 17 = .ok (.iconst (-1), 1) := by decide +kernel
theorem dX0_lengthOf_18 : decode cX0_lengthOf 18 = .ok (.ireturn, 1) := by decide +kernel
theorem dX0_mixOf_0 : decode cX0_mixOf 0 = .ok (.iconst 0, 1) := by decide +kernel
theorem dX0_mixOf_1 : decode cX0_mixOf 1 = .ok (.istore_n 2, 1) := by decide +kernel
theorem dX0_mixOf_2 : decode cX0_mixOf 2 = .ok (.aload_n 0, 1) := by decide +kernel
theorem dX0_mixOf_3 : decode cX0_mixOf 3 = .ok (.iload_n 1, 1) := by decide +kernel
theorem dX0_mixOf_4 : decode cX0_mixOf 4 = .ok (.invokevirtual 78, 3) := by decide +kernel
theorem dX0_mixOf_7 : decode cX0_mixOf 7 = .ok (.ifCond .eq 44, 3) := by decide +kernel
theorem dX0_mixOf_10 : decode cX0_mixOf 10 = .ok (.iconst 0, 1) := by decide +kernel
theorem dX0_mixOf_11 : decode cX0_mixOf 11 = .ok (.istore_n 3, 1) := by decide +kernel
theorem dX0_mixOf_12 : decode cX0_mixOf 12 = .ok (.iload_n 3, 1) := by decide +kernel
theorem dX0_mixOf_13 : decode cX0_mixOf 13 = .ok (.aload_n 0, 1) := by decide +kernel
theorem dX0_mixOf_14 : decode cX0_mixOf 14 = .ok (.getfield 18, 3) := by decide +kernel
theorem dX0_mixOf_17 : decode cX0_mixOf 17 = .ok (.iload_n 1, 1) := by decide +kernel
theorem dX0_mixOf_18 : decode cX0_mixOf 18 = .ok (.iaload, 1) := by decide +kernel
theorem dX0_mixOf_19 : decode cX0_mixOf 19 = .ok (.if_icmp .ge 32, 3) := by decide +kernel
theorem dX0_mixOf_22 : decode cX0_mixOf 22 = .ok (.iload_n 2, 1) := by decide +kernel
theorem dX0_mixOf_23 : decode cX0_mixOf 23 = .ok (.bipush 31, 2) := by decide +kernel
theorem dX0_mixOf_25 : decode cX0_mixOf 25 = .ok (.imul, 1) := by decide +kernel
theorem dX0_mixOf_26 : decode cX0_mixOf 26 = .ok (.aload_n 0, 1) := by decide +kernel
theorem dX0_mixOf_27 : decode cX0_mixOf 27 = .ok (.getfield 33, 3) := by decide +kernel
theorem dX0_mixOf_30 : decode cX0_mixOf 30 = .ok (.aload_n 0, 1) := by decide +kernel
theorem dX0_mixOf_31 : decode cX0_mixOf 31 = .ok (.getfield 15, 3) := by decide +kernel
theorem dX0_mixOf_34 : decode cX0_mixOf 34 = .ok (.iload_n 1, 1) := by decide +kernel
theorem dX0_mixOf_35 : decode cX0_mixOf 35 = .ok (.iaload, 1) := by decide +kernel
theorem dX0_mixOf_36 : decode cX0_mixOf 36 = .ok (.iload_n 3, 1) := by decide +kernel
theorem dX0_mixOf_37 : decode cX0_mixOf 37 = .ok (.iadd, 1) := by decide +kernel
theorem dX0_mixOf_38 : decode cX0_mixOf 38 = .ok (.invokevirtual 71, 3) := by decide +kernel
theorem dX0_mixOf_41 : decode cX0_mixOf 41 = .ok (.iadd, 1) := by decide +kernel
theorem dX0_mixOf_42 : decode cX0_mixOf 42 = .ok (.iconst 1, 1) := by decide +kernel
theorem dX0_mixOf_43 : decode cX0_mixOf 43 = .ok (.iadd, 1) := by decide +kernel
theorem dX0_mixOf_44 : decode cX0_mixOf 44 = .ok (.istore_n 2, 1) := by decide +kernel
theorem dX0_mixOf_45 : decode cX0_mixOf 45 = .ok (.iinc 3 1, 3) := by decide +kernel
theorem dX0_mixOf_48 : decode cX0_mixOf 48 = .ok (.goto (-36), 3) := by decide +kernel
theorem dX0_mixOf_51 : decode cX0_mixOf 51 = .ok (.iload_n 2, 1) := by decide +kernel
theorem dX0_mixOf_52 : decode cX0_mixOf 52 = .ok (.ireturn, 1) := by decide +kernel
theorem dX0_numberOf_0 : decode cX0_numberOf 0 = .ok (.aload_n 0, 1) := by decide +kernel
theorem dX0_numberOf_1 : decode cX0_numberOf 1 = .ok (.iload_n 1, 1) := by decide +kernel
theorem dX0_numberOf_2 : decode cX0_numberOf 2 = .ok (.invokevirtual 78, 3) := by decide +kernel
theorem dX0_numberOf_5 : decode cX0_numberOf 5 = .ok (.ifCond .eq 12, 3) := by decide +kernel
theorem dX0_numberOf_8 : decode cX0_numberOf 8 = .ok (.aload_n 0, 1) := by decide +kernel
theorem dX0_numberOf_9 : decode cX0_numberOf 9 = .ok (.getfield 24, 3) := by decide +kernel
theorem dX0_numberOf_12 : decode cX0_numberOf 12 = .ok (.iload_n 1, 1) := by decide +kernel
theorem dX0_numberOf_13 : decode cX0_numberOf 13 = .ok (.laload, 1) := by decide +kernel
theorem dX0_numberOf_14 : decode cX0_numberOf 14 = .ok (.goto 4, 3) := by decide +kernel
theorem dX0_numberOf_17 : decode cX0_numberOf 17 = .ok (.lconst 0, 1) := by decide +kernel
theorem dX0_numberOf_18 : decode cX0_numberOf 18 = .ok (.lreturn, 1) := by decide +kernel
theorem dX0_put_0 : decode cX0_put 0 = .ok (.aload_n 0, 1) := by decide +kernel
theorem dX0_put_1 : decode cX0_put 1 = .ok (.getfield 40, 3) := by decide +kernel
theorem dX0_put_4 : decode cX0_put 4 = .ok (.sipush 1500, 3) := by decide +kernel
theorem dX0_put_7 : decode cX0_put 7 = .ok (.if_icmp .lt 4, 3) := by decide +kernel
theorem dX0_put_10 : decode cX0_put 10 = .ok (.return_, 1) := by decide +kernel
theorem dX0_put_11 : decode cX0_put 11 = .ok (.iload_n 1, 1) := by decide +kernel
theorem dX0_put_12 : decode cX0_put 12 = .ok (.bipush 11, 2) := by decide +kernel
theorem dX0_put_14 : decode cX0_put 14 = .ok (.if_icmp .ne 20, 3) := by decide +kernel
theorem dX0_put_17 : decode cX0_put 17 = .ok (.aload_n 0, 1) := by decide +kernel
theorem dX0_put_18 : decode cX0_put 18 = .ok (.getfield 47, 3) := by decide +kernel
theorem dX0_put_21 : decode cX0_put 21 = .ok (.ifCond .le 13, 3) := by decide +kernel
theorem dX0_put_24 : decode cX0_put 24 = .ok (.aload_n 0, 1) := by decide +kernel
theorem dX0_put_25 : decode cX0_put 25 = .ok (.dup, 1) := by decide +kernel
theorem dX0_put_26 : decode cX0_put 26 = .ok (.getfield 47, 3) := by decide +kernel
theorem dX0_put_29 : decode cX0_put 29 = .ok (.iconst 1, 1) := by decide +kernel
theorem dX0_put_30 : decode cX0_put 30 = .ok (.isub, 1) := by decide +kernel
theorem dX0_put_31 : decode cX0_put 31 = .ok (.putfield 47, 3) := by decide +kernel
theorem dX0_put_34 : decode cX0_put 34 = .ok (.aload_n 0, 1) := by decide +kernel
theorem dX0_put_35 : decode cX0_put 35 = .ok (.getfield 9, 3) := by decide +kernel
theorem dX0_put_38 : decode cX0_put 38 = .ok (.aload_n 0, 1) := by decide +kernel
theorem dX0_put_39 : decode cX0_put 39 = .ok (.getfield 40, 3) := by decide +kernel
theorem dX0_put_42 : decode cX0_put 42 = .ok (.iload_n 1, 1) := by decide +kernel
theorem dX0_put_43 : decode cX0_put 43 = .ok (.iastore, 1) := by decide +kernel
theorem dX0_put_44 : decode cX0_put 44 = .ok (.aload_n 0, 1) := by decide +kernel
theorem dX0_put_45 : decode cX0_put 45 = .ok (.getfield 15, 3) := by decide +kernel
theorem dX0_put_48 : decode cX0_put 48 = .ok (.aload_n 0, 1) := by decide +kernel
theorem dX0_put_49 : decode cX0_put 49 = .ok (.getfield 40, 3) := by decide +kernel
theorem dX0_put_52 : decode cX0_put 52 = .ok (.aload_n 0, 1) := by decide +kernel
theorem dX0_put_53 : decode cX0_put 53 = .ok (.getfield 33, 3) := by decide +kernel
theorem dX0_put_56 : decode cX0_put 56 = .ok (.invokevirtual 44, 3) := by decide +kernel
theorem dX0_put_59 : decode cX0_put 59 = .ok (.iastore, 1) := by decide +kernel
theorem dX0_put_60 : decode cX0_put 60 = .ok (.aload_n 0, 1) := by decide +kernel
theorem dX0_put_61 : decode cX0_put 61 = .ok (.getfield 18, 3) := by decide +kernel
theorem dX0_put_64 : decode cX0_put 64 = .ok (.aload_n 0, 1) := by decide +kernel
theorem dX0_put_65 : decode cX0_put 65 = .ok (.getfield 40, 3) := by decide +kernel
theorem dX0_put_68 : decode cX0_put 68 = .ok (.iconst 0, 1) := by decide +kernel
theorem dX0_put_69 : decode cX0_put 69 = .ok (.iastore, 1) := by decide +kernel
theorem dX0_put_70 : decode cX0_put 70 = .ok (.aload_n 0, 1) := by decide +kernel
theorem dX0_put_71 : decode cX0_put 71 = .ok (.getfield 21, 3) := by decide +kernel
theorem dX0_put_74 : decode cX0_put 74 = .ok (.aload_n 0, 1) := by decide +kernel
theorem dX0_put_75 : decode cX0_put 75 = .ok (.getfield 40, 3) := by decide +kernel
theorem dX0_put_78 : decode cX0_put 78 = .ok (.aload_n 0, 1) := by decide +kernel
theorem dX0_put_79 : decode cX0_put 79 = .ok (.getfield 47, 3) := by decide +kernel
theorem dX0_put_82 : decode cX0_put 82 = .ok (.iastore, 1) := by decide +kernel
theorem dX0_put_83 : decode cX0_put 83 = .ok (.aload_n 0, 1) := by decide +kernel
theorem dX0_put_84 : decode cX0_put 84 = .ok (.getfield 24, 3) := by decide +kernel
theorem dX0_put_87 : decode cX0_put 87 = .ok (.aload_n 0, 1) := by decide +kernel
theorem dX0_put_88 : decode cX0_put 88 = .ok (.getfield 40, 3) := by decide +kernel
theorem dX0_put_91 : decode cX0_put 91 = .ok (.lload_n 2, 1) := by decide +kernel
theorem dX0_put_92 : decode cX0_put 92 = .ok (.lastore, 1) := by decide +kernel
theorem dX0_put_93 : decode cX0_put 93 = .ok (.aload_n 0, 1) := by decide +kernel
theorem dX0_put_94 : decode cX0_put 94 = .ok (.dup, 1) := by decide +kernel
theorem dX0_put_95 : decode cX0_put 95 = .ok (.getfield 40, 3) := by decide +kernel
theorem dX0_put_98 : decode cX0_put 98 = .ok (.iconst 1, 1) := by decide +kernel
theorem dX0_put_99 : decode cX0_put 99 = .ok (.iadd, 1) := by decide +kernel
theorem dX0_put_100 : decode cX0_put 100 = .ok (.putfield 40, 3) := by decide +kernel
theorem dX0_put_103 : decode cX0_put 103 = .ok (.aload_n 0, 1) := by decide +kernel
theorem dX0_put_104 : decode cX0_put 104 = .ok (.iload_n 1, 1) := by decide +kernel
theorem dX0_put_105 : decode cX0_put 105 = .ok (.bipush 10, 2) := by decide +kernel
theorem dX0_put_107 : decode cX0_put 107 = .ok (.if_icmp .ne 7, 3) := by decide +kernel
theorem dX0_put_110 : decode cX0_put 110 = .ok (.iconst 1, 1) := by decide +kernel
theorem dX0_put_111 : decode cX0_put 111 = .ok (.goto 4, 3) := by decide +kernel
theorem dX0_put_114 : decode cX0_put 114 = .ok (.iconst 0, 1) := by decide +kernel
theorem dX0_put_115 : decode cX0_put 115 = .ok (.putfield 50, 3) := by decide +kernel
theorem dX0_put_118 : decode cX0_put 118 = .ok (.iload_n 1, 1) := by decide +kernel
theorem dX0_put_119 : decode cX0_put 119 = .ok (.invokestatic 64, 3) := by decide +kernel
theorem dX0_put_122 : decode cX0_put 122 = .ok (.ifCond .eq 32, 3) := by decide +kernel
theorem dX0_put_125 : decode cX0_put 125 = .ok (.aload_n 0, 1) := by decide +kernel
theorem dX0_put_126 : decode cX0_put 126 = .ok (.getfield 47, 3) := by decide +kernel
theorem dX0_put_129 : decode cX0_put 129 = .ok (.bipush 30, 2) := by decide +kernel
theorem dX0_put_131 : decode cX0_put 131 = .ok (.if_icmp .ge 23, 3) := by decide +kernel
theorem dX0_put_134 : decode cX0_put 134 = .ok (.aload_n 0, 1) := by decide +kernel
theorem dX0_put_135 : decode cX0_put 135 = .ok (.getfield 37, 3) := by decide +kernel
theorem dX0_put_138 : decode cX0_put 138 = .ok (.aload_n 0, 1) := by decide +kernel
theorem dX0_put_139 : decode cX0_put 139 = .ok (.getfield 47, 3) := by decide +kernel
theorem dX0_put_142 : decode cX0_put 142 = .ok (.iload_n 1, 1) := by decide +kernel
theorem dX0_put_143 : decode cX0_put 143 = .ok (.iastore, 1) := by decide +kernel
theorem dX0_put_144 : decode cX0_put 144 = .ok (.aload_n 0, 1) := by decide +kernel
theorem dX0_put_145 : decode cX0_put 145 = .ok (.dup, 1) := by decide +kernel
theorem dX0_put_146 : decode cX0_put 146 = .ok (.getfield 47, 3) := by decide +kernel
theorem dX0_put_149 : decode cX0_put 149 = .ok (.iconst 1, 1) := by decide +kernel
theorem dX0_put_150 : decode cX0_put 150 = .ok (.iadd, 1) := by decide +kernel
theorem dX0_put_151 : decode cX0_put 151 = .ok (.putfield 47, 3) := by decide +kernel
theorem dX0_put_154 : decode cX0_put 154 = .ok (.return_, 1) := by decide +kernel
theorem dX0_size_0 : decode cX0_size 0 = .ok (.aload_n 0, 1) := by decide +kernel
theorem dX0_size_1 : decode cX0_size 1 = .ok (.getfield 40, 3) := by decide +kernel
theorem dX0_size_4 : decode cX0_size 4 = .ok (.ireturn, 1) := by decide +kernel
theorem dX0_textByte_0 : decode cX0_textByte 0 = .ok (.aload_n 0, 1) := by decide +kernel
theorem dX0_textByte_1 : decode cX0_textByte 1 = .ok (.iload_n 1, 1) := by decide +kernel
theorem dX0_textByte_2 : decode cX0_textByte 2 = .ok (.invokevirtual 78, 3) := by decide +kernel
theorem dX0_textByte_5 : decode cX0_textByte 5 = .ok (.ifCond .eq 35, 3) := by decide +kernel
theorem dX0_textByte_8 : decode cX0_textByte 8 = .ok (.iload_n 2, 1) := by decide +kernel
theorem dX0_textByte_9 : decode cX0_textByte 9 = .ok (.ifCond .lt 31, 3) := by decide +kernel
theorem dX0_textByte_12 : decode cX0_textByte 12 = .ok (.iload_n 2, 1) := by decide +kernel
theorem dX0_textByte_13 : decode cX0_textByte 13 = .ok (.aload_n 0, 1) := by decide +kernel
theorem dX0_textByte_14 : decode cX0_textByte 14 = .ok (.getfield 18, 3) := by decide +kernel
theorem dX0_textByte_17 : decode cX0_textByte 17 = .ok (.iload_n 1, 1) := by decide +kernel
theorem dX0_textByte_18 : decode cX0_textByte 18 = .ok (.iaload, 1) := by decide +kernel
theorem dX0_textByte_19 : decode cX0_textByte 19 = .ok (.if_icmp .ge 21, 3) := by decide +kernel
theorem dX0_textByte_22 : decode cX0_textByte 22 = .ok (.aload_n 0, 1) := by decide +kernel
theorem dX0_textByte_23 : decode cX0_textByte 23 = .ok (.getfield 33, 3) := by decide +kernel
theorem dX0_textByte_26 : decode cX0_textByte 26 = .ok (.aload_n 0, 1) := by decide +kernel
theorem dX0_textByte_27 : decode cX0_textByte 27 = .ok (.getfield 15, 3) := by decide +kernel
theorem dX0_textByte_30 : decode cX0_textByte 30 = .ok (.iload_n 1, 1) := by decide +kernel
theorem dX0_textByte_31 : decode cX0_textByte 31 = .ok (.iaload, 1) := by decide +kernel
theorem dX0_textByte_32 : decode cX0_textByte 32 = .ok (.iload_n 2, 1) := by decide +kernel
theorem dX0_textByte_33 : decode cX0_textByte 33 = .ok (.iadd, 1) := by decide +kernel
theorem dX0_textByte_34 : decode cX0_textByte 34 = .ok (.invokevirtual 71, 3) := by decide +kernel
theorem dX0_textByte_37 : decode cX0_textByte 37 = .ok (.goto 4, 3) := by decide +kernel
theorem dX0_textByte_40 : decode cX0_textByte 40 = .ok (.iconst (-1), 1) := by decide +kernel
theorem dX0_textByte_41 : decode cX0_textByte 41 = .ok (.ireturn, 1) := by decide +kernel
theorem dX0_textBytes_0 : decode cX0_textBytes 0 = .ok (.aload_n 0, 1) := by decide +kernel
theorem dX0_textBytes_1 : decode cX0_textBytes 1 = .ok (.getfield 33, 3) := by decide +kernel
theorem dX0_textBytes_4 : decode cX0_textBytes 4 = .ok (.invokevirtual 44, 3) := by decide +kernel
theorem dX0_textBytes_7 : decode cX0_textBytes 7 = .ok (.ireturn, 1) := by decide +kernel
