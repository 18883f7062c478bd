theorem d_Pk_tryWithin_156 : decode b_Pk_tryWithin 156 = .ok (.iload_n 3, 1) := by decide +kernel
theorem d_Pk_tryWithin_157 : decode b_Pk_tryWithin 157 = .ok (.iconst 2, 1) := by decide +kernel
theorem d_Pk_tryWithin_158 : decode b_Pk_tryWithin 158 = .ok (.aload_n 0, 1) := by decide +kernel
theorem d_Pk_tryWithin_159 : decode b_Pk_tryWithin 159 = .ok (.getfield 61, 3) := by decide +kernel
theorem d_Pk_tryWithin_162 : decode b_Pk_tryWithin 162 = .ok (.imul, 1) := by decide +kernel
theorem d_Pk_tryWithin_163 : decode b_Pk_tryWithin 163 = .ok (.iadd, 1) := by decide +kernel
theorem d_Pk_tryWithin_164 : decode b_Pk_tryWithin 164 = .ok (.invokevirtual 115, 3) := by decide +kernel
theorem d_Pk_tryWithin_167 : decode b_Pk_tryWithin 167 = .ok (.return_, 1) := by decide +kernel
theorem d_Go_shortestWay_0 : decode b_Go_shortestWay 0 = .ok (.iconst (-1), 1) := by decide +kernel
theorem d_Go_shortestWay_1 : decode b_Go_shortestWay 1 = .ok (.istore 4, 2) := by decide +kernel
theorem d_Go_shortestWay_3 : decode b_Go_shortestWay 3 = .ok (.sipush 201, 3) := by decide +kernel
theorem d_Go_shortestWay_6 : decode b_Go_shortestWay 6 = .ok (.istore 5, 2) := by decide +kernel
theorem d_Go_shortestWay_8 : decode b_Go_shortestWay 8 = .ok (.iconst 0, 1) := by decide +kernel
theorem d_Go_shortestWay_9 : decode b_Go_shortestWay 9 = .ok (.istore 6, 2) := by decide +kernel
theorem d_Go_shortestWay_11 : decode b_Go_shortestWay 11 = .ok (.iload 6, 2) := by decide +kernel
theorem d_Go_shortestWay_13 : decode b_Go_shortestWay 13 = .ok (.bipush 6, 2) := by decide +kernel
theorem d_Go_shortestWay_15 : decode b_Go_shortestWay 15 = .ok (.if_icmp .ge 80, 3) := by decide +kernel
theorem d_Go_shortestWay_18 : decode b_Go_shortestWay 18 = .ok (.aload_n 0, 1) := by decide +kernel
theorem d_Go_shortestWay_19 : decode b_Go_shortestWay 19 = .ok (.iload_n 1, 1) := by decide +kernel
theorem d_Go_shortestWay_20 : decode b_Go_shortestWay 20 = .ok (.iload 6, 2) := by decide +kernel
theorem d_Go_shortestWay_22 : decode b_Go_shortestWay 22 = .ok (.iconst 0, 1) := by decide +kernel
theorem d_Go_shortestWay_23 : decode b_Go_shortestWay 23 = .ok (.invokevirtual 46, 3) := by decide +kernel
theorem d_Go_shortestWay_26 : decode b_Go_shortestWay 26 = .ok (.istore 7, 2) := by decide +kernel
theorem d_Go_shortestWay_28 : decode b_Go_shortestWay 28 = .ok (.aload_n 0, 1) := by decide +kernel
theorem d_Go_shortestWay_29 : decode b_Go_shortestWay 29 = .ok (.iload_n 1, 1) := by decide +kernel
theorem d_Go_shortestWay_30 : decode b_Go_shortestWay 30 = .ok (.iload 6, 2) := by decide +kernel
theorem d_Go_shortestWay_32 : decode b_Go_shortestWay 32 = .ok (.iconst 1, 1) := by decide +kernel
theorem d_Go_shortestWay_33 : decode b_Go_shortestWay 33 = .ok (.invokevirtual 46, 3) := by decide +kernel
theorem d_Go_shortestWay_36 : decode b_Go_shortestWay 36 = .ok (.iload_n 2, 1) := by decide +kernel
theorem d_Go_shortestWay_37 : decode b_Go_shortestWay 37 = .ok (.if_icmp .gt 19, 3) := by decide +kernel
theorem d_Go_shortestWay_40 : decode b_Go_shortestWay 40 = .ok (.aload_n 0, 1) := by decide +kernel
theorem d_Go_shortestWay_41 : decode b_Go_shortestWay 41 = .ok (.iload_n 1, 1) := by decide +kernel
theorem d_Go_shortestWay_42 : decode b_Go_shortestWay 42 = .ok (.iload 6, 2) := by decide +kernel
theorem d_Go_shortestWay_44 : decode b_Go_shortestWay 44 = .ok (.iconst 2, 1) := by decide +kernel
theorem d_Go_shortestWay_45 : decode b_Go_shortestWay 45 = .ok (.invokevirtual 46, 3) := by decide +kernel
theorem d_Go_shortestWay_48 : decode b_Go_shortestWay 48 = .ok (.iload_n 3, 1) := by decide +kernel
theorem d_Go_shortestWay_49 : decode b_Go_shortestWay 49 = .ok (.if_icmp .gt 7, 3) := by decide +kernel
theorem d_Go_shortestWay_52 : decode b_Go_shortestWay 52 = .ok (.iconst 1, 1) := by decide +kernel
theorem d_Go_shortestWay_53 : decode b_Go_shortestWay 53 = .ok (.goto 4, 3) := by decide +kernel
theorem d_Go_shortestWay_56 : decode b_Go_shortestWay 56 = .ok (.iconst 0, 1) := by decide +kernel
theorem d_Go_shortestWay_57 : decode b_Go_shortestWay 57 = .ok (.istore 8, 2) := by decide +kernel
theorem d_Go_shortestWay_59 : decode b_Go_shortestWay 59 = .ok (.iload 8, 2) := by decide +kernel
theorem d_Go_shortestWay_61 : decode b_Go_shortestWay 61 = .ok (.ifCond .eq 28, 3) := by decide +kernel
theorem d_Go_shortestWay_64 : decode b_Go_shortestWay 64 = .ok (.iload 7, 2) := by decide +kernel
theorem d_Go_shortestWay_66 : decode b_Go_shortestWay 66 = .ok (.iload 5, 2) := by decide +kernel
theorem d_Go_shortestWay_68 : decode b_Go_shortestWay 68 = .ok (.if_icmp .ge 21, 3) := by decide +kernel
theorem d_Go_shortestWay_71 : decode b_Go_shortestWay 71 = .ok (.aload_n 0, 1) := by decide +kernel
theorem d_Go_shortestWay_72 : decode b_Go_shortestWay 72 = .ok (.iload_n 1, 1) := by decide +kernel
theorem d_Go_shortestWay_73 : decode b_Go_shortestWay 73 = .ok (.iload 6, 2) := by decide +kernel
theorem d_Go_shortestWay_75 : decode b_Go_shortestWay 75 = .ok (.invokevirtual 50, 3) := by decide +kernel
theorem d_Go_shortestWay_78 : decode b_Go_shortestWay 78 = .ok (.ifCond .eq 11, 3) := by decide +kernel
theorem d_Go_shortestWay_81 : decode b_Go_shortestWay 81 = .ok (.iload 6, 2) := by decide +kernel
theorem d_Go_shortestWay_83 : decode b_Go_shortestWay 83 = .ok (.istore 4, 2) := by decide +kernel
theorem d_Go_shortestWay_85 : decode b_Go_shortestWay 85 = .ok (.iload 7, 2) := by decide +kernel
theorem d_Go_shortestWay_87 : decode b_Go_shortestWay 87 = .ok (.istore 5, 2) := by decide +kernel
theorem d_Go_shortestWay_89 : decode b_Go_shortestWay 89 = .ok (.iinc 6 1, 3) := by decide +kernel
theorem d_Go_shortestWay_92 : decode b_Go_shortestWay 92 = .ok (.goto (-81), 3) := by decide +kernel
theorem d_Go_shortestWay_95 : decode b_Go_shortestWay 95 = .ok (.iload 4, 2) := by decide +kernel
theorem d_Go_shortestWay_97 : decode b_Go_shortestWay 97 = .ok (.ireturn, 1) := by decide +kernel
theorem d_Go_sizeOf_0 : decode b_Go_sizeOf 0 = .ok (.aload_n 0, 1) := by decide +kernel
theorem d_Go_sizeOf_1 : decode b_Go_sizeOf 1 = .ok (.getfield 9, 3) := by decide +kernel
theorem d_Go_sizeOf_4 : decode b_Go_sizeOf 4 = .ok (.iload_n 1, 1) := by decide +kernel
theorem d_Go_sizeOf_5 : decode b_Go_sizeOf 5 = .ok (.iconst 3, 1) := by decide +kernel
theorem d_Go_sizeOf_6 : decode b_Go_sizeOf 6 = .ok (.imul, 1) := by decide +kernel
theorem d_Go_sizeOf_7 : decode b_Go_sizeOf 7 = .ok (.getstatic 43, 3) := by decide +kernel
theorem d_Go_sizeOf_10 : decode b_Go_sizeOf 10 = .ok (.iload_n 2, 1) := by decide +kernel
theorem d_Go_sizeOf_11 : decode b_Go_sizeOf 11 = .ok (.iconst 3, 1) := by decide +kernel
theorem d_Go_sizeOf_12 : decode b_Go_sizeOf 12 = .ok (.imul, 1) := by decide +kernel
theorem d_Go_sizeOf_13 : decode b_Go_sizeOf 13 = .ok (.iload_n 3, 1) := by decide +kernel
theorem d_Go_sizeOf_14 : decode b_Go_sizeOf 14 = .ok (.iadd, 1) := by decide +kernel
theorem d_Go_sizeOf_15 : decode b_Go_sizeOf 15 = .ok (.iaload, 1) := by decide +kernel
theorem d_Go_sizeOf_16 : decode b_Go_sizeOf 16 = .ok (.iadd, 1) := by decide +kernel
theorem d_Go_sizeOf_17 : decode b_Go_sizeOf 17 = .ok (.iaload, 1) := by decide +kernel
theorem d_Go_sizeOf_18 : decode b_Go_sizeOf 18 = .ok (.ireturn, 1) := by decide +kernel
theorem d_Go_mayStand_0 : decode b_Go_mayStand 0 = .ok (.aload_n 0, 1) := by decide +kernel
theorem d_Go_mayStand_1 : decode b_Go_mayStand 1 = .ok (.getfield 18, 3) := by decide +kernel
theorem d_Go_mayStand_4 : decode b_Go_mayStand 4 = .ok (.iload_n 1, 1) := by decide +kernel
theorem d_Go_mayStand_5 : decode b_Go_mayStand 5 = .ok (.iaload, 1) := by decide +kernel
theorem d_Go_mayStand_6 : decode b_Go_mayStand 6 = .ok (.iload_n 2, 1) := by decide +kernel
theorem d_Go_mayStand_7 : decode b_Go_mayStand 7 = .ok (.ishr, 1) := by decide +kernel
theorem d_Go_mayStand_8 : decode b_Go_mayStand 8 = .ok (.iconst 1, 1) := by decide +kernel
theorem d_Go_mayStand_9 : decode b_Go_mayStand 9 = .ok (.iand, 1) := by decide +kernel
theorem d_Go_mayStand_10 : decode b_Go_mayStand 10 = .ok (.ifCond .ne 7, 3) := by decide +kernel
theorem d_Go_mayStand_13 : decode b_Go_mayStand 13 = .ok (.iconst 1, 1) := by decide +kernel
theorem d_Go_mayStand_14 : decode b_Go_mayStand 14 = .ok (.goto 4, 3) := by decide +kernel
theorem d_Go_mayStand_17 : decode b_Go_mayStand 17 = .ok (.iconst 0, 1) := by decide +kernel
theorem d_Go_mayStand_18 : decode b_Go_mayStand 18 = .ok (.ireturn, 1) := by decide +kernel
theorem d_Pk_triedIsLower_0 : decode b_Pk_triedIsLower 0 = .ok (.iconst 0, 1) := by decide +kernel
theorem d_Pk_triedIsLower_1 : decode b_Pk_triedIsLower 1 = .ok (.istore_n 1, 1) := by decide +kernel
theorem d_Pk_triedIsLower_2 : decode b_Pk_triedIsLower 2 = .ok (.iload_n 1, 1) := by decide +kernel
theorem d_Pk_triedIsLower_3 : decode b_Pk_triedIsLower 3 = .ok (.bipush 6, 2) := by decide +kernel
theorem d_Pk_triedIsLower_5 : decode b_Pk_triedIsLower 5 = .ok (.if_icmp .ge 45, 3) := by decide +kernel
theorem d_Pk_triedIsLower_8 : decode b_Pk_triedIsLower 8 = .ok (.aload_n 0, 1) := by decide +kernel
theorem d_Pk_triedIsLower_9 : decode b_Pk_triedIsLower 9 = .ok (.getfield 21, 3) := by decide +kernel
theorem d_Pk_triedIsLower_12 : decode b_Pk_triedIsLower 12 = .ok (.iload_n 1, 1) := by decide +kernel
theorem d_Pk_triedIsLower_13 : decode b_Pk_triedIsLower 13 = .ok (.iaload, 1) := by decide +kernel
theorem d_Pk_triedIsLower_14 : decode b_Pk_triedIsLower 14 = .ok (.aload_n 0, 1) := by decide +kernel
theorem d_Pk_triedIsLower_15 : decode b_Pk_triedIsLower 15 = .ok (.getfield 15, 3) := by decide +kernel
theorem d_Pk_triedIsLower_18 : decode b_Pk_triedIsLower 18 = .ok (.iload_n 1, 1) := by decide +kernel
theorem d_Pk_triedIsLower_19 : decode b_Pk_triedIsLower 19 = .ok (.iaload, 1) := by decide +kernel
theorem d_Pk_triedIsLower_20 : decode b_Pk_triedIsLower 20 = .ok (.if_icmp .eq 24, 3) := by decide +kernel
theorem d_Pk_triedIsLower_23 : decode b_Pk_triedIsLower 23 = .ok (.aload_n 0, 1) := by decide +kernel
theorem d_Pk_triedIsLower_24 : decode b_Pk_triedIsLower 24 = .ok (.getfield 21, 3) := by decide +kernel
theorem d_Pk_triedIsLower_27 : decode b_Pk_triedIsLower 27 = .ok (.iload_n 1, 1) := by decide +kernel
theorem d_Pk_triedIsLower_28 : decode b_Pk_triedIsLower 28 = .ok (.iaload, 1) := by decide +kernel
theorem d_Pk_triedIsLower_29 : decode b_Pk_triedIsLower 29 = .ok (.aload_n 0, 1) := by decide +kernel
theorem d_Pk_triedIsLower_30 : decode b_Pk_triedIsLower 30 = .ok (.getfield 15, 3) := by decide +kernel
theorem d_Pk_triedIsLower_33 : decode b_Pk_triedIsLower 33 = .ok (.iload_n 1, 1) := by decide +kernel
theorem d_Pk_triedIsLower_34 : decode b_Pk_triedIsLower 34 = .ok (.iaload, 1) := by decide +kernel
theorem d_Pk_triedIsLower_35 : decode b_Pk_triedIsLower 35 = .ok (.if_icmp .ge 7, 3) := by decide +kernel
theorem d_Pk_triedIsLower_38 : decode b_Pk_triedIsLower 38 = .ok (.iconst 1, 1) := by decide +kernel
theorem d_Pk_triedIsLower_39 : decode b_Pk_triedIsLower 39 = .ok (.goto 4, 3) := by decide +kernel
theorem d_Pk_triedIsLower_42 : decode b_Pk_triedIsLower 42 = .ok (.iconst 0, 1) := by decide +kernel
theorem d_Pk_triedIsLower_43 : decode b_Pk_triedIsLower 43 = .ok (.ireturn, 1) := by decide +kernel
theorem d_Pk_triedIsLower_44 : decode b_Pk_triedIsLower 44 = .ok (.iinc 1 1, 3) := by decide +kernel
theorem d_Pk_triedIsLower_47 : decode b_Pk_triedIsLower 47 = .ok (.goto (-45), 3) := by decide +kernel
theorem d_Pk_triedIsLower_50 : decode b_Pk_triedIsLower 50 = .ok (.iconst 0, 1) := by decide +kernel
theorem d_Pk_triedIsLower_51 : decode b_Pk_triedIsLower 51 = .ok (.ireturn, 1) := by decide +kernel
theorem d_Pk_keep_0 : decode b_Pk_keep 0 = .ok (.aload_n 0, 1) := by decide +kernel
theorem d_Pk_keep_1 : decode b_Pk_keep 1 = .ok (.getfield 9, 3) := by decide +kernel
theorem d_Pk_keep_4 : decode b_Pk_keep 4 = .ok (.iconst 0, 1) := by decide +kernel
theorem d_Pk_keep_5 : decode b_Pk_keep 5 = .ok (.iload_n 1, 1) := by decide +kernel
theorem d_Pk_keep_6 : decode b_Pk_keep 6 = .ok (.iastore, 1) := by decide +kernel
theorem d_Pk_keep_7 : decode b_Pk_keep 7 = .ok (.aload_n 0, 1) := by decide +kernel
theorem d_Pk_keep_8 : decode b_Pk_keep 8 = .ok (.getfield 9, 3) := by decide +kernel
theorem d_Pk_keep_11 : decode b_Pk_keep 11 = .ok (.iconst 1, 1) := by decide +kernel
theorem d_Pk_keep_12 : decode b_Pk_keep 12 = .ok (.iload_n 2, 1) := by decide +kernel
theorem d_Pk_keep_13 : decode b_Pk_keep 13 = .ok (.iastore, 1) := by decide +kernel
theorem d_Pk_keep_14 : decode b_Pk_keep 14 = .ok (.aload_n 0, 1) := by decide +kernel
theorem d_Pk_keep_15 : decode b_Pk_keep 15 = .ok (.getfield 9, 3) := by decide +kernel
theorem d_Pk_keep_18 : decode b_Pk_keep 18 = .ok (.iconst 2, 1) := by decide +kernel
theorem d_Pk_keep_19 : decode b_Pk_keep 19 = .ok (.iload_n 3, 1) := by decide +kernel
theorem d_Pk_keep_20 : decode b_Pk_keep 20 = .ok (.iastore, 1) := by decide +kernel
theorem d_Pk_keep_21 : decode b_Pk_keep 21 = .ok (.aload_n 0, 1) := by decide +kernel
theorem d_Pk_keep_22 : decode b_Pk_keep 22 = .ok (.getfield 21, 3) := by decide +kernel
theorem d_Pk_keep_25 : decode b_Pk_keep 25 = .ok (.iconst 0, 1) := by decide +kernel
theorem d_Pk_keep_26 : decode b_Pk_keep 26 = .ok (.aload_n 0, 1) := by decide +kernel
theorem d_Pk_keep_27 : decode b_Pk_keep 27 = .ok (.getfield 15, 3) := by decide +kernel
theorem d_Pk_keep_30 : decode b_Pk_keep 30 = .ok (.iconst 0, 1) := by decide +kernel
theorem d_Pk_keep_31 : decode b_Pk_keep 31 = .ok (.bipush 6, 2) := by decide +kernel
theorem d_Pk_keep_33 : decode b_Pk_keep 33 = .ok (.invokestatic 118, 3) := by decide +kernel
theorem d_Pk_keep_36 : decode b_Pk_keep 36 = .ok (.return_, 1) := by decide +kernel
theorem d_Pk_placeInRow_0 : decode b_Pk_placeInRow 0 = .ok (.aload_n 0, 1) := by decide +kernel
theorem d_Pk_placeInRow_1 : decode b_Pk_placeInRow 1 = .ok (.getfield 61, 3) := by decide +kernel
theorem d_Pk_placeInRow_4 : decode b_Pk_placeInRow 4 = .ok (.istore_n 2, 1) := by decide +kernel
theorem d_Pk_placeInRow_5 : decode b_Pk_placeInRow 5 = .ok (.iconst 0, 1) := by decide +kernel
theorem d_Pk_placeInRow_6 : decode b_Pk_placeInRow 6 = .ok (.istore_n 3, 1) := by decide +kernel
theorem d_Pk_placeInRow_7 : decode b_Pk_placeInRow 7 = .ok (.iload_n 3, 1) := by decide +kernel
theorem d_Pk_placeInRow_8 : decode b_Pk_placeInRow 8 = .ok (.bipush 6, 2) := by decide +kernel
theorem d_Pk_placeInRow_10 : decode b_Pk_placeInRow 10 = .ok (.if_icmp .ge 56, 3) := by decide +kernel
theorem d_Pk_placeInRow_13 : decode b_Pk_placeInRow 13 = .ok (.aload_n 0, 1) := by decide +kernel
theorem d_Pk_placeInRow_14 : decode b_Pk_placeInRow 14 = .ok (.getfield 15, 3) := by decide +kernel
theorem d_Pk_placeInRow_17 : decode b_Pk_placeInRow 17 = .ok (.iload_n 3, 1) := by decide +kernel
theorem d_Pk_placeInRow_18 : decode b_Pk_placeInRow 18 = .ok (.iaload, 1) := by decide +kernel
theorem d_Pk_placeInRow_19 : decode b_Pk_placeInRow 19 = .ok (.iconst (-1), 1) := by decide +kernel
theorem d_Pk_placeInRow_20 : decode b_Pk_placeInRow 20 = .ok (.if_icmp .ne 13, 3) := by decide +kernel
theorem d_Pk_placeInRow_23 : decode b_Pk_placeInRow 23 = .ok (.aload_n 0, 1) := by decide +kernel
theorem d_Pk_placeInRow_24 : decode b_Pk_placeInRow 24 = .ok (.getfield 18, 3) := by decide +kernel
theorem d_Pk_placeInRow_27 : decode b_Pk_placeInRow 27 = .ok (.iload_n 3, 1) := by decide +kernel
theorem d_Pk_placeInRow_28 : decode b_Pk_placeInRow 28 = .ok (.iconst (-1), 1) := by decide +kernel
theorem d_Pk_placeInRow_29 : decode b_Pk_placeInRow 29 = .ok (.iastore, 1) := by decide +kernel
theorem d_Pk_placeInRow_30 : decode b_Pk_placeInRow 30 = .ok (.goto 30, 3) := by decide +kernel
theorem d_Pk_placeInRow_33 : decode b_Pk_placeInRow 33 = .ok (.aload_n 0, 1) := by decide +kernel
theorem d_Pk_placeInRow_34 : decode b_Pk_placeInRow 34 = .ok (.getfield 18, 3) := by decide +kernel
theorem d_Pk_placeInRow_37 : decode b_Pk_placeInRow 37 = .ok (.iload_n 3, 1) := by decide +kernel
theorem d_Pk_placeInRow_38 : decode b_Pk_placeInRow 38 = .ok (.iload_n 2, 1) := by decide +kernel
theorem d_Pk_placeInRow_39 : decode b_Pk_placeInRow 39 = .ok (.iastore, 1) := by decide +kernel
theorem d_Pk_placeInRow_40 : decode b_Pk_placeInRow 40 = .ok (.iload_n 2, 1) := by decide +kernel
theorem d_Pk_placeInRow_41 : decode b_Pk_placeInRow 41 = .ok (.aload_n 1, 1) := by decide +kernel
theorem d_Pk_placeInRow_42 : decode b_Pk_placeInRow 42 = .ok (.iload_n 3, 1) := by decide +kernel
theorem d_Pk_placeInRow_43 : decode b_Pk_placeInRow 43 = .ok (.aload_n 0, 1) := by decide +kernel
theorem d_Pk_placeInRow_44 : decode b_Pk_placeInRow 44 = .ok (.getfield 15, 3) := by decide +kernel
theorem d_Pk_placeInRow_47 : decode b_Pk_placeInRow 47 = .ok (.iload_n 3, 1) := by decide +kernel
theorem d_Pk_placeInRow_48 : decode b_Pk_placeInRow 48 = .ok (.iaload, 1) := by decide +kernel
theorem d_Pk_placeInRow_49 : decode b_Pk_placeInRow 49 = .ok (.iconst 0, 1) := by decide +kernel
theorem d_Pk_placeInRow_50 : decode b_Pk_placeInRow 50 = .ok (.invokevirtual 108, 3) := by decide +kernel
theorem d_Pk_placeInRow_53 : decode b_Pk_placeInRow 53 = .ok (.aload_n 0, 1) := by decide +kernel
theorem d_Pk_placeInRow_54 : decode b_Pk_placeInRow 54 = .ok (.getfield 61, 3) := by decide +kernel
theorem d_Pk_placeInRow_57 : decode b_Pk_placeInRow 57 = .ok (.iadd, 1) := by decide +kernel
theorem d_Pk_placeInRow_58 : decode b_Pk_placeInRow 58 = .ok (.iadd, 1) := by decide +kernel
theorem d_Pk_placeInRow_59 : decode b_Pk_placeInRow 59 = .ok (.istore_n 2, 1) := by decide +kernel
theorem d_Pk_placeInRow_60 : decode b_Pk_placeInRow 60 = .ok (.iinc 3 1, 3) := by decide +kernel
theorem d_Pk_placeInRow_63 : decode b_Pk_placeInRow 63 = .ok (.goto (-56), 3) := by decide +kernel
theorem d_Pk_placeInRow_66 : decode b_Pk_placeInRow 66 = .ok (.return_, 1) := by decide +kernel
theorem d_In_bitCount_0 : decode b_In_bitCount 0 = .ok (.iload_n 0, 1) := by decide +kernel
theorem d_In_bitCount_1 : decode b_In_bitCount 1 = .ok (.iload_n 0, 1) := by decide +kernel
theorem d_In_bitCount_2 : decode b_In_bitCount 2 = .ok (.iconst 1, 1) := by decide +kernel
theorem d_In_bitCount_3 : decode b_In_bitCount 3 = .ok (.iushr, 1) := by decide +kernel
theorem d_In_bitCount_4 : decode b_In_bitCount 4 = .ok (.ldc_w 265, 3) := by decide +kernel
theorem d_In_bitCount_7 : decode b_In_bitCount 7 = .ok (.iand, 1) := by decide +kernel
theorem d_In_bitCount_8 : decode b_In_bitCount 8 = .ok (.isub, 1) := by decide +kernel
theorem d_In_bitCount_9 : decode b_In_bitCount 9 = .ok (.istore_n 0, 1) := by decide +kernel
theorem d_In_bitCount_10 : decode b_In_bitCount 10 = .ok (.iload_n 0, 1) := by decide +kernel
theorem d_In_bitCount_11 : decode b_In_bitCount 11 = .ok (.ldc_w 266, 3) := by decide +kernel
theorem d_In_bitCount_14 : decode b_In_bitCount 14 = .ok (.iand, 1) := by decide +kernel
theorem d_In_bitCount_15 : decode b_In_bitCount 15 = .ok (.iload_n 0, 1) := by decide +kernel
theorem d_In_bitCount_16 : decode b_In_bitCount 16 = .ok (.iconst 2, 1) := by decide +kernel
theorem d_In_bitCount_17 : decode b_In_bitCount 17 = .ok (.iushr, 1) := by decide +kernel
theorem d_In_bitCount_18 : decode b_In_bitCount 18 = .ok (.ldc_w 266, 3) := by decide +kernel
theorem d_In_bitCount_21 : decode b_In_bitCount 21 = .ok (.iand, 1) := by decide +kernel
theorem d_In_bitCount_22 : decode b_In_bitCount 22 = .ok (.iadd, 1) := by decide +kernel
theorem d_In_bitCount_23 : decode b_In_bitCount 23 = .ok (.istore_n 0, 1) := by decide +kernel
theorem d_In_bitCount_24 : decode b_In_bitCount 24 = .ok (.iload_n 0, 1) := by decide +kernel
theorem d_In_bitCount_25 : decode b_In_bitCount 25 = .ok (.iload_n 0, 1) := by decide +kernel
theorem d_In_bitCount_26 : decode b_In_bitCount 26 = .ok (.iconst 4, 1) := by decide +kernel
theorem d_In_bitCount_27 : decode b_In_bitCount 27 = .ok (.iushr, 1) := by decide +kernel
theorem d_In_bitCount_28 : decode b_In_bitCount 28 = .ok (.iadd, 1) := by decide +kernel
theorem d_In_bitCount_29 : decode b_In_bitCount 29 = .ok (.ldc_w 267, 3) := by decide +kernel
theorem d_In_bitCount_32 : decode b_In_bitCount 32 = .ok (.iand, 1) := by decide +kernel
theorem d_In_bitCount_33 : decode b_In_bitCount 33 = .ok (.istore_n 0, 1) := by decide +kernel
theorem d_In_bitCount_34 : decode b_In_bitCount 34 = .ok (.iload_n 0, 1) := by decide +kernel
theorem d_In_bitCount_35 : decode b_In_bitCount 35 = .ok (.iload_n 0, 1) := by decide +kernel
theorem d_In_bitCount_36 : decode b_In_bitCount 36 = .ok (.bipush 8, 2) := by decide +kernel
theorem d_In_bitCount_38 : decode b_In_bitCount 38 = .ok (.iushr, 1) := by decide +kernel
theorem d_In_bitCount_39 : decode b_In_bitCount 39 = .ok (.iadd, 1) := by decide +kernel
theorem d_In_bitCount_40 : decode b_In_bitCount 40 = .ok (.istore_n 0, 1) := by decide +kernel
theorem d_In_bitCount_41 : decode b_In_bitCount 41 = .ok (.iload_n 0, 1) := by decide +kernel
theorem d_In_bitCount_42 : decode b_In_bitCount 42 = .ok (.iload_n 0, 1) := by decide +kernel
theorem d_In_bitCount_43 : decode b_In_bitCount 43 = .ok (.bipush 16, 2) := by decide +kernel
theorem d_In_bitCount_45 : decode b_In_bitCount 45 = .ok (.iushr, 1) := by decide +kernel
theorem d_In_bitCount_46 : decode b_In_bitCount 46 = .ok (.iadd, 1) := by decide +kernel
theorem d_In_bitCount_47 : decode b_In_bitCount 47 = .ok (.istore_n 0, 1) := by decide +kernel
theorem d_In_bitCount_48 : decode b_In_bitCount 48 = .ok (.iload_n 0, 1) := by decide +kernel
theorem d_In_bitCount_49 : decode b_In_bitCount 49 = .ok (.bipush 63, 2) := by decide +kernel
theorem d_In_bitCount_51 : decode b_In_bitCount 51 = .ok (.iand, 1) := by decide +kernel
theorem d_In_bitCount_52 : decode b_In_bitCount 52 = .ok (.ireturn, 1) := by decide +kernel
theorem d_La_size_0 : decode b_La_size 0 = .ok (.aload_n 2, 1) := by decide +kernel
theorem d_La_size_1 : decode b_La_size 1 = .ok (.iconst 0, 1) := by decide +kernel
theorem d_La_size_2 : decode b_La_size 2 = .ok (.aload_n 0, 1) := by decide +kernel
theorem d_La_size_3 : decode b_La_size 3 = .ok (.iload_n 1, 1) := by decide +kernel
theorem d_La_size_4 : decode b_La_size 4 = .ok (.invokevirtual 40, 3) := by decide +kernel
theorem d_La_size_7 : decode b_La_size 7 = .ok (.i2l, 1) := by decide +kernel
theorem d_La_size_8 : decode b_La_size 8 = .ok (.lastore, 1) := by decide +kernel
theorem d_La_size_9 : decode b_La_size 9 = .ok (.goto 9, 3) := by decide +kernel
theorem d_La_size_12 : decode b_La_size 12 = .ok (.astore_n 3, 1) := by decide +kernel
theorem d_La_size_13 : decode b_La_size 13 = .ok (.iconst 1, 1) := by decide +kernel
theorem d_La_size_14 : decode b_La_size 14 = .ok (.ireturn, 1) := by decide +kernel
theorem d_La_size_15 : decode b_La_size 15 = .ok (.astore_n 3, 1) := by decide +kernel
theorem d_La_size_16 : decode b_La_size 16 = .ok (.iconst 2, 1) := by decide +kernel
theorem d_La_size_17 : decode b_La_size 17 = .ok (.ireturn, 1) := by decide +kernel
theorem d_La_size_18 : decode b_La_size 18 = .ok (.iconst 0, 1) := by decide +kernel
theorem d_La_size_19 : decode b_La_size 19 = .ok (.ireturn, 1) := by decide +kernel
theorem d_Cc_size_0 : decode b_Cc_size 0 = .ok (.aload_n 0, 1) := by decide +kernel
theorem d_Cc_size_1 : decode b_Cc_size 1 = .ok (.getfield 26, 3) := by decide +kernel
theorem d_Cc_size_4 : decode b_Cc_size 4 = .ok (.iload_n 1, 1) := by decide +kernel
theorem d_Cc_size_5 : decode b_Cc_size 5 = .ok (.invokevirtual 84, 3) := by decide +kernel
theorem d_Cc_size_8 : decode b_Cc_size 8 = .ok (.ireturn, 1) := by decide +kernel
theorem d_Pk_sizeAlong_0 : decode b_Pk_sizeAlong 0 = .ok (.iload_n 1, 1) := by decide +kernel
theorem d_Pk_sizeAlong_1 : decode b_Pk_sizeAlong 1 = .ok (.iconst 3, 1) := by decide +kernel
theorem d_Pk_sizeAlong_2 : decode b_Pk_sizeAlong 2 = .ok (.invokestatic 77, 3) := by decide +kernel
theorem d_Pk_sizeAlong_5 : decode b_Pk_sizeAlong 5 = .ok (.aload_n 0, 1) := by decide +kernel
theorem d_Pk_sizeAlong_6 : decode b_Pk_sizeAlong 6 = .ok (.invokevirtual 81, 3) := by decide +kernel
theorem d_Pk_sizeAlong_9 : decode b_Pk_sizeAlong 9 = .ok (.aload_n 0, 1) := by decide +kernel
theorem d_Pk_sizeAlong_10 : decode b_Pk_sizeAlong 10 = .ok (.getfield 9, 3) := by decide +kernel
theorem d_Pk_sizeAlong_13 : decode b_Pk_sizeAlong 13 = .ok (.iload_n 1, 1) := by decide +kernel
theorem d_Pk_sizeAlong_14 : decode b_Pk_sizeAlong 14 = .ok (.iaload, 1) := by decide +kernel
theorem d_Pk_sizeAlong_15 : decode b_Pk_sizeAlong 15 = .ok (.ireturn, 1) := by decide +kernel
theorem d_Pk_requirePacked_0 : decode b_Pk_requirePacked 0 = .ok (.aload_n 0, 1) := by decide +kernel
theorem d_Pk_requirePacked_1 : decode b_Pk_requirePacked 1 = .ok (.getfield 24, 3) := by decide +kernel
theorem d_Pk_requirePacked_4 : decode b_Pk_requirePacked 4 = .ok (.ifCond .ne 13, 3) := by decide +kernel
theorem d_Pk_requirePacked_7 : decode b_Pk_requirePacked 7 = .ok (.new 86, 3) := by decide +kernel
theorem d_Pk_requirePacked_10 : decode b_Pk_requirePacked 10 = .ok (.dup, 1) := by decide +kernel
theorem d_Pk_requirePacked_11 : decode b_Pk_requirePacked 11 = .ok (.ldc 88, 2) := by decide +kernel
theorem d_Pk_requirePacked_13 : decode b_Pk_requirePacked 13 = .ok (.invokespecial 90, 3) := by decide +kernel
theorem d_Pk_requirePacked_16 : decode b_Pk_requirePacked 16 = .ok (.athrow, 1) := by decide +kernel
theorem d_Pk_requirePacked_17 : decode b_Pk_requirePacked 17 = .ok (.return_, 1) := by decide +kernel
theorem d_La_at_0 : decode b_La_at 0 = .ok (.aload_n 3, 1) := by decide +kernel
theorem d_La_at_1 : decode b_La_at 1 = .ok (.iconst 0, 1) := by decide +kernel
theorem d_La_at_2 : decode b_La_at 2 = .ok (.aload_n 0, 1) := by decide +kernel
theorem d_La_at_3 : decode b_La_at 3 = .ok (.iload_n 1, 1) := by decide +kernel
theorem d_La_at_4 : decode b_La_at 4 = .ok (.iload_n 2, 1) := by decide +kernel
theorem d_La_at_5 : decode b_La_at 5 = .ok (.invokevirtual 44, 3) := by decide +kernel
theorem d_La_at_8 : decode b_La_at 8 = .ok (.i2l, 1) := by decide +kernel
theorem d_La_at_9 : decode b_La_at 9 = .ok (.lastore, 1) := by decide +kernel
theorem d_La_at_10 : decode b_La_at 10 = .ok (.goto 11, 3) := by decide +kernel
theorem d_La_at_13 : decode b_La_at 13 = .ok (.astore 4, 2) := by decide +kernel
theorem d_La_at_15 : decode b_La_at 15 = .ok (.iconst 1, 1) := by decide +kernel
theorem d_La_at_16 : decode b_La_at 16 = .ok (.ireturn, 1) := by decide +kernel
theorem d_La_at_17 : decode b_La_at 17 = .ok (.astore 4, 2) := by decide +kernel
theorem d_La_at_19 : decode b_La_at 19 = .ok (.iconst 2, 1) := by decide +kernel
theorem d_La_at_20 : decode b_La_at 20 = .ok (.ireturn, 1) := by decide +kernel
theorem d_La_at_21 : decode b_La_at 21 = .ok (.iconst 0, 1) := by decide +kernel
theorem d_La_at_22 : decode b_La_at 22 = .ok (.ireturn, 1) := by decide +kernel
theorem d_Cc_at_0 : decode b_Cc_at 0 = .ok (.iload_n 1, 1) := by decide +kernel
theorem d_Cc_at_1 : decode b_Cc_at 1 = .ok (.aload_n 0, 1) := by decide +kernel
theorem d_Cc_at_2 : decode b_Cc_at 2 = .ok (.getfield 10, 3) := by decide +kernel
theorem d_Cc_at_5 : decode b_Cc_at 5 = .ok (.getfield 88, 3) := by decide +kernel
theorem d_Cc_at_8 : decode b_Cc_at 8 = .ok (.invokestatic 92, 3) := by decide +kernel
theorem d_Cc_at_11 : decode b_Cc_at 11 = .ok (.aload_n 0, 1) := by decide +kernel
theorem d_Cc_at_12 : decode b_Cc_at 12 = .ok (.getfield 26, 3) := by decide +kernel
theorem d_Cc_at_15 : decode b_Cc_at 15 = .ok (.iload_n 1, 1) := by decide +kernel
theorem d_Cc_at_16 : decode b_Cc_at 16 = .ok (.iload_n 2, 1) := by decide +kernel
theorem d_Cc_at_17 : decode b_Cc_at 17 = .ok (.invokevirtual 96, 3) := by decide +kernel
theorem d_Cc_at_20 : decode b_Cc_at 20 = .ok (.ireturn, 1) := by decide +kernel
theorem d_Pk_tell_0 : decode b_Pk_tell 0 = .ok (.iload_n 1, 1) := by decide +kernel
theorem d_Pk_tell_1 : decode b_Pk_tell 1 = .ok (.bipush 6, 2) := by decide +kernel
theorem d_Pk_tell_3 : decode b_Pk_tell 3 = .ok (.invokestatic 77, 3) := by decide +kernel
theorem d_Pk_tell_6 : decode b_Pk_tell 6 = .ok (.iload_n 2, 1) := by decide +kernel
theorem d_Pk_tell_7 : decode b_Pk_tell 7 = .ok (.iconst (-1), 1) := by decide +kernel
theorem d_Pk_tell_8 : decode b_Pk_tell 8 = .ok (.if_icmp .eq 17, 3) := by decide +kernel
theorem d_Pk_tell_11 : decode b_Pk_tell 11 = .ok (.iload_n 2, 1) := by decide +kernel
theorem d_Pk_tell_12 : decode b_Pk_tell 12 = .ok (.ifCond .eq 13, 3) := by decide +kernel
theorem d_Pk_tell_15 : decode b_Pk_tell 15 = .ok (.new 34, 3) := by decide +kernel
theorem d_Pk_tell_18 : decode b_Pk_tell 18 = .ok (.dup, 1) := by decide +kernel
theorem d_Pk_tell_19 : decode b_Pk_tell 19 = .ok (.ldc 84, 2) := by decide +kernel
theorem d_Pk_tell_21 : decode b_Pk_tell 21 = .ok (.invokespecial 38, 3) := by decide +kernel
theorem d_Pk_tell_24 : decode b_Pk_tell 24 = .ok (.athrow, 1) := by decide +kernel
theorem d_Pk_tell_25 : decode b_Pk_tell 25 = .ok (.aload_n 0, 1) := by decide +kernel
theorem d_Pk_tell_26 : decode b_Pk_tell 26 = .ok (.invokevirtual 81, 3) := by decide +kernel
theorem d_Pk_tell_29 : decode b_Pk_tell 29 = .ok (.iload_n 2, 1) := by decide +kernel
theorem d_Pk_tell_30 : decode b_Pk_tell 30 = .ok (.iconst (-1), 1) := by decide +kernel
theorem d_Pk_tell_31 : decode b_Pk_tell 31 = .ok (.if_icmp .ne 12, 3) := by decide +kernel
theorem d_Pk_tell_34 : decode b_Pk_tell 34 = .ok (.aload_n 0, 1) := by decide +kernel
theorem d_Pk_tell_35 : decode b_Pk_tell 35 = .ok (.getfield 15, 3) := by decide +kernel
theorem d_Pk_tell_38 : decode b_Pk_tell 38 = .ok (.iload_n 1, 1) := by decide +kernel
theorem d_Pk_tell_39 : decode b_Pk_tell 39 = .ok (.iaload, 1) := by decide +kernel
theorem d_Pk_tell_40 : decode b_Pk_tell 40 = .ok (.goto 9, 3) := by decide +kernel
theorem d_Pk_tell_43 : decode b_Pk_tell 43 = .ok (.aload_n 0, 1) := by decide +kernel
theorem d_Pk_tell_44 : decode b_Pk_tell 44 = .ok (.getfield 18, 3) := by decide +kernel
theorem d_Pk_tell_47 : decode b_Pk_tell 47 = .ok (.iload_n 1, 1) := by decide +kernel
theorem d_Pk_tell_48 : decode b_Pk_tell 48 = .ok (.iaload, 1) := by decide +kernel
theorem d_Pk_tell_49 : decode b_Pk_tell 49 = .ok (.ireturn, 1) := by decide +kernel
theorem d_La_crate_0 : decode b_La_crate 0 = .ok (.aload 4, 2) := by decide +kernel
theorem d_La_crate_2 : decode b_La_crate 2 = .ok (.iconst 0, 1) := by decide +kernel
theorem d_La_crate_3 : decode b_La_crate 3 = .ok (.aload_n 0, 1) := by decide +kernel
theorem d_La_crate_4 : decode b_La_crate 4 = .ok (.iload_n 1, 1) := by decide +kernel
theorem d_La_crate_5 : decode b_La_crate 5 = .ok (.iload_n 2, 1) := by decide +kernel
theorem d_La_crate_6 : decode b_La_crate 6 = .ok (.iload_n 3, 1) := by decide +kernel
theorem d_La_crate_7 : decode b_La_crate 7 = .ok (.invokevirtual 47, 3) := by decide +kernel
theorem d_La_crate_10 : decode b_La_crate 10 = .ok (.i2l, 1) := by decide +kernel
theorem d_La_crate_11 : decode b_La_crate 11 = .ok (.lastore, 1) := by decide +kernel
theorem d_La_crate_12 : decode b_La_crate 12 = .ok (.goto 11, 3) := by decide +kernel
theorem d_La_crate_15 : decode b_La_crate 15 = .ok (.astore 5, 2) := by decide +kernel
theorem d_La_crate_17 : decode b_La_crate 17 = .ok (.iconst 1, 1) := by decide +kernel
theorem d_La_crate_18 : decode b_La_crate 18 = .ok (.ireturn, 1) := by decide +kernel
theorem d_La_crate_19 : decode b_La_crate 19 = .ok (.astore 5, 2) := by decide +kernel
theorem d_La_crate_21 : decode b_La_crate 21 = .ok (.iconst 2, 1) := by decide +kernel
theorem d_La_crate_22 : decode b_La_crate 22 = .ok (.ireturn, 1) := by decide +kernel
theorem d_La_crate_23 : decode b_La_crate 23 = .ok (.iconst 0, 1) := by decide +kernel
theorem d_La_crate_24 : decode b_La_crate 24 = .ok (.ireturn, 1) := by decide +kernel
theorem d_Cc_crate_0 : decode b_Cc_crate 0 = .ok (.aload_n 0, 1) := by decide +kernel
theorem d_Cc_crate_1 : decode b_Cc_crate 1 = .ok (.getfield 33, 3) := by decide +kernel
theorem d_Cc_crate_4 : decode b_Cc_crate 4 = .ok (.iload_n 1, 1) := by decide +kernel
theorem d_Cc_crate_5 : decode b_Cc_crate 5 = .ok (.iload_n 2, 1) := by decide +kernel
theorem d_Cc_crate_6 : decode b_Cc_crate 6 = .ok (.iload_n 3, 1) := by decide +kernel
theorem d_Cc_crate_7 : decode b_Cc_crate 7 = .ok (.invokevirtual 99, 3) := by decide +kernel
theorem d_Cc_crate_10 : decode b_Cc_crate 10 = .ok (.ireturn, 1) := by decide +kernel
theorem d_Sk_add_0 : decode b_Sk_add 0 = .ok (.aload_n 0, 1) := by decide +kernel
theorem d_Sk_add_1 : decode b_Sk_add 1 = .ok (.getfield 25, 3) := by decide +kernel
theorem d_Sk_add_4 : decode b_Sk_add 4 = .ok (.bipush 10, 2) := by decide +kernel
theorem d_Sk_add_6 : decode b_Sk_add 6 = .ok (.invokestatic 29, 3) := by decide +kernel
theorem d_Sk_add_9 : decode b_Sk_add 9 = .ok (.iload_n 1, 1) := by decide +kernel
theorem d_Sk_add_10 : decode b_Sk_add 10 = .ok (.iconst 1, 1) := by decide +kernel
theorem d_Sk_add_11 : decode b_Sk_add 11 = .ok (.sipush 2000, 3) := by decide +kernel
theorem d_Sk_add_14 : decode b_Sk_add 14 = .ok (.invokestatic 33, 3) := by decide +kernel
theorem d_Sk_add_17 : decode b_Sk_add 17 = .ok (.iload_n 2, 1) := by decide +kernel
theorem d_Sk_add_18 : decode b_Sk_add 18 = .ok (.iconst 1, 1) := by decide +kernel
theorem d_Sk_add_19 : decode b_Sk_add 19 = .ok (.sipush 2000, 3) := by decide +kernel
theorem d_Sk_add_22 : decode b_Sk_add 22 = .ok (.invokestatic 33, 3) := by decide +kernel
theorem d_Sk_add_25 : decode b_Sk_add 25 = .ok (.iload_n 3, 1) := by decide +kernel
theorem d_Sk_add_26 : decode b_Sk_add 26 = .ok (.iconst 1, 1) := by decide +kernel
theorem d_Sk_add_27 : decode b_Sk_add 27 = .ok (.sipush 2000, 3) := by decide +kernel
theorem d_Sk_add_30 : decode b_Sk_add 30 = .ok (.invokestatic 33, 3) := by decide +kernel
theorem d_Sk_add_33 : decode b_Sk_add 33 = .ok (.aload_n 0, 1) := by decide +kernel
theorem d_Sk_add_34 : decode b_Sk_add 34 = .ok (.getfield 9, 3) := by decide +kernel
theorem d_Sk_add_37 : decode b_Sk_add 37 = .ok (.aload_n 0, 1) := by decide +kernel
theorem d_Sk_add_38 : decode b_Sk_add 38 = .ok (.getfield 25, 3) := by decide +kernel
theorem d_Sk_add_41 : decode b_Sk_add 41 = .ok (.iload_n 1, 1) := by decide +kernel
theorem d_Sk_add_42 : decode b_Sk_add 42 = .ok (.iastore, 1) := by decide +kernel
theorem d_Sk_add_43 : decode b_Sk_add 43 = .ok (.aload_n 0, 1) := by decide +kernel
theorem d_Sk_add_44 : decode b_Sk_add 44 = .ok (.getfield 15, 3) := by decide +kernel
theorem d_Sk_add_47 : decode b_Sk_add 47 = .ok (.aload_n 0, 1) := by decide +kernel
theorem d_Sk_add_48 : decode b_Sk_add 48 = .ok (.getfield 25, 3) := by decide +kernel
theorem d_Sk_add_51 : decode b_Sk_add 51 = .ok (.iload_n 2, 1) := by decide +kernel
theorem d_Sk_add_52 : decode b_Sk_add 52 = .ok (.iastore, 1) := by decide +kernel
theorem d_Sk_add_53 : decode b_Sk_add 53 = .ok (.aload_n 0, 1) := by decide +kernel
theorem d_Sk_add_54 : decode b_Sk_add 54 = .ok (.getfield 18, 3) := by decide +kernel
theorem d_Sk_add_57 : decode b_Sk_add 57 = .ok (.aload_n 0, 1) := by decide +kernel
theorem d_Sk_add_58 : decode b_Sk_add 58 = .ok (.getfield 25, 3) := by decide +kernel
theorem d_Sk_add_61 : decode b_Sk_add 61 = .ok (.iload_n 3, 1) := by decide +kernel
theorem d_Sk_add_62 : decode b_Sk_add 62 = .ok (.iastore, 1) := by decide +kernel
theorem d_Sk_add_63 : decode b_Sk_add 63 = .ok (.aload_n 0, 1) := by decide +kernel
theorem d_Sk_add_64 : decode b_Sk_add 64 = .ok (.dup, 1) := by decide +kernel
theorem d_Sk_add_65 : decode b_Sk_add 65 = .ok (.getfield 25, 3) := by decide +kernel
theorem d_Sk_add_68 : decode b_Sk_add 68 = .ok (.iconst 1, 1) := by decide +kernel
theorem d_Sk_add_69 : decode b_Sk_add 69 = .ok (.iadd, 1) := by decide +kernel
theorem d_Sk_add_70 : decode b_Sk_add 70 = .ok (.putfield 25, 3) := by decide +kernel
theorem d_Sk_add_73 : decode b_Sk_add 73 = .ok (.aload_n 0, 1) := by decide +kernel
theorem d_Sk_add_74 : decode b_Sk_add 74 = .ok (.getfield 25, 3) := by decide +kernel
theorem d_Sk_add_77 : decode b_Sk_add 77 = .ok (.iconst 1, 1) := by decide +kernel
theorem d_Sk_add_78 : decode b_Sk_add 78 = .ok (.isub, 1) := by decide +kernel
theorem d_Sk_add_79 : decode b_Sk_add 79 = .ok (.ireturn, 1) := by decide +kernel
theorem d_La_match_0 : decode b_La_match 0 = .ok (.aload_n 1, 1) := by decide +kernel
theorem d_La_match_1 : decode b_La_match 1 = .ok (.iconst 0, 1) := by decide +kernel
theorem d_La_match_2 : decode b_La_match 2 = .ok (.aload_n 0, 1) := by decide +kernel
theorem d_La_match_3 : decode b_La_match 3 = .ok (.invokevirtual 50, 3) := by decide +kernel
theorem d_La_match_6 : decode b_La_match 6 = .ok (.i2l, 1) := by decide +kernel
theorem d_La_match_7 : decode b_La_match 7 = .ok (.lastore, 1) := by decide +kernel
theorem d_La_match_8 : decode b_La_match 8 = .ok (.goto 6, 3) := by decide +kernel
theorem d_La_match_11 : decode b_La_match 11 = .ok (.astore_n 2, 1) := by decide +kernel
theorem d_La_match_12 : decode b_La_match 12 = .ok (.iconst 1, 1) := by decide +kernel
theorem d_La_match_13 : decode b_La_match 13 = .ok (.ireturn, 1) := by decide +kernel
theorem d_La_match_14 : decode b_La_match 14 = .ok (.iconst 0, 1) := by decide +kernel
theorem d_La_match_15 : decode b_La_match 15 = .ok (.ireturn, 1) := by decide +kernel
theorem d_Cc_match_0 : decode b_Cc_match 0 = .ok (.aload_n 0, 1) := by decide +kernel
theorem d_Cc_match_1 : decode b_Cc_match 1 = .ok (.getfield 33, 3) := by decide +kernel
theorem d_Cc_match_4 : decode b_Cc_match 4 = .ok (.aload_n 0, 1) := by decide +kernel
theorem d_Cc_match_5 : decode b_Cc_match 5 = .ok (.getfield 26, 3) := by decide +kernel
theorem d_Cc_match_8 : decode b_Cc_match 8 = .ok (.iconst 0, 1) := by decide +kernel
theorem d_Cc_match_9 : decode b_Cc_match 9 = .ok (.invokevirtual 84, 3) := by decide +kernel
theorem d_Cc_match_12 : decode b_Cc_match 12 = .ok (.aload_n 0, 1) := by decide +kernel
theorem d_Cc_match_13 : decode b_Cc_match 13 = .ok (.getfield 26, 3) := by decide +kernel
theorem d_Cc_match_16 : decode b_Cc_match 16 = .ok (.iconst 1, 1) := by decide +kernel
theorem d_Cc_match_17 : decode b_Cc_match 17 = .ok (.invokevirtual 84, 3) := by decide +kernel
theorem d_Cc_match_20 : decode b_Cc_match 20 = .ok (.aload_n 0, 1) := by decide +kernel
theorem d_Cc_match_21 : decode b_Cc_match 21 = .ok (.getfield 26, 3) := by decide +kernel
theorem d_Cc_match_24 : decode b_Cc_match 24 = .ok (.iconst 2, 1) := by decide +kernel
theorem d_Cc_match_25 : decode b_Cc_match 25 = .ok (.invokevirtual 84, 3) := by decide +kernel
theorem d_Cc_match_28 : decode b_Cc_match 28 = .ok (.invokevirtual 101, 3) := by decide +kernel
theorem d_Cc_match_31 : decode b_Cc_match 31 = .ok (.ireturn, 1) := by decide +kernel
theorem d_Sk_takeFor_0 : decode b_Sk_takeFor 0 = .ok (.iconst (-1), 1) := by decide +kernel
theorem d_Sk_takeFor_1 : decode b_Sk_takeFor 1 = .ok (.istore 4, 2) := by decide +kernel
theorem d_Sk_takeFor_3 : decode b_Sk_takeFor 3 = .ok (.ldc2_w 39, 3) := by decide +kernel
theorem d_Sk_takeFor_6 : decode b_Sk_takeFor 6 = .ok (.lstore 5, 2) := by decide +kernel
theorem d_Sk_takeFor_8 : decode b_Sk_takeFor 8 = .ok (.iconst 0, 1) := by decide +kernel
theorem d_Sk_takeFor_9 : decode b_Sk_takeFor 9 = .ok (.istore 7, 2) := by decide +kernel
theorem d_Sk_takeFor_11 : decode b_Sk_takeFor 11 = .ok (.iload 7, 2) := by decide +kernel
theorem d_Sk_takeFor_13 : decode b_Sk_takeFor 13 = .ok (.aload_n 0, 1) := by decide +kernel
theorem d_Sk_takeFor_14 : decode b_Sk_takeFor 14 = .ok (.getfield 25, 3) := by decide +kernel
theorem d_Sk_takeFor_17 : decode b_Sk_takeFor 17 = .ok (.if_icmp .ge 75, 3) := by decide +kernel
theorem d_Sk_takeFor_20 : decode b_Sk_takeFor 20 = .ok (.aload_n 0, 1) := by decide +kernel
theorem d_Sk_takeFor_21 : decode b_Sk_takeFor 21 = .ok (.getfield 9, 3) := by decide +kernel
theorem d_Sk_takeFor_24 : decode b_Sk_takeFor 24 = .ok (.iload 7, 2) := by decide +kernel
theorem d_Sk_takeFor_26 : decode b_Sk_takeFor 26 = .ok (.iaload, 1) := by decide +kernel
theorem d_Sk_takeFor_27 : decode b_Sk_takeFor 27 = .ok (.i2l, 1) := by decide +kernel
theorem d_Sk_takeFor_28 : decode b_Sk_takeFor 28 = .ok (.aload_n 0, 1) := by decide +kernel
theorem d_Sk_takeFor_29 : decode b_Sk_takeFor 29 = .ok (.getfield 15, 3) := by decide +kernel
theorem d_Sk_takeFor_32 : decode b_Sk_takeFor 32 = .ok (.iload 7, 2) := by decide +kernel
theorem d_Sk_takeFor_34 : decode b_Sk_takeFor 34 = .ok (.iaload, 1) := by decide +kernel
theorem d_Sk_takeFor_35 : decode b_Sk_takeFor 35 = .ok (.i2l, 1) := by decide +kernel
theorem d_Sk_takeFor_36 : decode b_Sk_takeFor 36 = .ok (.lmul, 1) := by decide +kernel
theorem d_Sk_takeFor_37 : decode b_Sk_takeFor 37 = .ok (.aload_n 0, 1) := by decide +kernel
theorem d_Sk_takeFor_38 : decode b_Sk_takeFor 38 = .ok (.getfield 18, 3) := by decide +kernel
theorem d_Sk_takeFor_41 : decode b_Sk_takeFor 41 = .ok (.iload 7, 2) := by decide +kernel
theorem d_Sk_takeFor_43 : decode b_Sk_takeFor 43 = .ok (.iaload, 1) := by decide +kernel
theorem d_Sk_takeFor_44 : decode b_Sk_takeFor 44 = .ok (.i2l, 1) := by decide +kernel
theorem d_Sk_takeFor_45 : decode b_Sk_takeFor 45 = .ok (.lmul, 1) := by decide +kernel
theorem d_Sk_takeFor_46 : decode b_Sk_takeFor 46 = .ok (.lstore 8, 2) := by decide +kernel
theorem d_Sk_takeFor_48 : decode b_Sk_takeFor 48 = .ok (.aload_n 0, 1) := by decide +kernel
theorem d_Sk_takeFor_49 : decode b_Sk_takeFor 49 = .ok (.getfield 21, 3) := by decide +kernel
theorem d_Sk_takeFor_52 : decode b_Sk_takeFor 52 = .ok (.iload 7, 2) := by decide +kernel
theorem d_Sk_takeFor_54 : decode b_Sk_takeFor 54 = .ok (.baload, 1) := by decide +kernel
theorem d_Sk_takeFor_55 : decode b_Sk_takeFor 55 = .ok (.ifCond .ne 31, 3) := by decide +kernel
theorem d_Sk_takeFor_58 : decode b_Sk_takeFor 58 = .ok (.aload_n 0, 1) := by decide +kernel
theorem d_Sk_takeFor_59 : decode b_Sk_takeFor 59 = .ok (.iload 7, 2) := by decide +kernel
theorem d_Sk_takeFor_61 : decode b_Sk_takeFor 61 = .ok (.iload_n 1, 1) := by decide +kernel
theorem d_Sk_takeFor_62 : decode b_Sk_takeFor 62 = .ok (.iload_n 2, 1) := by decide +kernel
theorem d_Sk_takeFor_63 : decode b_Sk_takeFor 63 = .ok (.iload_n 3, 1) := by decide +kernel
theorem d_Sk_takeFor_64 : decode b_Sk_takeFor 64 = .ok (.invokevirtual 41, 3) := by decide +kernel
theorem d_Sk_takeFor_67 : decode b_Sk_takeFor 67 = .ok (.ifCond .eq 19, 3) := by decide +kernel
theorem d_Sk_takeFor_70 : decode b_Sk_takeFor 70 = .ok (.lload 8, 2) := by decide +kernel
theorem d_Sk_takeFor_72 : decode b_Sk_takeFor 72 = .ok (.lload 5, 2) := by decide +kernel
theorem d_Sk_takeFor_74 : decode b_Sk_takeFor 74 = .ok (.lcmp, 1) := by decide +kernel
theorem d_Sk_takeFor_75 : decode b_Sk_takeFor 75 = .ok (.ifCond .ge 11, 3) := by decide +kernel
theorem d_Sk_takeFor_78 : decode b_Sk_takeFor 78 = .ok (.iload 7, 2) := by decide +kernel
theorem d_Sk_takeFor_80 : decode b_Sk_takeFor 80 = .ok (.istore 4, 2) := by decide +kernel
theorem d_Sk_takeFor_82 : decode b_Sk_takeFor 82 = .ok (.lload 8, 2) := by decide +kernel
theorem d_Sk_takeFor_84 : decode b_Sk_takeFor 84 = .ok (.lstore 5, 2) := by decide +kernel
theorem d_Sk_takeFor_86 : decode b_Sk_takeFor 86 = .ok (.iinc 7 1, 3) := by decide +kernel
theorem d_Sk_takeFor_89 : decode b_Sk_takeFor 89 = .ok (.goto (-78), 3) := by decide +kernel
theorem d_Sk_takeFor_92 : decode b_Sk_takeFor 92 = .ok (.iload 4, 2) := by decide +kernel
theorem d_Sk_takeFor_94 : decode b_Sk_takeFor 94 = .ok (.iconst (-1), 1) := by decide +kernel
theorem d_Sk_takeFor_95 : decode b_Sk_takeFor 95 = .ok (.if_icmp .eq 11, 3) := by decide +kernel
theorem d_Sk_takeFor_98 : decode b_Sk_takeFor 98 = .ok (.aload_n 0, 1) := by decide +kernel
theorem d_Sk_takeFor_99 : decode b_Sk_takeFor 99 = .ok (.getfield 21, 3) := by decide +kernel
theorem d_Sk_takeFor_102 : decode b_Sk_takeFor 102 = .ok (.iload 4, 2) := by decide +kernel
theorem d_Sk_takeFor_104 : decode b_Sk_takeFor 104 = .ok (.iconst 1, 1) := by decide +kernel
theorem d_Sk_takeFor_105 : decode b_Sk_takeFor 105 = .ok (.bastore, 1) := by decide +kernel
theorem d_Sk_takeFor_106 : decode b_Sk_takeFor 106 = .ok (.iload 4, 2) := by decide +kernel
theorem d_Sk_takeFor_108 : decode b_Sk_takeFor 108 = .ok (.ireturn, 1) := by decide +kernel
theorem d_Sk_hasRoom_0 : decode b_Sk_hasRoom 0 = .ok (.iload_n 2, 1) := by decide +kernel
theorem d_Sk_hasRoom_1 : decode b_Sk_hasRoom 1 = .ok (.aload_n 0, 1) := by decide +kernel
theorem d_Sk_hasRoom_2 : decode b_Sk_hasRoom 2 = .ok (.getfield 9, 3) := by decide +kernel
theorem d_Sk_hasRoom_5 : decode b_Sk_hasRoom 5 = .ok (.iload_n 1, 1) := by decide +kernel
theorem d_Sk_hasRoom_6 : decode b_Sk_hasRoom 6 = .ok (.iaload, 1) := by decide +kernel
theorem d_Sk_hasRoom_7 : decode b_Sk_hasRoom 7 = .ok (.if_icmp .gt 17, 3) := by decide +kernel
theorem d_Sk_hasRoom_10 : decode b_Sk_hasRoom 10 = .ok (.iload_n 3, 1) := by decide +kernel
theorem d_Sk_hasRoom_11 : decode b_Sk_hasRoom 11 = .ok (.aload_n 0, 1) := by decide +kernel
theorem d_Sk_hasRoom_12 : decode b_Sk_hasRoom 12 = .ok (.getfield 15, 3) := by decide +kernel
theorem d_Sk_hasRoom_15 : decode b_Sk_hasRoom 15 = .ok (.iload_n 1, 1) := by decide +kernel
theorem d_Sk_hasRoom_16 : decode b_Sk_hasRoom 16 = .ok (.iaload, 1) := by decide +kernel
theorem d_Sk_hasRoom_17 : decode b_Sk_hasRoom 17 = .ok (.if_icmp .gt 7, 3) := by decide +kernel
theorem d_Sk_hasRoom_20 : decode b_Sk_hasRoom 20 = .ok (.iconst 1, 1) := by decide +kernel
theorem d_Sk_hasRoom_21 : decode b_Sk_hasRoom 21 = .ok (.goto 4, 3) := by decide +kernel
theorem d_Sk_hasRoom_24 : decode b_Sk_hasRoom 24 = .ok (.iconst 0, 1) := by decide +kernel
theorem d_Sk_hasRoom_25 : decode b_Sk_hasRoom 25 = .ok (.istore 5, 2) := by decide +kernel
theorem d_Sk_hasRoom_27 : decode b_Sk_hasRoom 27 = .ok (.iload_n 3, 1) := by decide +kernel
theorem d_Sk_hasRoom_28 : decode b_Sk_hasRoom 28 = .ok (.aload_n 0, 1) := by decide +kernel
theorem d_Sk_hasRoom_29 : decode b_Sk_hasRoom 29 = .ok (.getfield 9, 3) := by decide +kernel
theorem d_Sk_hasRoom_32 : decode b_Sk_hasRoom 32 = .ok (.iload_n 1, 1) := by decide +kernel
theorem d_Sk_hasRoom_33 : decode b_Sk_hasRoom 33 = .ok (.iaload, 1) := by decide +kernel
theorem d_Sk_hasRoom_34 : decode b_Sk_hasRoom 34 = .ok (.if_icmp .gt 17, 3) := by decide +kernel
theorem d_Sk_hasRoom_37 : decode b_Sk_hasRoom 37 = .ok (.iload_n 2, 1) := by decide +kernel
theorem d_Sk_hasRoom_38 : decode b_Sk_hasRoom 38 = .ok (.aload_n 0, 1) := by decide +kernel
theorem d_Sk_hasRoom_39 : decode b_Sk_hasRoom 39 = .ok (.getfield 15, 3) := by decide +kernel
theorem d_Sk_hasRoom_42 : decode b_Sk_hasRoom 42 = .ok (.iload_n 1, 1) := by decide +kernel
theorem d_Sk_hasRoom_43 : decode b_Sk_hasRoom 43 = .ok (.iaload, 1) := by decide +kernel
theorem d_Sk_hasRoom_44 : decode b_Sk_hasRoom 44 = .ok (.if_icmp .gt 7, 3) := by decide +kernel
theorem d_Sk_hasRoom_47 : decode b_Sk_hasRoom 47 = .ok (.iconst 1, 1) := by decide +kernel
theorem d_Sk_hasRoom_48 : decode b_Sk_hasRoom 48 = .ok (.goto 4, 3) := by decide +kernel
theorem d_Sk_hasRoom_51 : decode b_Sk_hasRoom 51 = .ok (.iconst 0, 1) := by decide +kernel
theorem d_Sk_hasRoom_52 : decode b_Sk_hasRoom 52 = .ok (.istore 6, 2) := by decide +kernel
theorem d_Sk_hasRoom_54 : decode b_Sk_hasRoom 54 = .ok (.iload 4, 2) := by decide +kernel
theorem d_Sk_hasRoom_56 : decode b_Sk_hasRoom 56 = .ok (.aload_n 0, 1) := by decide +kernel
theorem d_Sk_hasRoom_57 : decode b_Sk_hasRoom 57 = .ok (.getfield 18, 3) := by decide +kernel
theorem d_Sk_hasRoom_60 : decode b_Sk_hasRoom 60 = .ok (.iload_n 1, 1) := by decide +kernel
theorem d_Sk_hasRoom_61 : decode b_Sk_hasRoom 61 = .ok (.iaload, 1) := by decide +kernel
theorem d_Sk_hasRoom_62 : decode b_Sk_hasRoom 62 = .ok (.if_icmp .gt 17, 3) := by decide +kernel
theorem d_Sk_hasRoom_65 : decode b_Sk_hasRoom 65 = .ok (.iload 5, 2) := by decide +kernel
theorem d_Sk_hasRoom_67 : decode b_Sk_hasRoom 67 = .ok (.ifCond .ne 8, 3) := by decide +kernel
theorem d_Sk_hasRoom_70 : decode b_Sk_hasRoom 70 = .ok (.iload 6, 2) := by decide +kernel
theorem d_Sk_hasRoom_72 : decode b_Sk_hasRoom 72 = .ok (.ifCond .eq 7, 3) := by decide +kernel
theorem d_Sk_hasRoom_75 : decode b_Sk_hasRoom 75 = .ok (.iconst 1, 1) := by decide +kernel
theorem d_Sk_hasRoom_76 : decode b_Sk_hasRoom 76 = .ok (.goto 4, 3) := by decide +kernel
theorem d_Sk_hasRoom_79 : decode b_Sk_hasRoom 79 = .ok (.iconst 0, 1) := by decide +kernel
theorem d_Sk_hasRoom_80 : decode b_Sk_hasRoom 80 = .ok (.ireturn, 1) := by decide +kernel
theorem d_La_free_0 : decode b_La_free 0 = .ok (.aload_n 2, 1) := by decide +kernel
theorem d_La_free_1 : decode b_La_free 1 = .ok (.iconst 0, 1) := by decide +kernel
theorem d_La_free_2 : decode b_La_free 2 = .ok (.aload_n 0, 1) := by decide +kernel
theorem d_La_free_3 : decode b_La_free 3 = .ok (.iload_n 1, 1) := by decide +kernel
theorem d_La_free_4 : decode b_La_free 4 = .ok (.invokevirtual 54, 3) := by decide +kernel
theorem d_La_free_7 : decode b_La_free 7 = .ok (.ifCond .eq 7, 3) := by decide +kernel
theorem d_La_free_10 : decode b_La_free 10 = .ok (.lconst 1, 1) := by decide +kernel
theorem d_La_free_11 : decode b_La_free 11 = .ok (.goto 4, 3) := by decide +kernel
theorem d_La_free_14 : decode b_La_free 14 = .ok (.lconst 0, 1) := by decide +kernel
theorem d_La_free_15 : decode b_La_free 15 = .ok (.lastore, 1) := by decide +kernel
theorem d_La_free_16 : decode b_La_free 16 = .ok (.goto 6, 3) := by decide +kernel
theorem d_La_free_19 : decode b_La_free 19 = .ok (.astore_n 3, 1) := by decide +kernel
theorem d_La_free_20 : decode b_La_free 20 = .ok (.iconst 1, 1) := by decide +kernel
theorem d_La_free_21 : decode b_La_free 21 = .ok (.ireturn, 1) := by decide +kernel
theorem d_La_free_22 : decode b_La_free 22 = .ok (.iconst 0, 1) := by decide +kernel
theorem d_La_free_23 : decode b_La_free 23 = .ok (.ireturn, 1) := by decide +kernel
theorem d_Cc_free_0 : decode b_Cc_free 0 = .ok (.aload_n 0, 1) := by decide +kernel
theorem d_Cc_free_1 : decode b_Cc_free 1 = .ok (.getfield 33, 3) := by decide +kernel
theorem d_Cc_free_4 : decode b_Cc_free 4 = .ok (.iload_n 1, 1) := by decide +kernel
theorem d_Cc_free_5 : decode b_Cc_free 5 = .ok (.invokevirtual 104, 3) := by decide +kernel
theorem d_Cc_free_8 : decode b_Cc_free 8 = .ok (.ireturn, 1) := by decide +kernel
theorem d_Sk_release_0 : decode b_Sk_release 0 = .ok (.iload_n 1, 1) := by decide +kernel
theorem d_Sk_release_1 : decode b_Sk_release 1 = .ok (.aload_n 0, 1) := by decide +kernel
theorem d_Sk_release_2 : decode b_Sk_release 2 = .ok (.getfield 25, 3) := by decide +kernel
theorem d_Sk_release_5 : decode b_Sk_release 5 = .ok (.invokestatic 45, 3) := by decide +kernel
theorem d_Sk_release_8 : decode b_Sk_release 8 = .ok (.aload_n 0, 1) := by decide +kernel
theorem d_Sk_release_9 : decode b_Sk_release 9 = .ok (.getfield 21, 3) := by decide +kernel
theorem d_Sk_release_12 : decode b_Sk_release 12 = .ok (.iload_n 1, 1) := by decide +kernel
theorem d_Sk_release_13 : decode b_Sk_release 13 = .ok (.baload, 1) := by decide +kernel
theorem d_Sk_release_14 : decode b_Sk_release 14 = .ok (.istore_n 2, 1) := by decide +kernel
theorem d_Sk_release_15 : decode b_Sk_release 15 = .ok (.aload_n 0, 1) := by decide +kernel
theorem d_Sk_release_16 : decode b_Sk_release 16 = .ok (.getfield 21, 3) := by decide +kernel
theorem d_Sk_release_19 : decode b_Sk_release 19 = .ok (.iload_n 1, 1) := by decide +kernel
theorem d_Sk_release_20 : decode b_Sk_release 20 = .ok (.iconst 0, 1) := by decide +kernel
theorem d_Sk_release_21 : decode b_Sk_release 21 = .ok (.bastore, 1) := by decide +kernel
theorem d_Sk_release_22 : decode b_Sk_release 22 = .ok (.iload_n 2, 1) := by decide +kernel
theorem d_Sk_release_23 : decode b_Sk_release 23 = .ok (.ireturn, 1) := by decide +kernel
theorem d_La_split_0 : decode b_La_split 0 = .ok (.aload_n 2, 1) := by decide +kernel
theorem d_La_split_1 : decode b_La_split 1 = .ok (.iconst 0, 1) := by decide +kernel
theorem d_La_split_2 : decode b_La_split 2 = .ok (.aload_n 0, 1) := by decide +kernel
theorem d_La_split_3 : decode b_La_split 3 = .ok (.iload_n 1, 1) := by decide +kernel
theorem d_La_split_4 : decode b_La_split 4 = .ok (.invokevirtual 58, 3) := by decide +kernel
theorem d_La_split_7 : decode b_La_split 7 = .ok (.i2l, 1) := by decide +kernel
theorem d_La_split_8 : decode b_La_split 8 = .ok (.lastore, 1) := by decide +kernel
theorem d_La_split_9 : decode b_La_split 9 = .ok (.goto 6, 3) := by decide +kernel
theorem d_La_split_12 : decode b_La_split 12 = .ok (.astore_n 3, 1) := by decide +kernel
theorem d_La_split_13 : decode b_La_split 13 = .ok (.iconst 1, 1) := by decide +kernel
theorem d_La_split_14 : decode b_La_split 14 = .ok (.ireturn, 1) := by decide +kernel
theorem d_La_split_15 : decode b_La_split 15 = .ok (.iconst 0, 1) := by decide +kernel
theorem d_La_split_16 : decode b_La_split 16 = .ok (.ireturn, 1) := by decide +kernel
theorem d_Cc_split_0 : decode b_Cc_split 0 = .ok (.aload_n 0, 1) := by decide +kernel
theorem d_Cc_split_1 : decode b_Cc_split 1 = .ok (.getfield 10, 3) := by decide +kernel
theorem d_Cc_split_4 : decode b_Cc_split 4 = .ok (.iload_n 1, 1) := by decide +kernel
theorem d_Cc_split_5 : decode b_Cc_split 5 = .ok (.invokevirtual 108, 3) := by decide +kernel
theorem d_Cc_split_8 : decode b_Cc_split 8 = .ok (.ireturn, 1) := by decide +kernel
theorem d_Go_leastCrates_0 : decode b_Go_leastCrates 0 = .ok (.iload_n 1, 1) := by decide +kernel
theorem d_Go_leastCrates_1 : decode b_Go_leastCrates 1 = .ok (.iconst 1, 1) := by decide +kernel
theorem d_Go_leastCrates_2 : decode b_Go_leastCrates 2 = .ok (.if_icmp .ge 13, 3) := by decide +kernel
theorem d_Go_leastCrates_5 : decode b_Go_leastCrates 5 = .ok (.new 54, 3) := by decide +kernel
theorem d_Go_leastCrates_8 : decode b_Go_leastCrates 8 = .ok (.dup, 1) := by decide +kernel
theorem d_Go_leastCrates_9 : decode b_Go_leastCrates 9 = .ok (.ldc 56, 2) := by decide +kernel
theorem d_Go_leastCrates_11 : decode b_Go_leastCrates 11 = .ok (.invokespecial 58, 3) := by decide +kernel
theorem d_Go_leastCrates_14 : decode b_Go_leastCrates 14 = .ok (.athrow, 1) := by decide +kernel
theorem d_Go_leastCrates_15 : decode b_Go_leastCrates 15 = .ok (.iconst 0, 1) := by decide +kernel
theorem d_Go_leastCrates_16 : decode b_Go_leastCrates 16 = .ok (.istore_n 2, 1) := by decide +kernel
theorem d_Go_leastCrates_17 : decode b_Go_leastCrates 17 = .ok (.iload_n 2, 1) := by decide +kernel
theorem d_Go_leastCrates_18 : decode b_Go_leastCrates 18 = .ok (.aload_n 0, 1) := by decide +kernel
theorem d_Go_leastCrates_19 : decode b_Go_leastCrates 19 = .ok (.getfield 27, 3) := by decide +kernel
theorem d_Go_leastCrates_22 : decode b_Go_leastCrates 22 = .ok (.if_icmp .ge 21, 3) := by decide +kernel
theorem d_Go_leastCrates_25 : decode b_Go_leastCrates 25 = .ok (.aload_n 0, 1) := by decide +kernel
theorem d_Go_leastCrates_26 : decode b_Go_leastCrates 26 = .ok (.getfield 15, 3) := by decide +kernel
theorem d_Go_leastCrates_29 : decode b_Go_leastCrates 29 = .ok (.iload_n 2, 1) := by decide +kernel
theorem d_Go_leastCrates_30 : decode b_Go_leastCrates 30 = .ok (.iaload, 1) := by decide +kernel
theorem d_Go_leastCrates_31 : decode b_Go_leastCrates 31 = .ok (.iload_n 1, 1) := by decide +kernel
theorem d_Go_leastCrates_32 : decode b_Go_leastCrates 32 = .ok (.if_icmp .le 5, 3) := by decide +kernel
theorem d_Go_leastCrates_35 : decode b_Go_leastCrates 35 = .ok (.iconst (-1), 1) := by decide +kernel
theorem d_Go_leastCrates_36 : decode b_Go_leastCrates 36 = .ok (.ireturn, 1) := by decide +kernel
theorem d_Go_leastCrates_37 : decode b_Go_leastCrates 37 = .ok (.iinc 2 1, 3) := by decide +kernel
theorem d_Go_leastCrates_40 : decode b_Go_leastCrates 40 = .ok (.goto (-23), 3) := by decide +kernel
theorem d_Go_leastCrates_43 : decode b_Go_leastCrates 43 = .ok (.aload_n 0, 1) := by decide +kernel
theorem d_Go_leastCrates_44 : decode b_Go_leastCrates 44 = .ok (.getfield 21, 3) := by decide +kernel
theorem d_Go_leastCrates_47 : decode b_Go_leastCrates 47 = .ok (.iconst 0, 1) := by decide +kernel
theorem d_Go_leastCrates_48 : decode b_Go_leastCrates 48 = .ok (.iconst 0, 1) := by decide +kernel
theorem d_Go_leastCrates_49 : decode b_Go_leastCrates 49 = .ok (.iastore, 1) := by decide +kernel
theorem d_Go_leastCrates_50 : decode b_Go_leastCrates 50 = .ok (.aload_n 0, 1) := by decide +kernel
theorem d_Go_leastCrates_51 : decode b_Go_leastCrates 51 = .ok (.getfield 24, 3) := by decide +kernel
theorem d_Go_leastCrates_54 : decode b_Go_leastCrates 54 = .ok (.iconst 0, 1) := by decide +kernel
theorem d_Go_leastCrates_55 : decode b_Go_leastCrates 55 = .ok (.iload_n 1, 1) := by decide +kernel
theorem d_Go_leastCrates_56 : decode b_Go_leastCrates 56 = .ok (.iastore, 1) := by decide +kernel
theorem d_Go_leastCrates_57 : decode b_Go_leastCrates 57 = .ok (.iconst 1, 1) := by decide +kernel
theorem d_Go_leastCrates_58 : decode b_Go_leastCrates 58 = .ok (.aload_n 0, 1) := by decide +kernel
theorem d_Go_leastCrates_59 : decode b_Go_leastCrates 59 = .ok (.getfield 27, 3) := by decide +kernel
theorem d_Go_leastCrates_62 : decode b_Go_leastCrates 62 = .ok (.ishl, 1) := by decide +kernel
theorem d_Go_leastCrates_63 : decode b_Go_leastCrates 63 = .ok (.istore_n 2, 1) := by decide +kernel
theorem d_Go_leastCrates_64 : decode b_Go_leastCrates 64 = .ok (.iconst 1, 1) := by decide +kernel
theorem d_Go_leastCrates_65 : decode b_Go_leastCrates 65 = .ok (.istore_n 3, 1) := by decide +kernel
theorem d_Go_leastCrates_66 : decode b_Go_leastCrates 66 = .ok (.iload_n 3, 1) := by decide +kernel
theorem d_Go_leastCrates_67 : decode b_Go_leastCrates 67 = .ok (.iload_n 2, 1) := by decide +kernel
theorem d_Go_leastCrates_68 : decode b_Go_leastCrates 68 = .ok (.if_icmp .ge 15, 3) := by decide +kernel
theorem d_Go_leastCrates_71 : decode b_Go_leastCrates 71 = .ok (.aload_n 0, 1) := by decide +kernel
theorem d_Go_leastCrates_72 : decode b_Go_leastCrates 72 = .ok (.iload_n 3, 1) := by decide +kernel
theorem d_Go_leastCrates_73 : decode b_Go_leastCrates 73 = .ok (.iload_n 1, 1) := by decide +kernel
theorem d_Go_leastCrates_74 : decode b_Go_leastCrates 74 = .ok (.invokevirtual 61, 3) := by decide +kernel
theorem d_Go_leastCrates_77 : decode b_Go_leastCrates 77 = .ok (.iinc 3 1, 3) := by decide +kernel
theorem d_Go_leastCrates_80 : decode b_Go_leastCrates 80 = .ok (.goto (-14), 3) := by decide +kernel
theorem d_Go_leastCrates_83 : decode b_Go_leastCrates 83 = .ok (.aload_n 0, 1) := by decide +kernel
theorem d_Go_leastCrates_84 : decode b_Go_leastCrates 84 = .ok (.getfield 21, 3) := by decide +kernel
theorem d_Go_leastCrates_87 : decode b_Go_leastCrates 87 = .ok (.iload_n 2, 1) := by decide +kernel
theorem d_Go_leastCrates_88 : decode b_Go_leastCrates 88 = .ok (.iconst 1, 1) := by decide +kernel
theorem d_Go_leastCrates_89 : decode b_Go_leastCrates 89 = .ok (.isub, 1) := by decide +kernel
theorem d_Go_leastCrates_90 : decode b_Go_leastCrates 90 = .ok (.iaload, 1) := by decide +kernel
theorem d_Go_leastCrates_91 : decode b_Go_leastCrates 91 = .ok (.ireturn, 1) := by decide +kernel
theorem d_Go_partSet_0 : decode b_Go_partSet 0 = .ok (.bipush 7, 2) := by decide +kernel
theorem d_Go_partSet_2 : decode b_Go_partSet 2 = .ok (.istore_n 3, 1) := by decide +kernel
theorem d_Go_partSet_3 : decode b_Go_partSet 3 = .ok (.iconst 0, 1) := by decide +kernel
theorem d_Go_partSet_4 : decode b_Go_partSet 4 = .ok (.istore 4, 2) := by decide +kernel
theorem d_Go_partSet_6 : decode b_Go_partSet 6 = .ok (.iconst 0, 1) := by decide +kernel
theorem d_Go_partSet_7 : decode b_Go_partSet 7 = .ok (.istore 5, 2) := by decide +kernel
theorem d_Go_partSet_9 : decode b_Go_partSet 9 = .ok (.iload 5, 2) := by decide +kernel
theorem d_Go_partSet_11 : decode b_Go_partSet 11 = .ok (.aload_n 0, 1) := by decide +kernel
theorem d_Go_partSet_12 : decode b_Go_partSet 12 = .ok (.getfield 27, 3) := by decide +kernel
theorem d_Go_partSet_15 : decode b_Go_partSet 15 = .ok (.if_icmp .ge 139, 3) := by decide +kernel
theorem d_Go_partSet_18 : decode b_Go_partSet 18 = .ok (.iload_n 1, 1) := by decide +kernel
theorem d_Go_partSet_19 : decode b_Go_partSet 19 = .ok (.iload 5, 2) := by decide +kernel
theorem d_Go_partSet_21 : decode b_Go_partSet 21 = .ok (.ishr, 1) := by decide +kernel
theorem d_Go_partSet_22 : decode b_Go_partSet 22 = .ok (.iconst 1, 1) := by decide +kernel
theorem d_Go_partSet_23 : decode b_Go_partSet 23 = .ok (.iand, 1) := by decide +kernel
theorem d_Go_partSet_24 : decode b_Go_partSet 24 = .ok (.ifCond .ne 6, 3) := by decide +kernel
theorem d_Go_partSet_27 : decode b_Go_partSet 27 = .ok (.goto 121, 3) := by decide +kernel
theorem d_Go_partSet_30 : decode b_Go_partSet 30 = .ok (.iload_n 1, 1) := by decide +kernel
theorem d_Go_partSet_31 : decode b_Go_partSet 31 = .ok (.iconst 1, 1) := by decide +kernel
theorem d_Go_partSet_32 : decode b_Go_partSet 32 = .ok (.iload 5, 2) := by decide +kernel
theorem d_Go_partSet_34 : decode b_Go_partSet 34 = .ok (.ishl, 1) := by decide +kernel
theorem d_Go_partSet_35 : decode b_Go_partSet 35 = .ok (.ixor, 1) := by decide +kernel
theorem d_Go_partSet_36 : decode b_Go_partSet 36 = .ok (.istore 6, 2) := by decide +kernel
theorem d_Go_partSet_38 : decode b_Go_partSet 38 = .ok (.aload_n 0, 1) := by decide +kernel
theorem d_Go_partSet_39 : decode b_Go_partSet 39 = .ok (.getfield 15, 3) := by decide +kernel
theorem d_Go_partSet_42 : decode b_Go_partSet 42 = .ok (.iload 5, 2) := by decide +kernel
theorem d_Go_partSet_44 : decode b_Go_partSet 44 = .ok (.iaload, 1) := by decide +kernel
theorem d_Go_partSet_45 : decode b_Go_partSet 45 = .ok (.iload_n 2, 1) := by decide +kernel
theorem d_Go_partSet_46 : decode b_Go_partSet 46 = .ok (.aload_n 0, 1) := by decide +kernel
theorem d_Go_partSet_47 : decode b_Go_partSet 47 = .ok (.getfield 24, 3) := by decide +kernel
theorem d_Go_partSet_50 : decode b_Go_partSet 50 = .ok (.iload 6, 2) := by decide +kernel
theorem d_Go_partSet_52 : decode b_Go_partSet 52 = .ok (.iaload, 1) := by decide +kernel
theorem d_Go_partSet_53 : decode b_Go_partSet 53 = .ok (.isub, 1) := by decide +kernel
theorem d_Go_partSet_54 : decode b_Go_partSet 54 = .ok (.if_icmp .gt 7, 3) := by decide +kernel
theorem d_Go_partSet_57 : decode b_Go_partSet 57 = .ok (.iconst 1, 1) := by decide +kernel
theorem d_Go_partSet_58 : decode b_Go_partSet 58 = .ok (.goto 4, 3) := by decide +kernel
theorem d_Go_partSet_61 : decode b_Go_partSet 61 = .ok (.iconst 0, 1) := by decide +kernel
theorem d_Go_partSet_62 : decode b_Go_partSet 62 = .ok (.istore 7, 2) := by decide +kernel
theorem d_Go_partSet_64 : decode b_Go_partSet 64 = .ok (.iload 7, 2) := by decide +kernel
theorem d_Go_partSet_66 : decode b_Go_partSet 66 = .ok (.ifCond .eq 13, 3) := by decide +kernel
theorem d_Go_partSet_69 : decode b_Go_partSet 69 = .ok (.aload_n 0, 1) := by decide +kernel
theorem d_Go_partSet_70 : decode b_Go_partSet 70 = .ok (.getfield 21, 3) := by decide +kernel
theorem d_Go_partSet_73 : decode b_Go_partSet 73 = .ok (.iload 6, 2) := by decide +kernel
theorem d_Go_partSet_75 : decode b_Go_partSet 75 = .ok (.iaload, 1) := by decide +kernel
theorem d_Go_partSet_76 : decode b_Go_partSet 76 = .ok (.goto 12, 3) := by decide +kernel
theorem d_Go_partSet_79 : decode b_Go_partSet 79 = .ok (.aload_n 0, 1) := by decide +kernel
theorem d_Go_partSet_80 : decode b_Go_partSet 80 = .ok (.getfield 21, 3) := by decide +kernel
theorem d_Go_partSet_83 : decode b_Go_partSet 83 = .ok (.iload 6, 2) := by decide +kernel
theorem d_Go_partSet_85 : decode b_Go_partSet 85 = .ok (.iaload, 1) := by decide +kernel
theorem d_Go_partSet_86 : decode b_Go_partSet 86 = .ok (.iconst 1, 1) := by decide +kernel
theorem d_Go_partSet_87 : decode b_Go_partSet 87 = .ok (.iadd, 1) := by decide +kernel
theorem d_Go_partSet_88 : decode b_Go_partSet 88 = .ok (.istore 8, 2) := by decide +kernel
theorem d_Go_partSet_90 : decode b_Go_partSet 90 = .ok (.iload 7, 2) := by decide +kernel
theorem d_Go_partSet_92 : decode b_Go_partSet 92 = .ok (.ifCond .eq 21, 3) := by decide +kernel
theorem d_Go_partSet_95 : decode b_Go_partSet 95 = .ok (.aload_n 0, 1) := by decide +kernel
theorem d_Go_partSet_96 : decode b_Go_partSet 96 = .ok (.getfield 24, 3) := by decide +kernel
theorem d_Go_partSet_99 : decode b_Go_partSet 99 = .ok (.iload 6, 2) := by decide +kernel
theorem d_Go_partSet_101 : decode b_Go_partSet 101 = .ok (.iaload, 1) := by decide +kernel
theorem d_Go_partSet_102 : decode b_Go_partSet 102 = .ok (.aload_n 0, 1) := by decide +kernel
theorem d_Go_partSet_103 : decode b_Go_partSet 103 = .ok (.getfield 15, 3) := by decide +kernel
theorem d_Go_partSet_106 : decode b_Go_partSet 106 = .ok (.iload 5, 2) := by decide +kernel
theorem d_Go_partSet_108 : decode b_Go_partSet 108 = .ok (.iaload, 1) := by decide +kernel
theorem d_Go_partSet_109 : decode b_Go_partSet 109 = .ok (.iadd, 1) := by decide +kernel
theorem d_Go_partSet_110 : decode b_Go_partSet 110 = .ok (.goto 10, 3) := by decide +kernel
theorem d_Go_partSet_113 : decode b_Go_partSet 113 = .ok (.aload_n 0, 1) := by decide +kernel
theorem d_Go_partSet_114 : decode b_Go_partSet 114 = .ok (.getfield 15, 3) := by decide +kernel
theorem d_Go_partSet_117 : decode b_Go_partSet 117 = .ok (.iload 5, 2) := by decide +kernel
theorem d_Go_partSet_119 : decode b_Go_partSet 119 = .ok (.iaload, 1) := by decide +kernel
theorem d_Go_partSet_120 : decode b_Go_partSet 120 = .ok (.istore 9, 2) := by decide +kernel
theorem d_Go_partSet_122 : decode b_Go_partSet 122 = .ok (.iload 8, 2) := by decide +kernel
theorem d_Go_partSet_124 : decode b_Go_partSet 124 = .ok (.iload_n 3, 1) := by decide +kernel
theorem d_Go_partSet_125 : decode b_Go_partSet 125 = .ok (.if_icmp .lt 16, 3) := by decide +kernel
theorem d_Go_partSet_128 : decode b_Go_partSet 128 = .ok (.iload 8, 2) := by decide +kernel
theorem d_Go_partSet_130 : decode b_Go_partSet 130 = .ok (.iload_n 3, 1) := by decide +kernel
theorem d_Go_partSet_131 : decode b_Go_partSet 131 = .ok (.if_icmp .ne 17, 3) := by decide +kernel
theorem d_Go_partSet_134 : decode b_Go_partSet 134 = .ok (.iload 9, 2) := by decide +kernel
theorem d_Go_partSet_136 : decode b_Go_partSet 136 = .ok (.iload 4, 2) := by decide +kernel
theorem d_Go_partSet_138 : decode b_Go_partSet 138 = .ok (.if_icmp .ge 10, 3) := by decide +kernel
theorem d_Go_partSet_141 : decode b_Go_partSet 141 = .ok (.iload 8, 2) := by decide +kernel
theorem d_Go_partSet_143 : decode b_Go_partSet 143 = .ok (.istore_n 3, 1) := by decide +kernel
theorem d_Go_partSet_144 : decode b_Go_partSet 144 = .ok (.iload 9, 2) := by decide +kernel
theorem d_Go_partSet_146 : decode b_Go_partSet 146 = .ok (.istore 4, 2) := by decide +kernel
theorem d_Go_partSet_148 : decode b_Go_partSet 148 = .ok (.iinc 5 1, 3) := by decide +kernel
theorem d_Go_partSet_151 : decode b_Go_partSet 151 = .ok (.goto (-142), 3) := by decide +kernel
theorem d_Go_partSet_154 : decode b_Go_partSet 154 = .ok (.aload_n 0, 1) := by decide +kernel
theorem d_Go_partSet_155 : decode b_Go_partSet 155 = .ok (.getfield 21, 3) := by decide +kernel
theorem d_Go_partSet_158 : decode b_Go_partSet 158 = .ok (.iload_n 1, 1) := by decide +kernel
theorem d_Go_partSet_159 : decode b_Go_partSet 159 = .ok (.iload_n 3, 1) := by decide +kernel
theorem d_Go_partSet_160 : decode b_Go_partSet 160 = .ok (.iastore, 1) := by decide +kernel
theorem d_Go_partSet_161 : decode b_Go_partSet 161 = .ok (.aload_n 0, 1) := by decide +kernel
theorem d_Go_partSet_162 : decode b_Go_partSet 162 = .ok (.getfield 24, 3) := by decide +kernel
theorem d_Go_partSet_165 : decode b_Go_partSet 165 = .ok (.iload_n 1, 1) := by decide +kernel
theorem d_Go_partSet_166 : decode b_Go_partSet 166 = .ok (.iload 4, 2) := by decide +kernel
theorem d_Go_partSet_168 : decode b_Go_partSet 168 = .ok (.iastore, 1) := by decide +kernel
theorem d_Go_partSet_169 : decode b_Go_partSet 169 = .ok (.return_, 1) := by decide +kernel
theorem d_La_lag_0 : decode b_La_lag 0 = .ok (.aload_n 2, 1) := by decide +kernel
theorem d_La_lag_1 : decode b_La_lag 1 = .ok (.iconst 0, 1) := by decide +kernel
theorem d_La_lag_2 : decode b_La_lag 2 = .ok (.aload_n 0, 1) := by decide +kernel
theorem d_La_lag_3 : decode b_La_lag 3 = .ok (.iload_n 1, 1) := by decide +kernel
theorem d_La_lag_4 : decode b_La_lag 4 = .ok (.invokevirtual 61, 3) := by decide +kernel
theorem d_La_lag_7 : decode b_La_lag 7 = .ok (.i2l, 1) := by decide +kernel
theorem d_La_lag_8 : decode b_La_lag 8 = .ok (.lastore, 1) := by decide +kernel
theorem d_La_lag_9 : decode b_La_lag 9 = .ok (.goto 6, 3) := by decide +kernel
theorem d_La_lag_12 : decode b_La_lag 12 = .ok (.astore_n 3, 1) := by decide +kernel
theorem d_La_lag_13 : decode b_La_lag 13 = .ok (.iconst 1, 1) := by decide +kernel
theorem d_La_lag_14 : decode b_La_lag 14 = .ok (.ireturn, 1) := by decide +kernel
theorem d_La_lag_15 : decode b_La_lag 15 = .ok (.iconst 0, 1) := by decide +kernel
theorem d_La_lag_16 : decode b_La_lag 16 = .ok (.ireturn, 1) := by decide +kernel
theorem d_Cc_lag_0 : decode b_Cc_lag 0 = .ok (.aload_n 0, 1) := by decide +kernel
theorem d_Cc_lag_1 : decode b_Cc_lag 1 = .ok (.getfield 40, 3) := by decide +kernel
theorem d_Cc_lag_4 : decode b_Cc_lag 4 = .ok (.iload_n 1, 1) := by decide +kernel
theorem d_Cc_lag_5 : decode b_Cc_lag 5 = .ok (.invokevirtual 111, 3) := by decide +kernel
theorem d_Cc_lag_8 : decode b_Cc_lag 8 = .ok (.ireturn, 1) := by decide +kernel
theorem d_Ai_setLag_0 : decode b_Ai_setLag 0 = .ok (.iload_n 1, 1) := by decide +kernel
theorem d_Ai_setLag_1 : decode b_Ai_setLag 1 = .ok (.iconst 1, 1) := by decide +kernel
theorem d_Ai_setLag_2 : decode b_Ai_setLag 2 = .ok (.bipush 100, 2) := by decide +kernel
theorem d_Ai_setLag_4 : decode b_Ai_setLag 4 = .ok (.invokestatic 22, 3) := by decide +kernel
theorem d_Ai_setLag_7 : decode b_Ai_setLag 7 = .ok (.aload_n 0, 1) := by decide +kernel
theorem d_Ai_setLag_8 : decode b_Ai_setLag 8 = .ok (.getfield 19, 3) := by decide +kernel
theorem d_Ai_setLag_11 : decode b_Ai_setLag 11 = .ok (.istore_n 2, 1) := by decide +kernel
theorem d_Ai_setLag_12 : decode b_Ai_setLag 12 = .ok (.aload_n 0, 1) := by decide +kernel
theorem d_Ai_setLag_13 : decode b_Ai_setLag 13 = .ok (.iload_n 1, 1) := by decide +kernel
theorem d_Ai_setLag_14 : decode b_Ai_setLag 14 = .ok (.putfield 19, 3) := by decide +kernel
theorem d_Ai_setLag_17 : decode b_Ai_setLag 17 = .ok (.iload_n 2, 1) := by decide +kernel
theorem d_Ai_setLag_18 : decode b_Ai_setLag 18 = .ok (.ireturn, 1) := by decide +kernel
theorem d_La_climate_0 : decode b_La_climate 0 = .ok (.aload_n 2, 1) := by decide +kernel
theorem d_La_climate_1 : decode b_La_climate 1 = .ok (.iconst 0, 1) := by decide +kernel
theorem d_La_climate_2 : decode b_La_climate 2 = .ok (.aload_n 0, 1) := by decide +kernel
theorem d_La_climate_3 : decode b_La_climate 3 = .ok (.iload_n 1, 1) := by decide +kernel
theorem d_La_climate_4 : decode b_La_climate 4 = .ok (.invokevirtual 64, 3) := by decide +kernel
theorem d_La_climate_7 : decode b_La_climate 7 = .ok (.i2l, 1) := by decide +kernel
theorem d_La_climate_8 : decode b_La_climate 8 = .ok (.lastore, 1) := by decide +kernel
theorem d_La_climate_9 : decode b_La_climate 9 = .ok (.goto 9, 3) := by decide +kernel
theorem d_La_climate_12 : decode b_La_climate 12 = .ok (.astore_n 3, 1) := by decide +kernel
theorem d_La_climate_13 : decode b_La_climate 13 = .ok (.iconst 1, 1) := by decide +kernel
theorem d_La_climate_14 : decode b_La_climate 14 = .ok (.ireturn, 1) := by decide +kernel
theorem d_La_climate_15 : decode b_La_climate 15 = .ok (.astore_n 3, 1) := by decide +kernel
theorem d_La_climate_16 : decode b_La_climate 16 = .ok (.iconst 2, 1) := by decide +kernel
theorem d_La_climate_17 : decode b_La_climate 17 = .ok (.ireturn, 1) := by decide +kernel
theorem d_La_climate_18 : decode b_La_climate 18 = .ok (.iconst 0, 1) := by decide +kernel
theorem d_La_climate_19 : decode b_La_climate 19 = .ok (.ireturn, 1) := by decide +kernel
theorem d_Cc_climate_0 : decode b_Cc_climate 0 = .ok (.aload_n 0, 1) := by decide +kernel
theorem d_Cc_climate_1 : decode b_Cc_climate 1 = .ok (.getfield 40, 3) := by decide +kernel
theorem d_Cc_climate_4 : decode b_Cc_climate 4 = .ok (.iload_n 1, 1) := by decide +kernel
theorem d_Cc_climate_5 : decode b_Cc_climate 5 = .ok (.invokevirtual 114, 3) := by decide +kernel
theorem d_Cc_climate_8 : decode b_Cc_climate 8 = .ok (.ireturn, 1) := by decide +kernel
theorem d_Ai_nextHour_0 : decode b_Ai_nextHour 0 = .ok (.aload_n 0, 1) := by decide +kernel
theorem d_Ai_nextHour_1 : decode b_Ai_nextHour 1 = .ok (.getfield 15, 3) := by decide +kernel
theorem d_Ai_nextHour_4 : decode b_Ai_nextHour 4 = .ok (.sipush 200, 3) := by decide +kernel
theorem d_Ai_nextHour_7 : decode b_Ai_nextHour 7 = .ok (.invokestatic 26, 3) := by decide +kernel
theorem d_Ai_nextHour_10 : decode b_Ai_nextHour 10 = .ok (.iload_n 1, 1) := by decide +kernel
theorem d_Ai_nextHour_11 : decode b_Ai_nextHour 11 = .ok (.bipush (-60), 2) := by decide +kernel
theorem d_Ai_nextHour_13 : decode b_Ai_nextHour 13 = .ok (.bipush 60, 2) := by decide +kernel
theorem d_Ai_nextHour_15 : decode b_Ai_nextHour 15 = .ok (.invokestatic 22, 3) := by decide +kernel
theorem d_Ai_nextHour_18 : decode b_Ai_nextHour 18 = .ok (.aload_n 0, 1) := by decide +kernel
theorem d_Ai_nextHour_19 : decode b_Ai_nextHour 19 = .ok (.getfield 15, 3) := by decide +kernel
theorem d_Ai_nextHour_22 : decode b_Ai_nextHour 22 = .ok (.ifCond .ne 9, 3) := by decide +kernel
theorem d_Ai_nextHour_25 : decode b_Ai_nextHour 25 = .ok (.sipush 20000, 3) := by decide +kernel
theorem d_Ai_nextHour_28 : decode b_Ai_nextHour 28 = .ok (.goto 14, 3) := by decide +kernel
theorem d_Ai_nextHour_31 : decode b_Ai_nextHour 31 = .ok (.aload_n 0, 1) := by decide +kernel
theorem d_Ai_nextHour_32 : decode b_Ai_nextHour 32 = .ok (.getfield 9, 3) := by decide +kernel
theorem d_Ai_nextHour_35 : decode b_Ai_nextHour 35 = .ok (.aload_n 0, 1) := by decide +kernel
theorem d_Ai_nextHour_36 : decode b_Ai_nextHour 36 = .ok (.getfield 15, 3) := by decide +kernel
theorem d_Ai_nextHour_39 : decode b_Ai_nextHour 39 = .ok (.iconst 1, 1) := by decide +kernel
theorem d_Ai_nextHour_40 : decode b_Ai_nextHour 40 = .ok (.isub, 1) := by decide +kernel
theorem d_Ai_nextHour_41 : decode b_Ai_nextHour 41 = .ok (.iaload, 1) := by decide +kernel
theorem d_Ai_nextHour_42 : decode b_Ai_nextHour 42 = .ok (.istore_n 2, 1) := by decide +kernel
theorem d_Ai_nextHour_43 : decode b_Ai_nextHour 43 = .ok (.iload_n 1, 1) := by decide +kernel
theorem d_Ai_nextHour_44 : decode b_Ai_nextHour 44 = .ok (.sipush 1000, 3) := by decide +kernel
theorem d_Ai_nextHour_47 : decode b_Ai_nextHour 47 = .ok (.imul, 1) := by decide +kernel
theorem d_Ai_nextHour_48 : decode b_Ai_nextHour 48 = .ok (.iload_n 2, 1) := by decide +kernel
theorem d_Ai_nextHour_49 : decode b_Ai_nextHour 49 = .ok (.isub, 1) := by decide +kernel
theorem d_Ai_nextHour_50 : decode b_Ai_nextHour 50 = .ok (.aload_n 0, 1) := by decide +kernel
theorem d_Ai_nextHour_51 : decode b_Ai_nextHour 51 = .ok (.getfield 19, 3) := by decide +kernel
theorem d_Ai_nextHour_54 : decode b_Ai_nextHour 54 = .ok (.iconst 1, 1) := by decide +kernel
theorem d_Ai_nextHour_55 : decode b_Ai_nextHour 55 = .ok (.invokestatic 30, 3) := by decide +kernel
theorem d_Ai_nextHour_58 : decode b_Ai_nextHour 58 = .ok (.invokestatic 36, 3) := by decide +kernel
theorem d_Ai_nextHour_61 : decode b_Ai_nextHour 61 = .ok (.istore_n 3, 1) := by decide +kernel
theorem d_Ai_nextHour_62 : decode b_Ai_nextHour 62 = .ok (.aload_n 0, 1) := by decide +kernel
theorem d_Ai_nextHour_63 : decode b_Ai_nextHour 63 = .ok (.getfield 9, 3) := by decide +kernel
theorem d_Ai_nextHour_66 : decode b_Ai_nextHour 66 = .ok (.aload_n 0, 1) := by decide +kernel
theorem d_Ai_nextHour_67 : decode b_Ai_nextHour 67 = .ok (.getfield 15, 3) := by decide +kernel
theorem d_Ai_nextHour_70 : decode b_Ai_nextHour 70 = .ok (.iload_n 2, 1) := by decide +kernel
theorem d_Ai_nextHour_71 : decode b_Ai_nextHour 71 = .ok (.iload_n 3, 1) := by decide +kernel
theorem d_Ai_nextHour_72 : decode b_Ai_nextHour 72 = .ok (.iadd, 1) := by decide +kernel
theorem d_Ai_nextHour_73 : decode b_Ai_nextHour 73 = .ok (.iastore, 1) := by decide +kernel
theorem d_Ai_nextHour_74 : decode b_Ai_nextHour 74 = .ok (.aload_n 0, 1) := by decide +kernel
theorem d_Ai_nextHour_75 : decode b_Ai_nextHour 75 = .ok (.dup, 1) := by decide +kernel
theorem d_Ai_nextHour_76 : decode b_Ai_nextHour 76 = .ok (.getfield 15, 3) := by decide +kernel
theorem d_Ai_nextHour_79 : decode b_Ai_nextHour 79 = .ok (.iconst 1, 1) := by decide +kernel
theorem d_Ai_nextHour_80 : decode b_Ai_nextHour 80 = .ok (.iadd, 1) := by decide +kernel
theorem d_Ai_nextHour_81 : decode b_Ai_nextHour 81 = .ok (.putfield 15, 3) := by decide +kernel
theorem d_Ai_nextHour_84 : decode b_Ai_nextHour 84 = .ok (.iload_n 2, 1) := by decide +kernel
theorem d_Ai_nextHour_85 : decode b_Ai_nextHour 85 = .ok (.iload_n 3, 1) := by decide +kernel
theorem d_Ai_nextHour_86 : decode b_Ai_nextHour 86 = .ok (.iadd, 1) := by decide +kernel
theorem d_Ai_nextHour_87 : decode b_Ai_nextHour 87 = .ok (.ireturn, 1) := by decide +kernel
theorem d_Ma_max_0 : decode b_Ma_max 0 = .ok (.iload_n 0, 1) := by decide +kernel
theorem d_Ma_max_1 : decode b_Ma_max 1 = .ok (.iload_n 1, 1) := by decide +kernel
theorem d_Ma_max_2 : decode b_Ma_max 2 = .ok (.if_icmp .lt 7, 3) := by decide +kernel
theorem d_Ma_max_5 : decode b_Ma_max 5 = .ok (.iload_n 0, 1) := by decide +kernel
theorem d_Ma_max_6 : decode b_Ma_max 6 = .ok (.goto 4, 3) := by decide +kernel
theorem d_Ma_max_9 : decode b_Ma_max 9 = .ok (.iload_n 1, 1) := by decide +kernel
theorem d_Ma_max_10 : decode b_Ma_max 10 = .ok (.ireturn, 1) := by decide +kernel
theorem d_La_inside_0 : decode b_La_inside 0 = .ok (.aload_n 2, 1) := by decide +kernel
theorem d_La_inside_1 : decode b_La_inside 1 = .ok (.iconst 0, 1) := by decide +kernel
theorem d_La_inside_2 : decode b_La_inside 2 = .ok (.aload_n 0, 1) := by decide +kernel
theorem d_La_inside_3 : decode b_La_inside 3 = .ok (.iload_n 1, 1) := by decide +kernel
theorem d_La_inside_4 : decode b_La_inside 4 = .ok (.invokevirtual 67, 3) := by decide +kernel
theorem d_La_inside_7 : decode b_La_inside 7 = .ok (.i2l, 1) := by decide +kernel
theorem d_La_inside_8 : decode b_La_inside 8 = .ok (.lastore, 1) := by decide +kernel
theorem d_La_inside_9 : decode b_La_inside 9 = .ok (.goto 6, 3) := by decide +kernel
theorem d_La_inside_12 : decode b_La_inside 12 = .ok (.astore_n 3, 1) := by decide +kernel
theorem d_La_inside_13 : decode b_La_inside 13 = .ok (.iconst 1, 1) := by decide +kernel
theorem d_La_inside_14 : decode b_La_inside 14 = .ok (.ireturn, 1) := by decide +kernel
theorem d_La_inside_15 : decode b_La_inside 15 = .ok (.iconst 0, 1) := by decide +kernel
theorem d_La_inside_16 : decode b_La_inside 16 = .ok (.ireturn, 1) := by decide +kernel
theorem d_Cc_inside_0 : decode b_Cc_inside 0 = .ok (.aload_n 0, 1) := by decide +kernel
theorem d_Cc_inside_1 : decode b_Cc_inside 1 = .ok (.getfield 40, 3) := by decide +kernel
theorem d_Cc_inside_4 : decode b_Cc_inside 4 = .ok (.iload_n 1, 1) := by decide +kernel
theorem d_Cc_inside_5 : decode b_Cc_inside 5 = .ok (.invokevirtual 117, 3) := by decide +kernel
theorem d_Cc_inside_8 : decode b_Cc_inside 8 = .ok (.ireturn, 1) := by decide +kernel
theorem d_Ai_afterHour_0 : decode b_Ai_afterHour 0 = .ok (.iload_n 1, 1) := by decide +kernel
theorem d_Ai_afterHour_1 : decode b_Ai_afterHour 1 = .ok (.aload_n 0, 1) := by decide +kernel
theorem d_Ai_afterHour_2 : decode b_Ai_afterHour 2 = .ok (.getfield 15, 3) := by decide +kernel
theorem d_Ai_afterHour_5 : decode b_Ai_afterHour 5 = .ok (.invokestatic 39, 3) := by decide +kernel
theorem d_Ai_afterHour_8 : decode b_Ai_afterHour 8 = .ok (.aload_n 0, 1) := by decide +kernel
theorem d_Ai_afterHour_9 : decode b_Ai_afterHour 9 = .ok (.getfield 9, 3) := by decide +kernel
theorem d_Ai_afterHour_12 : decode b_Ai_afterHour 12 = .ok (.iload_n 1, 1) := by decide +kernel
theorem d_Ai_afterHour_13 : decode b_Ai_afterHour 13 = .ok (.iaload, 1) := by decide +kernel
theorem d_Ai_afterHour_14 : decode b_Ai_afterHour 14 = .ok (.ireturn, 1) := by decide +kernel
theorem d_La_steady_0 : decode b_La_steady 0 = .ok (.aload_n 3, 1) := by decide +kernel
theorem d_La_steady_1 : decode b_La_steady 1 = .ok (.iconst 0, 1) := by decide +kernel
theorem d_La_steady_2 : decode b_La_steady 2 = .ok (.aload_n 0, 1) := by decide +kernel
theorem d_La_steady_3 : decode b_La_steady 3 = .ok (.iload_n 1, 1) := by decide +kernel
theorem d_La_steady_4 : decode b_La_steady 4 = .ok (.iload_n 2, 1) := by decide +kernel
theorem d_La_steady_5 : decode b_La_steady 5 = .ok (.invokevirtual 70, 3) := by decide +kernel
theorem d_La_steady_8 : decode b_La_steady 8 = .ok (.i2l, 1) := by decide +kernel
theorem d_La_steady_9 : decode b_La_steady 9 = .ok (.lastore, 1) := by decide +kernel
theorem d_La_steady_10 : decode b_La_steady 10 = .ok (.goto 7, 3) := by decide +kernel
theorem d_La_steady_13 : decode b_La_steady 13 = .ok (.astore 4, 2) := by decide +kernel
theorem d_La_steady_15 : decode b_La_steady 15 = .ok (.iconst 1, 1) := by decide +kernel
theorem d_La_steady_16 : decode b_La_steady 16 = .ok (.ireturn, 1) := by decide +kernel
theorem d_La_steady_17 : decode b_La_steady 17 = .ok (.iconst 0, 1) := by decide +kernel
theorem d_La_steady_18 : decode b_La_steady 18 = .ok (.ireturn, 1) := by decide +kernel
theorem d_Cc_steady_0 : decode b_Cc_steady 0 = .ok (.aload_n 0, 1) := by decide +kernel
theorem d_Cc_steady_1 : decode b_Cc_steady 1 = .ok (.getfield 40, 3) := by decide +kernel
theorem d_Cc_steady_4 : decode b_Cc_steady 4 = .ok (.iload_n 1, 1) := by decide +kernel
theorem d_Cc_steady_5 : decode b_Cc_steady 5 = .ok (.iload_n 2, 1) := by decide +kernel
theorem d_Cc_steady_6 : decode b_Cc_steady 6 = .ok (.invokevirtual 120, 3) := by decide +kernel
theorem d_Cc_steady_9 : decode b_Cc_steady 9 = .ok (.ireturn, 1) := by decide +kernel
theorem d_Ai_longestWithin_0 : decode b_Ai_longestWithin 0 = .ok (.iload_n 1, 1) := by decide +kernel
theorem d_Ai_longestWithin_1 : decode b_Ai_longestWithin 1 = .ok (.iload_n 2, 1) := by decide +kernel
theorem d_Ai_longestWithin_2 : decode b_Ai_longestWithin 2 = .ok (.if_icmp .le 13, 3) := by decide +kernel
theorem d_Ai_longestWithin_5 : decode b_Ai_longestWithin 5 = .ok (.new 42, 3) := by decide +kernel
theorem d_Ai_longestWithin_8 : decode b_Ai_longestWithin 8 = .ok (.dup, 1) := by decide +kernel
theorem d_Ai_longestWithin_9 : decode b_Ai_longestWithin 9 = .ok (.ldc 44, 2) := by decide +kernel
theorem d_Ai_longestWithin_11 : decode b_Ai_longestWithin 11 = .ok (.invokespecial 46, 3) := by decide +kernel
theorem d_Ai_longestWithin_14 : decode b_Ai_longestWithin 14 = .ok (.athrow, 1) := by decide +kernel
theorem d_Ai_longestWithin_15 : decode b_Ai_longestWithin 15 = .ok (.iconst 0, 1) := by decide +kernel
theorem d_Ai_longestWithin_16 : decode b_Ai_longestWithin 16 = .ok (.istore_n 3, 1) := by decide +kernel
theorem d_Ai_longestWithin_17 : decode b_Ai_longestWithin 17 = .ok (.iconst 0, 1) := by decide +kernel
theorem d_Ai_longestWithin_18 : decode b_Ai_longestWithin 18 = .ok (.istore 4, 2) := by decide +kernel
theorem d_Ai_longestWithin_20 : decode b_Ai_longestWithin 20 = .ok (.iconst 0, 1) := by decide +kernel
theorem d_Ai_longestWithin_21 : decode b_Ai_longestWithin 21 = .ok (.istore 5, 2) := by decide +kernel
theorem d_Ai_longestWithin_23 : decode b_Ai_longestWithin 23 = .ok (.iload 5, 2) := by decide +kernel
theorem d_Ai_longestWithin_25 : decode b_Ai_longestWithin 25 = .ok (.aload_n 0, 1) := by decide +kernel
theorem d_Ai_longestWithin_26 : decode b_Ai_longestWithin 26 = .ok (.getfield 15, 3) := by decide +kernel
theorem d_Ai_longestWithin_29 : decode b_Ai_longestWithin 29 = .ok (.if_icmp .ge 60, 3) := by decide +kernel
theorem d_Ai_longestWithin_32 : decode b_Ai_longestWithin 32 = .ok (.aload_n 0, 1) := by decide +kernel
theorem d_Ai_longestWithin_33 : decode b_Ai_longestWithin 33 = .ok (.getfield 9, 3) := by decide +kernel
theorem d_Ai_longestWithin_36 : decode b_Ai_longestWithin 36 = .ok (.iload 5, 2) := by decide +kernel
theorem d_Ai_longestWithin_38 : decode b_Ai_longestWithin 38 = .ok (.iaload, 1) := by decide +kernel
theorem d_Ai_longestWithin_39 : decode b_Ai_longestWithin 39 = .ok (.iload_n 1, 1) := by decide +kernel
theorem d_Ai_longestWithin_40 : decode b_Ai_longestWithin 40 = .ok (.if_icmp .lt 18, 3) := by decide +kernel
theorem d_Ai_longestWithin_43 : decode b_Ai_longestWithin 43 = .ok (.aload_n 0, 1) := by decide +kernel
theorem d_Ai_longestWithin_44 : decode b_Ai_longestWithin 44 = .ok (.getfield 9, 3) := by decide +kernel
theorem d_Ai_longestWithin_47 : decode b_Ai_longestWithin 47 = .ok (.iload 5, 2) := by decide +kernel
theorem d_Ai_longestWithin_49 : decode b_Ai_longestWithin 49 = .ok (.iaload, 1) := by decide +kernel
theorem d_Ai_longestWithin_50 : decode b_Ai_longestWithin 50 = .ok (.iload_n 2, 1) := by decide +kernel
theorem d_Ai_longestWithin_51 : decode b_Ai_longestWithin 51 = .ok (.if_icmp .gt 7, 3) := by decide +kernel
theorem d_Ai_longestWithin_54 : decode b_Ai_longestWithin 54 = .ok (.iconst 1, 1) := by decide +kernel
theorem d_Ai_longestWithin_55 : decode b_Ai_longestWithin 55 = .ok (.goto 4, 3) := by decide +kernel
theorem d_Ai_longestWithin_58 : decode b_Ai_longestWithin 58 = .ok (.iconst 0, 1) := by decide +kernel
theorem d_Ai_longestWithin_59 : decode b_Ai_longestWithin 59 = .ok (.istore 6, 2) := by decide +kernel
theorem d_Ai_longestWithin_61 : decode b_Ai_longestWithin 61 = .ok (.iload 6, 2) := by decide +kernel
theorem d_Ai_longestWithin_63 : decode b_Ai_longestWithin 63 = .ok (.ifCond .eq 10, 3) := by decide +kernel
theorem d_Ai_longestWithin_66 : decode b_Ai_longestWithin 66 = .ok (.iload 4, 2) := by decide +kernel
theorem d_Ai_longestWithin_68 : decode b_Ai_longestWithin 68 = .ok (.iconst 1, 1) := by decide +kernel
theorem d_Ai_longestWithin_69 : decode b_Ai_longestWithin 69 = .ok (.iadd, 1) := by decide +kernel
theorem d_Ai_longestWithin_70 : decode b_Ai_longestWithin 70 = .ok (.goto 4, 3) := by decide +kernel
theorem d_Ai_longestWithin_73 : decode b_Ai_longestWithin 73 = .ok (.iconst 0, 1) := by decide +kernel
theorem d_Ai_longestWithin_74 : decode b_Ai_longestWithin 74 = .ok (.istore 4, 2) := by decide +kernel
theorem d_Ai_longestWithin_76 : decode b_Ai_longestWithin 76 = .ok (.iload_n 3, 1) := by decide +kernel
theorem d_Ai_longestWithin_77 : decode b_Ai_longestWithin 77 = .ok (.iload 4, 2) := by decide +kernel
theorem d_Ai_longestWithin_79 : decode b_Ai_longestWithin 79 = .ok (.invokestatic 30, 3) := by decide +kernel
theorem d_Ai_longestWithin_82 : decode b_Ai_longestWithin 82 = .ok (.istore_n 3, 1) := by decide +kernel
theorem d_Ai_longestWithin_83 : decode b_Ai_longestWithin 83 = .ok (.iinc 5 1, 3) := by decide +kernel
theorem d_Ai_longestWithin_86 : decode b_Ai_longestWithin 86 = .ok (.goto (-63), 3) := by decide +kernel
theorem d_Ai_longestWithin_89 : decode b_Ai_longestWithin 89 = .ok (.iload_n 3, 1) := by decide +kernel
theorem d_Ai_longestWithin_90 : decode b_Ai_longestWithin 90 = .ok (.ireturn, 1) := by decide +kernel
theorem d_La_limit_0 : decode b_La_limit 0 = .ok (.aload_n 0, 1) := by decide +kernel
theorem d_La_limit_1 : decode b_La_limit 1 = .ok (.iload_n 1, 1) := by decide +kernel
theorem d_La_limit_2 : decode b_La_limit 2 = .ok (.iload_n 2, 1) := by decide +kernel
theorem d_La_limit_3 : decode b_La_limit 3 = .ok (.invokevirtual 73, 3) := by decide +kernel
theorem d_La_limit_6 : decode b_La_limit 6 = .ok (.goto 6, 3) := by decide +kernel
theorem d_La_limit_9 : decode b_La_limit 9 = .ok (.astore_n 3, 1) := by decide +kernel
theorem d_La_limit_10 : decode b_La_limit 10 = .ok (.iconst 1, 1) := by decide +kernel
theorem d_La_limit_11 : decode b_La_limit 11 = .ok (.ireturn, 1) := by decide +kernel
theorem d_La_limit_12 : decode b_La_limit 12 = .ok (.iconst 0, 1) := by decide +kernel
theorem d_La_limit_13 : decode b_La_limit 13 = .ok (.ireturn, 1) := by decide +kernel
theorem d_Cc_limit_0 : decode b_Cc_limit 0 = .ok (.aload_n 0, 1) := by decide +kernel
theorem d_Cc_limit_1 : decode b_Cc_limit 1 = .ok (.getfield 47, 3) := by decide +kernel
theorem d_Cc_limit_4 : decode b_Cc_limit 4 = .ok (.iload_n 1, 1) := by decide +kernel
theorem d_Cc_limit_5 : decode b_Cc_limit 5 = .ok (.iload_n 2, 1) := by decide +kernel
theorem d_Cc_limit_6 : decode b_Cc_limit 6 = .ok (.invokevirtual 123, 3) := by decide +kernel
theorem d_Cc_limit_9 : decode b_Cc_limit 9 = .ok (.return_, 1) := by decide +kernel
theorem d_Sh_allow_0 : decode b_Sh_allow 0 = .ok (.iload_n 1, 1) := by decide +kernel
theorem d_Sh_allow_1 : decode b_Sh_allow 1 = .ok (.iconst 1, 1) := by decide +kernel
theorem d_Sh_allow_2 : decode b_Sh_allow 2 = .ok (.sipush 10000, 3) := by decide +kernel
theorem d_Sh_allow_5 : decode b_Sh_allow 5 = .ok (.invokestatic 24, 3) := by decide +kernel
theorem d_Sh_allow_8 : decode b_Sh_allow 8 = .ok (.iload_n 2, 1) := by decide +kernel
theorem d_Sh_allow_9 : decode b_Sh_allow 9 = .ok (.iconst 1, 1) := by decide +kernel
theorem d_Sh_allow_10 : decode b_Sh_allow 10 = .ok (.sipush 10000, 3) := by decide +kernel
theorem d_Sh_allow_13 : decode b_Sh_allow 13 = .ok (.invokestatic 24, 3) := by decide +kernel
theorem d_Sh_allow_16 : decode b_Sh_allow 16 = .ok (.aload_n 0, 1) := by decide +kernel
theorem d_Sh_allow_17 : decode b_Sh_allow 17 = .ok (.iload_n 1, 1) := by decide +kernel
theorem d_Sh_allow_18 : decode b_Sh_allow 18 = .ok (.putfield 9, 3) := by decide +kernel
theorem d_Sh_allow_21 : decode b_Sh_allow 21 = .ok (.aload_n 0, 1) := by decide +kernel
theorem d_Sh_allow_22 : decode b_Sh_allow 22 = .ok (.iload_n 2, 1) := by decide +kernel
theorem d_Sh_allow_23 : decode b_Sh_allow 23 = .ok (.putfield 15, 3) := by decide +kernel
theorem d_Sh_allow_26 : decode b_Sh_allow 26 = .ok (.return_, 1) := by decide +kernel
theorem d_La_shock_0 : decode b_La_shock 0 = .ok (.aload_n 3, 1) := by decide +kernel
theorem d_La_shock_1 : decode b_La_shock 1 = .ok (.iconst 0, 1) := by decide +kernel
theorem d_La_shock_2 : decode b_La_shock 2 = .ok (.aload_n 0, 1) := by decide +kernel
theorem d_La_shock_3 : decode b_La_shock 3 = .ok (.iload_n 1, 1) := by decide +kernel
theorem d_La_shock_4 : decode b_La_shock 4 = .ok (.iload_n 2, 1) := by decide +kernel
theorem d_La_shock_5 : decode b_La_shock 5 = .ok (.invokevirtual 77, 3) := by decide +kernel
theorem d_La_shock_8 : decode b_La_shock 8 = .ok (.ifCond .eq 7, 3) := by decide +kernel
theorem d_La_shock_11 : decode b_La_shock 11 = .ok (.lconst 1, 1) := by decide +kernel
theorem d_La_shock_12 : decode b_La_shock 12 = .ok (.goto 4, 3) := by decide +kernel
theorem d_La_shock_15 : decode b_La_shock 15 = .ok (.lconst 0, 1) := by decide +kernel
theorem d_La_shock_16 : decode b_La_shock 16 = .ok (.lastore, 1) := by decide +kernel
theorem d_La_shock_17 : decode b_La_shock 17 = .ok (.goto 7, 3) := by decide +kernel
theorem d_La_shock_20 : decode b_La_shock 20 = .ok (.astore 4, 2) := by decide +kernel
theorem d_La_shock_22 : decode b_La_shock 22 = .ok (.iconst 1, 1) := by decide +kernel
theorem d_La_shock_23 : decode b_La_shock 23 = .ok (.ireturn, 1) := by decide +kernel
theorem d_La_shock_24 : decode b_La_shock 24 = .ok (.iconst 0, 1) := by decide +kernel
theorem d_La_shock_25 : decode b_La_shock 25 = .ok (.ireturn, 1) := by decide +kernel
theorem d_Cc_shock_0 : decode b_Cc_shock 0 = .ok (.aload_n 0, 1) := by decide +kernel
theorem d_Cc_shock_1 : decode b_Cc_shock 1 = .ok (.getfield 47, 3) := by decide +kernel
theorem d_Cc_shock_4 : decode b_Cc_shock 4 = .ok (.iload_n 1, 1) := by decide +kernel
theorem d_Cc_shock_5 : decode b_Cc_shock 5 = .ok (.iload_n 2, 1) := by decide +kernel
theorem d_Cc_shock_6 : decode b_Cc_shock 6 = .ok (.invokevirtual 126, 3) := by decide +kernel
theorem d_Cc_shock_9 : decode b_Cc_shock 9 = .ok (.ireturn, 1) := by decide +kernel
theorem d_Sh_add_0 : decode b_Sh_add 0 = .ok (.iload_n 1, 1) := by decide +kernel
theorem d_Sh_add_1 : decode b_Sh_add 1 = .ok (.iconst 0, 1) := by decide +kernel
theorem d_Sh_add_2 : decode b_Sh_add 2 = .ok (.sipush 10000, 3) := by decide +kernel
theorem d_Sh_add_5 : decode b_Sh_add 5 = .ok (.invokestatic 24, 3) := by decide +kernel
theorem d_Sh_add_8 : decode b_Sh_add 8 = .ok (.iload_n 2, 1) := by decide +kernel
theorem d_Sh_add_9 : decode b_Sh_add 9 = .ok (.iconst 0, 1) := by decide +kernel
theorem d_Sh_add_10 : decode b_Sh_add 10 = .ok (.sipush 10000, 3) := by decide +kernel
theorem d_Sh_add_13 : decode b_Sh_add 13 = .ok (.invokestatic 24, 3) := by decide +kernel
