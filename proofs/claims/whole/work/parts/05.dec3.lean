theorem d_Mo_isIn_0 : decode b_Mo_isIn 0 = .ok (.iload_n 0, 1) := by decide +kernel
theorem d_Mo_isIn_1 : decode b_Mo_isIn 1 = .ok (.iload_n 1, 1) := by decide +kernel
theorem d_Mo_isIn_2 : decode b_Mo_isIn 2 = .ok (.ishr, 1) := by decide +kernel
theorem d_Mo_isIn_3 : decode b_Mo_isIn 3 = .ok (.iconst 1, 1) := by decide +kernel
theorem d_Mo_isIn_4 : decode b_Mo_isIn 4 = .ok (.iand, 1) := by decide +kernel
theorem d_Mo_isIn_5 : decode b_Mo_isIn 5 = .ok (.iconst 1, 1) := by decide +kernel
theorem d_Mo_isIn_6 : decode b_Mo_isIn 6 = .ok (.if_icmp .ne 7, 3) := by decide +kernel
theorem d_Mo_isIn_9 : decode b_Mo_isIn 9 = .ok (.iconst 1, 1) := by decide +kernel
theorem d_Mo_isIn_10 : decode b_Mo_isIn 10 = .ok (.goto 4, 3) := by decide +kernel
theorem d_Mo_isIn_13 : decode b_Mo_isIn 13 = .ok (.iconst 0, 1) := by decide +kernel
theorem d_Mo_isIn_14 : decode b_Mo_isIn 14 = .ok (.ireturn, 1) := by decide +kernel
theorem d_Mo_turn_0 : decode b_Mo_turn 0 = .ok (.iload_n 2, 1) := by decide +kernel
theorem d_Mo_turn_1 : decode b_Mo_turn 1 = .ok (.istore_n 3, 1) := by decide +kernel
theorem d_Mo_turn_2 : decode b_Mo_turn 2 = .ok (.iconst 5, 1) := by decide +kernel
theorem d_Mo_turn_3 : decode b_Mo_turn 3 = .ok (.istore 4, 2) := by decide +kernel
theorem d_Mo_turn_5 : decode b_Mo_turn 5 = .ok (.iload 4, 2) := by decide +kernel
theorem d_Mo_turn_7 : decode b_Mo_turn 7 = .ok (.ifCond .lt 51, 3) := by decide +kernel
theorem d_Mo_turn_10 : decode b_Mo_turn 10 = .ok (.aload_n 0, 1) := by decide +kernel
theorem d_Mo_turn_11 : decode b_Mo_turn 11 = .ok (.getfield 38, 3) := by decide +kernel
theorem d_Mo_turn_14 : decode b_Mo_turn 14 = .ok (.iload 4, 2) := by decide +kernel
theorem d_Mo_turn_16 : decode b_Mo_turn 16 = .ok (.iload_n 1, 1) := by decide +kernel
theorem d_Mo_turn_17 : decode b_Mo_turn 17 = .ok (.iload 4, 2) := by decide +kernel
theorem d_Mo_turn_19 : decode b_Mo_turn 19 = .ok (.invokestatic 90, 3) := by decide +kernel
theorem d_Mo_turn_22 : decode b_Mo_turn 22 = .ok (.ifCond .eq 10, 3) := by decide +kernel
theorem d_Mo_turn_25 : decode b_Mo_turn 25 = .ok (.iload_n 3, 1) := by decide +kernel
theorem d_Mo_turn_26 : decode b_Mo_turn 26 = .ok (.bipush 6, 2) := by decide +kernel
theorem d_Mo_turn_28 : decode b_Mo_turn 28 = .ok (.irem, 1) := by decide +kernel
theorem d_Mo_turn_29 : decode b_Mo_turn 29 = .ok (.goto 4, 3) := by decide +kernel
theorem d_Mo_turn_32 : decode b_Mo_turn 32 = .ok (.iconst (-1), 1) := by decide +kernel
theorem d_Mo_turn_33 : decode b_Mo_turn 33 = .ok (.iastore, 1) := by decide +kernel
theorem d_Mo_turn_34 : decode b_Mo_turn 34 = .ok (.iload_n 1, 1) := by decide +kernel
theorem d_Mo_turn_35 : decode b_Mo_turn 35 = .ok (.iload 4, 2) := by decide +kernel
theorem d_Mo_turn_37 : decode b_Mo_turn 37 = .ok (.invokestatic 90, 3) := by decide +kernel
theorem d_Mo_turn_40 : decode b_Mo_turn 40 = .ok (.ifCond .eq 10, 3) := by decide +kernel
theorem d_Mo_turn_43 : decode b_Mo_turn 43 = .ok (.iload_n 3, 1) := by decide +kernel
theorem d_Mo_turn_44 : decode b_Mo_turn 44 = .ok (.bipush 6, 2) := by decide +kernel
theorem d_Mo_turn_46 : decode b_Mo_turn 46 = .ok (.idiv, 1) := by decide +kernel
theorem d_Mo_turn_47 : decode b_Mo_turn 47 = .ok (.goto 4, 3) := by decide +kernel
theorem d_Mo_turn_50 : decode b_Mo_turn 50 = .ok (.iload_n 3, 1) := by decide +kernel
theorem d_Mo_turn_51 : decode b_Mo_turn 51 = .ok (.istore_n 3, 1) := by decide +kernel
theorem d_Mo_turn_52 : decode b_Mo_turn 52 = .ok (.iinc 4 (-1), 3) := by decide +kernel
theorem d_Mo_turn_55 : decode b_Mo_turn 55 = .ok (.goto (-50), 3) := by decide +kernel
theorem d_Mo_turn_58 : decode b_Mo_turn 58 = .ok (.return_, 1) := by decide +kernel
theorem d_Mo_stands_0 : decode b_Mo_stands 0 = .ok (.iconst 1, 1) := by decide +kernel
theorem d_Mo_stands_1 : decode b_Mo_stands 1 = .ok (.istore_n 2, 1) := by decide +kernel
theorem d_Mo_stands_2 : decode b_Mo_stands 2 = .ok (.iconst 0, 1) := by decide +kernel
theorem d_Mo_stands_3 : decode b_Mo_stands 3 = .ok (.istore_n 3, 1) := by decide +kernel
theorem d_Mo_stands_4 : decode b_Mo_stands 4 = .ok (.iload_n 3, 1) := by decide +kernel
theorem d_Mo_stands_5 : decode b_Mo_stands 5 = .ok (.bipush 6, 2) := by decide +kernel
theorem d_Mo_stands_7 : decode b_Mo_stands 7 = .ok (.if_icmp .ge 46, 3) := by decide +kernel
theorem d_Mo_stands_10 : decode b_Mo_stands 10 = .ok (.iload_n 2, 1) := by decide +kernel
theorem d_Mo_stands_11 : decode b_Mo_stands 11 = .ok (.ifCond .eq 34, 3) := by decide +kernel
theorem d_Mo_stands_14 : decode b_Mo_stands 14 = .ok (.iload_n 1, 1) := by decide +kernel
theorem d_Mo_stands_15 : decode b_Mo_stands 15 = .ok (.iload_n 3, 1) := by decide +kernel
theorem d_Mo_stands_16 : decode b_Mo_stands 16 = .ok (.invokestatic 90, 3) := by decide +kernel
theorem d_Mo_stands_19 : decode b_Mo_stands 19 = .ok (.ifCond .eq 22, 3) := by decide +kernel
theorem d_Mo_stands_22 : decode b_Mo_stands 22 = .ok (.aload_n 0, 1) := by decide +kernel
theorem d_Mo_stands_23 : decode b_Mo_stands 23 = .ok (.getfield 16, 3) := by decide +kernel
theorem d_Mo_stands_26 : decode b_Mo_stands 26 = .ok (.bipush 6, 2) := by decide +kernel
theorem d_Mo_stands_28 : decode b_Mo_stands 28 = .ok (.iload_n 3, 1) := by decide +kernel
theorem d_Mo_stands_29 : decode b_Mo_stands 29 = .ok (.imul, 1) := by decide +kernel
theorem d_Mo_stands_30 : decode b_Mo_stands 30 = .ok (.aload_n 0, 1) := by decide +kernel
theorem d_Mo_stands_31 : decode b_Mo_stands 31 = .ok (.getfield 38, 3) := by decide +kernel
theorem d_Mo_stands_34 : decode b_Mo_stands 34 = .ok (.iload_n 3, 1) := by decide +kernel
theorem d_Mo_stands_35 : decode b_Mo_stands 35 = .ok (.iaload, 1) := by decide +kernel
theorem d_Mo_stands_36 : decode b_Mo_stands 36 = .ok (.iadd, 1) := by decide +kernel
theorem d_Mo_stands_37 : decode b_Mo_stands 37 = .ok (.baload, 1) := by decide +kernel
theorem d_Mo_stands_38 : decode b_Mo_stands 38 = .ok (.ifCond .ne 7, 3) := by decide +kernel
theorem d_Mo_stands_41 : decode b_Mo_stands 41 = .ok (.iconst 1, 1) := by decide +kernel
theorem d_Mo_stands_42 : decode b_Mo_stands 42 = .ok (.goto 4, 3) := by decide +kernel
theorem d_Mo_stands_45 : decode b_Mo_stands 45 = .ok (.iconst 0, 1) := by decide +kernel
theorem d_Mo_stands_46 : decode b_Mo_stands 46 = .ok (.istore_n 2, 1) := by decide +kernel
theorem d_Mo_stands_47 : decode b_Mo_stands 47 = .ok (.iinc 3 1, 3) := by decide +kernel
theorem d_Mo_stands_50 : decode b_Mo_stands 50 = .ok (.goto (-46), 3) := by decide +kernel
theorem d_Mo_stands_53 : decode b_Mo_stands 53 = .ok (.iload_n 2, 1) := by decide +kernel
theorem d_Mo_stands_54 : decode b_Mo_stands 54 = .ok (.ireturn, 1) := by decide +kernel
theorem d_Mo_lengthOf_0 : decode b_Mo_lengthOf 0 = .ok (.iload_n 2, 1) := by decide +kernel
theorem d_Mo_lengthOf_1 : decode b_Mo_lengthOf 1 = .ok (.istore_n 3, 1) := by decide +kernel
theorem d_Mo_lengthOf_2 : decode b_Mo_lengthOf 2 = .ok (.iconst 0, 1) := by decide +kernel
theorem d_Mo_lengthOf_3 : decode b_Mo_lengthOf 3 = .ok (.istore 4, 2) := by decide +kernel
theorem d_Mo_lengthOf_5 : decode b_Mo_lengthOf 5 = .ok (.iload 4, 2) := by decide +kernel
theorem d_Mo_lengthOf_7 : decode b_Mo_lengthOf 7 = .ok (.bipush 6, 2) := by decide +kernel
theorem d_Mo_lengthOf_9 : decode b_Mo_lengthOf 9 = .ok (.if_icmp .ge 41, 3) := by decide +kernel
theorem d_Mo_lengthOf_12 : decode b_Mo_lengthOf 12 = .ok (.iload_n 1, 1) := by decide +kernel
theorem d_Mo_lengthOf_13 : decode b_Mo_lengthOf 13 = .ok (.iload 4, 2) := by decide +kernel
theorem d_Mo_lengthOf_15 : decode b_Mo_lengthOf 15 = .ok (.invokestatic 90, 3) := by decide +kernel
theorem d_Mo_lengthOf_18 : decode b_Mo_lengthOf 18 = .ok (.ifCond .eq 24, 3) := by decide +kernel
theorem d_Mo_lengthOf_21 : decode b_Mo_lengthOf 21 = .ok (.iload_n 3, 1) := by decide +kernel
theorem d_Mo_lengthOf_22 : decode b_Mo_lengthOf 22 = .ok (.aload_n 0, 1) := by decide +kernel
theorem d_Mo_lengthOf_23 : decode b_Mo_lengthOf 23 = .ok (.iload 4, 2) := by decide +kernel
theorem d_Mo_lengthOf_25 : decode b_Mo_lengthOf 25 = .ok (.aload_n 0, 1) := by decide +kernel
theorem d_Mo_lengthOf_26 : decode b_Mo_lengthOf 26 = .ok (.getfield 38, 3) := by decide +kernel
theorem d_Mo_lengthOf_29 : decode b_Mo_lengthOf 29 = .ok (.iload 4, 2) := by decide +kernel
theorem d_Mo_lengthOf_31 : decode b_Mo_lengthOf 31 = .ok (.iaload, 1) := by decide +kernel
theorem d_Mo_lengthOf_32 : decode b_Mo_lengthOf 32 = .ok (.iconst 0, 1) := by decide +kernel
theorem d_Mo_lengthOf_33 : decode b_Mo_lengthOf 33 = .ok (.invokevirtual 93, 3) := by decide +kernel
theorem d_Mo_lengthOf_36 : decode b_Mo_lengthOf 36 = .ok (.iadd, 1) := by decide +kernel
theorem d_Mo_lengthOf_37 : decode b_Mo_lengthOf 37 = .ok (.iload_n 2, 1) := by decide +kernel
theorem d_Mo_lengthOf_38 : decode b_Mo_lengthOf 38 = .ok (.iadd, 1) := by decide +kernel
theorem d_Mo_lengthOf_39 : decode b_Mo_lengthOf 39 = .ok (.goto 4, 3) := by decide +kernel
theorem d_Mo_lengthOf_42 : decode b_Mo_lengthOf 42 = .ok (.iload_n 3, 1) := by decide +kernel
theorem d_Mo_lengthOf_43 : decode b_Mo_lengthOf 43 = .ok (.istore_n 3, 1) := by decide +kernel
theorem d_Mo_lengthOf_44 : decode b_Mo_lengthOf 44 = .ok (.iinc 4 1, 3) := by decide +kernel
theorem d_Mo_lengthOf_47 : decode b_Mo_lengthOf 47 = .ok (.goto (-42), 3) := by decide +kernel
theorem d_Mo_lengthOf_50 : decode b_Mo_lengthOf 50 = .ok (.iload_n 3, 1) := by decide +kernel
theorem d_Mo_lengthOf_51 : decode b_Mo_lengthOf 51 = .ok (.ireturn, 1) := by decide +kernel
theorem d_Mo_along_0 : decode b_Mo_along 0 = .ok (.iload_n 2, 1) := by decide +kernel
theorem d_Mo_along_1 : decode b_Mo_along 1 = .ok (.ifCond .eq 8, 3) := by decide +kernel
theorem d_Mo_along_4 : decode b_Mo_along 4 = .ok (.iload_n 2, 1) := by decide +kernel
theorem d_Mo_along_5 : decode b_Mo_along 5 = .ok (.iconst 2, 1) := by decide +kernel
theorem d_Mo_along_6 : decode b_Mo_along 6 = .ok (.if_icmp .ne 7, 3) := by decide +kernel
theorem d_Mo_along_9 : decode b_Mo_along 9 = .ok (.iconst 0, 1) := by decide +kernel
theorem d_Mo_along_10 : decode b_Mo_along 10 = .ok (.goto 18, 3) := by decide +kernel
theorem d_Mo_along_13 : decode b_Mo_along 13 = .ok (.iload_n 2, 1) := by decide +kernel
theorem d_Mo_along_14 : decode b_Mo_along 14 = .ok (.iconst 1, 1) := by decide +kernel
theorem d_Mo_along_15 : decode b_Mo_along 15 = .ok (.if_icmp .eq 8, 3) := by decide +kernel
theorem d_Mo_along_18 : decode b_Mo_along 18 = .ok (.iload_n 2, 1) := by decide +kernel
theorem d_Mo_along_19 : decode b_Mo_along 19 = .ok (.iconst 4, 1) := by decide +kernel
theorem d_Mo_along_20 : decode b_Mo_along 20 = .ok (.if_icmp .ne 7, 3) := by decide +kernel
theorem d_Mo_along_23 : decode b_Mo_along 23 = .ok (.iconst 1, 1) := by decide +kernel
theorem d_Mo_along_24 : decode b_Mo_along 24 = .ok (.goto 4, 3) := by decide +kernel
theorem d_Mo_along_27 : decode b_Mo_along 27 = .ok (.iconst 2, 1) := by decide +kernel
theorem d_Mo_along_28 : decode b_Mo_along 28 = .ok (.istore 4, 2) := by decide +kernel
theorem d_Mo_along_30 : decode b_Mo_along 30 = .ok (.iload_n 2, 1) := by decide +kernel
theorem d_Mo_along_31 : decode b_Mo_along 31 = .ok (.iconst 1, 1) := by decide +kernel
theorem d_Mo_along_32 : decode b_Mo_along 32 = .ok (.if_icmp .eq 8, 3) := by decide +kernel
theorem d_Mo_along_35 : decode b_Mo_along 35 = .ok (.iload_n 2, 1) := by decide +kernel
theorem d_Mo_along_36 : decode b_Mo_along 36 = .ok (.iconst 3, 1) := by decide +kernel
theorem d_Mo_along_37 : decode b_Mo_along 37 = .ok (.if_icmp .ne 7, 3) := by decide +kernel
theorem d_Mo_along_40 : decode b_Mo_along 40 = .ok (.iconst 0, 1) := by decide +kernel
theorem d_Mo_along_41 : decode b_Mo_along 41 = .ok (.goto 17, 3) := by decide +kernel
theorem d_Mo_along_44 : decode b_Mo_along 44 = .ok (.iload_n 2, 1) := by decide +kernel
theorem d_Mo_along_45 : decode b_Mo_along 45 = .ok (.ifCond .eq 8, 3) := by decide +kernel
theorem d_Mo_along_48 : decode b_Mo_along 48 = .ok (.iload_n 2, 1) := by decide +kernel
theorem d_Mo_along_49 : decode b_Mo_along 49 = .ok (.iconst 5, 1) := by decide +kernel
theorem d_Mo_along_50 : decode b_Mo_along 50 = .ok (.if_icmp .ne 7, 3) := by decide +kernel
theorem d_Mo_along_53 : decode b_Mo_along 53 = .ok (.iconst 1, 1) := by decide +kernel
theorem d_Mo_along_54 : decode b_Mo_along 54 = .ok (.goto 4, 3) := by decide +kernel
theorem d_Mo_along_57 : decode b_Mo_along 57 = .ok (.iconst 2, 1) := by decide +kernel
theorem d_Mo_along_58 : decode b_Mo_along 58 = .ok (.istore 5, 2) := by decide +kernel
theorem d_Mo_along_60 : decode b_Mo_along 60 = .ok (.aload_n 0, 1) := by decide +kernel
theorem d_Mo_along_61 : decode b_Mo_along 61 = .ok (.getfield 7, 3) := by decide +kernel
theorem d_Mo_along_64 : decode b_Mo_along 64 = .ok (.iconst 3, 1) := by decide +kernel
theorem d_Mo_along_65 : decode b_Mo_along 65 = .ok (.iload_n 1, 1) := by decide +kernel
theorem d_Mo_along_66 : decode b_Mo_along 66 = .ok (.imul, 1) := by decide +kernel
theorem d_Mo_along_67 : decode b_Mo_along 67 = .ok (.iload_n 3, 1) := by decide +kernel
theorem d_Mo_along_68 : decode b_Mo_along 68 = .ok (.ifCond .ne 8, 3) := by decide +kernel
theorem d_Mo_along_71 : decode b_Mo_along 71 = .ok (.iload 4, 2) := by decide +kernel
theorem d_Mo_along_73 : decode b_Mo_along 73 = .ok (.goto 20, 3) := by decide +kernel
theorem d_Mo_along_76 : decode b_Mo_along 76 = .ok (.iload_n 3, 1) := by decide +kernel
theorem d_Mo_along_77 : decode b_Mo_along 77 = .ok (.iconst 1, 1) := by decide +kernel
theorem d_Mo_along_78 : decode b_Mo_along 78 = .ok (.if_icmp .ne 8, 3) := by decide +kernel
theorem d_Mo_along_81 : decode b_Mo_along 81 = .ok (.iload 5, 2) := by decide +kernel
theorem d_Mo_along_83 : decode b_Mo_along 83 = .ok (.goto 10, 3) := by decide +kernel
theorem d_Mo_along_86 : decode b_Mo_along 86 = .ok (.iconst 3, 1) := by decide +kernel
theorem d_Mo_along_87 : decode b_Mo_along 87 = .ok (.iload 4, 2) := by decide +kernel
theorem d_Mo_along_89 : decode b_Mo_along 89 = .ok (.isub, 1) := by decide +kernel
theorem d_Mo_along_90 : decode b_Mo_along 90 = .ok (.iload 5, 2) := by decide +kernel
theorem d_Mo_along_92 : decode b_Mo_along 92 = .ok (.isub, 1) := by decide +kernel
theorem d_Mo_along_93 : decode b_Mo_along 93 = .ok (.iadd, 1) := by decide +kernel
theorem d_Mo_along_94 : decode b_Mo_along 94 = .ok (.iaload, 1) := by decide +kernel
theorem d_Mo_along_95 : decode b_Mo_along 95 = .ok (.ireturn, 1) := by decide +kernel
theorem d_Mo_widest_0 : decode b_Mo_widest 0 = .ok (.iconst 0, 1) := by decide +kernel
theorem d_Mo_widest_1 : decode b_Mo_widest 1 = .ok (.istore 4, 2) := by decide +kernel
theorem d_Mo_widest_3 : decode b_Mo_widest 3 = .ok (.iconst 0, 1) := by decide +kernel
theorem d_Mo_widest_4 : decode b_Mo_widest 4 = .ok (.istore 5, 2) := by decide +kernel
theorem d_Mo_widest_6 : decode b_Mo_widest 6 = .ok (.iload 5, 2) := by decide +kernel
theorem d_Mo_widest_8 : decode b_Mo_widest 8 = .ok (.bipush 6, 2) := by decide +kernel
theorem d_Mo_widest_10 : decode b_Mo_widest 10 = .ok (.if_icmp .ge 54, 3) := by decide +kernel
theorem d_Mo_widest_13 : decode b_Mo_widest 13 = .ok (.iload_n 1, 1) := by decide +kernel
theorem d_Mo_widest_14 : decode b_Mo_widest 14 = .ok (.iload 5, 2) := by decide +kernel
theorem d_Mo_widest_16 : decode b_Mo_widest 16 = .ok (.invokestatic 90, 3) := by decide +kernel
theorem d_Mo_widest_19 : decode b_Mo_widest 19 = .ok (.ifCond .eq 20, 3) := by decide +kernel
theorem d_Mo_widest_22 : decode b_Mo_widest 22 = .ok (.aload_n 0, 1) := by decide +kernel
theorem d_Mo_widest_23 : decode b_Mo_widest 23 = .ok (.iload 5, 2) := by decide +kernel
theorem d_Mo_widest_25 : decode b_Mo_widest 25 = .ok (.aload_n 0, 1) := by decide +kernel
theorem d_Mo_widest_26 : decode b_Mo_widest 26 = .ok (.getfield 38, 3) := by decide +kernel
theorem d_Mo_widest_29 : decode b_Mo_widest 29 = .ok (.iload 5, 2) := by decide +kernel
theorem d_Mo_widest_31 : decode b_Mo_widest 31 = .ok (.iaload, 1) := by decide +kernel
theorem d_Mo_widest_32 : decode b_Mo_widest 32 = .ok (.iload_n 2, 1) := by decide +kernel
theorem d_Mo_widest_33 : decode b_Mo_widest 33 = .ok (.invokevirtual 93, 3) := by decide +kernel
theorem d_Mo_widest_36 : decode b_Mo_widest 36 = .ok (.goto 4, 3) := by decide +kernel
theorem d_Mo_widest_39 : decode b_Mo_widest 39 = .ok (.iconst 0, 1) := by decide +kernel
theorem d_Mo_widest_40 : decode b_Mo_widest 40 = .ok (.istore 6, 2) := by decide +kernel
theorem d_Mo_widest_42 : decode b_Mo_widest 42 = .ok (.iload 6, 2) := by decide +kernel
theorem d_Mo_widest_44 : decode b_Mo_widest 44 = .ok (.iload 4, 2) := by decide +kernel
theorem d_Mo_widest_46 : decode b_Mo_widest 46 = .ok (.if_icmp .le 8, 3) := by decide +kernel
theorem d_Mo_widest_49 : decode b_Mo_widest 49 = .ok (.iload 6, 2) := by decide +kernel
theorem d_Mo_widest_51 : decode b_Mo_widest 51 = .ok (.goto 5, 3) := by decide +kernel
theorem d_Mo_widest_54 : decode b_Mo_widest 54 = .ok (.iload 4, 2) := by decide +kernel
theorem d_Mo_widest_56 : decode b_Mo_widest 56 = .ok (.istore 4, 2) := by decide +kernel
theorem d_Mo_widest_58 : decode b_Mo_widest 58 = .ok (.iinc 5 1, 3) := by decide +kernel
theorem d_Mo_widest_61 : decode b_Mo_widest 61 = .ok (.goto (-55), 3) := by decide +kernel
theorem d_Mo_widest_64 : decode b_Mo_widest 64 = .ok (.iload 4, 2) := by decide +kernel
theorem d_Mo_widest_66 : decode b_Mo_widest 66 = .ok (.iconst 2, 1) := by decide +kernel
theorem d_Mo_widest_67 : decode b_Mo_widest 67 = .ok (.iload_n 3, 1) := by decide +kernel
theorem d_Mo_widest_68 : decode b_Mo_widest 68 = .ok (.imul, 1) := by decide +kernel
theorem d_Mo_widest_69 : decode b_Mo_widest 69 = .ok (.iadd, 1) := by decide +kernel
theorem d_Mo_widest_70 : decode b_Mo_widest 70 = .ok (.ireturn, 1) := by decide +kernel
theorem d_Mo_size_0 : decode b_Mo_size 0 = .ok (.aload_n 0, 1) := by decide +kernel
theorem d_Mo_size_1 : decode b_Mo_size 1 = .ok (.iload_n 1, 1) := by decide +kernel
theorem d_Mo_size_2 : decode b_Mo_size 2 = .ok (.iconst 0, 1) := by decide +kernel
theorem d_Mo_size_3 : decode b_Mo_size 3 = .ok (.iconst 2, 1) := by decide +kernel
theorem d_Mo_size_4 : decode b_Mo_size 4 = .ok (.invokestatic 66, 3) := by decide +kernel
theorem d_Mo_size_7 : decode b_Mo_size 7 = .ok (.aload_n 0, 1) := by decide +kernel
theorem d_Mo_size_8 : decode b_Mo_size 8 = .ok (.getfield 124, 3) := by decide +kernel
theorem d_Mo_size_11 : decode b_Mo_size 11 = .ok (.iconst 1, 1) := by decide +kernel
theorem d_Mo_size_12 : decode b_Mo_size 12 = .ok (.invokevirtual 71, 3) := by decide +kernel
theorem d_Mo_size_15 : decode b_Mo_size 15 = .ok (.ifCond .ne 5, 3) := by decide +kernel
theorem d_Mo_size_18 : decode b_Mo_size 18 = .ok (.iconst 0, 1) := by decide +kernel
theorem d_Mo_size_19 : decode b_Mo_size 19 = .ok (.ireturn, 1) := by decide +kernel
theorem d_Mo_size_20 : decode b_Mo_size 20 = .ok (.iload_n 1, 1) := by decide +kernel
theorem d_Mo_size_21 : decode b_Mo_size 21 = .ok (.ifCond .ne 10, 3) := by decide +kernel
theorem d_Mo_size_24 : decode b_Mo_size 24 = .ok (.aload_n 0, 1) := by decide +kernel
theorem d_Mo_size_25 : decode b_Mo_size 25 = .ok (.getfield 112, 3) := by decide +kernel
theorem d_Mo_size_28 : decode b_Mo_size 28 = .ok (.goto 19, 3) := by decide +kernel
theorem d_Mo_size_31 : decode b_Mo_size 31 = .ok (.iload_n 1, 1) := by decide +kernel
theorem d_Mo_size_32 : decode b_Mo_size 32 = .ok (.iconst 1, 1) := by decide +kernel
theorem d_Mo_size_33 : decode b_Mo_size 33 = .ok (.if_icmp .ne 10, 3) := by decide +kernel
theorem d_Mo_size_36 : decode b_Mo_size 36 = .ok (.aload_n 0, 1) := by decide +kernel
theorem d_Mo_size_37 : decode b_Mo_size 37 = .ok (.getfield 115, 3) := by decide +kernel
theorem d_Mo_size_40 : decode b_Mo_size 40 = .ok (.goto 7, 3) := by decide +kernel
theorem d_Mo_size_43 : decode b_Mo_size 43 = .ok (.aload_n 0, 1) := by decide +kernel
theorem d_Mo_size_44 : decode b_Mo_size 44 = .ok (.getfield 118, 3) := by decide +kernel
theorem d_Mo_size_47 : decode b_Mo_size 47 = .ok (.ireturn, 1) := by decide +kernel
theorem d_Mo_at_0 : decode b_Mo_at 0 = .ok (.aload_n 0, 1) := by decide +kernel
theorem d_Mo_at_1 : decode b_Mo_at 1 = .ok (.aload_n 0, 1) := by decide +kernel
theorem d_Mo_at_2 : decode b_Mo_at 2 = .ok (.iload_n 1, 1) := by decide +kernel
theorem d_Mo_at_3 : decode b_Mo_at 3 = .ok (.invokevirtual 75, 3) := by decide +kernel
theorem d_Mo_at_6 : decode b_Mo_at 6 = .ok (.ifCond .eq 16, 3) := by decide +kernel
theorem d_Mo_at_9 : decode b_Mo_at 9 = .ok (.iload_n 2, 1) := by decide +kernel
theorem d_Mo_at_10 : decode b_Mo_at 10 = .ok (.iconst (-1), 1) := by decide +kernel
theorem d_Mo_at_11 : decode b_Mo_at 11 = .ok (.iconst 0, 1) := by decide +kernel
theorem d_Mo_at_12 : decode b_Mo_at 12 = .ok (.invokestatic 66, 3) := by decide +kernel
theorem d_Mo_at_15 : decode b_Mo_at 15 = .ok (.ifCond .eq 7, 3) := by decide +kernel
theorem d_Mo_at_18 : decode b_Mo_at 18 = .ok (.iconst 1, 1) := by decide +kernel
theorem d_Mo_at_19 : decode b_Mo_at 19 = .ok (.goto 4, 3) := by decide +kernel
theorem d_Mo_at_22 : decode b_Mo_at 22 = .ok (.iconst 0, 1) := by decide +kernel
theorem d_Mo_at_23 : decode b_Mo_at 23 = .ok (.aload_n 0, 1) := by decide +kernel
theorem d_Mo_at_24 : decode b_Mo_at 24 = .ok (.getfield 124, 3) := by decide +kernel
theorem d_Mo_at_27 : decode b_Mo_at 27 = .ok (.iconst 1, 1) := by decide +kernel
theorem d_Mo_at_28 : decode b_Mo_at 28 = .ok (.invokevirtual 71, 3) := by decide +kernel
theorem d_Mo_at_31 : decode b_Mo_at 31 = .ok (.ifCond .ne 5, 3) := by decide +kernel
theorem d_Mo_at_34 : decode b_Mo_at 34 = .ok (.iconst 0, 1) := by decide +kernel
theorem d_Mo_at_35 : decode b_Mo_at 35 = .ok (.ireturn, 1) := by decide +kernel
theorem d_Mo_at_36 : decode b_Mo_at 36 = .ok (.aload_n 0, 1) := by decide +kernel
theorem d_Mo_at_37 : decode b_Mo_at 37 = .ok (.getfield 121, 3) := by decide +kernel
theorem d_Mo_at_40 : decode b_Mo_at 40 = .ok (.istore_n 3, 1) := by decide +kernel
theorem d_Mo_at_41 : decode b_Mo_at 41 = .ok (.iconst 0, 1) := by decide +kernel
theorem d_Mo_at_42 : decode b_Mo_at 42 = .ok (.istore 4, 2) := by decide +kernel
theorem d_Mo_at_44 : decode b_Mo_at 44 = .ok (.iload 4, 2) := by decide +kernel
theorem d_Mo_at_46 : decode b_Mo_at 46 = .ok (.iload_n 1, 1) := by decide +kernel
theorem d_Mo_at_47 : decode b_Mo_at 47 = .ok (.if_icmp .ge 46, 3) := by decide +kernel
theorem d_Mo_at_50 : decode b_Mo_at 50 = .ok (.aload_n 0, 1) := by decide +kernel
theorem d_Mo_at_51 : decode b_Mo_at 51 = .ok (.getfield 35, 3) := by decide +kernel
theorem d_Mo_at_54 : decode b_Mo_at 54 = .ok (.iload 4, 2) := by decide +kernel
theorem d_Mo_at_56 : decode b_Mo_at 56 = .ok (.iaload, 1) := by decide +kernel
theorem d_Mo_at_57 : decode b_Mo_at 57 = .ok (.iconst (-1), 1) := by decide +kernel
theorem d_Mo_at_58 : decode b_Mo_at 58 = .ok (.if_icmp .ne 7, 3) := by decide +kernel
theorem d_Mo_at_61 : decode b_Mo_at 61 = .ok (.iload_n 3, 1) := by decide +kernel
theorem d_Mo_at_62 : decode b_Mo_at 62 = .ok (.goto 24, 3) := by decide +kernel
theorem d_Mo_at_65 : decode b_Mo_at 65 = .ok (.iload_n 3, 1) := by decide +kernel
theorem d_Mo_at_66 : decode b_Mo_at 66 = .ok (.aload_n 0, 1) := by decide +kernel
theorem d_Mo_at_67 : decode b_Mo_at 67 = .ok (.iload 4, 2) := by decide +kernel
theorem d_Mo_at_69 : decode b_Mo_at 69 = .ok (.aload_n 0, 1) := by decide +kernel
theorem d_Mo_at_70 : decode b_Mo_at 70 = .ok (.getfield 35, 3) := by decide +kernel
theorem d_Mo_at_73 : decode b_Mo_at 73 = .ok (.iload 4, 2) := by decide +kernel
theorem d_Mo_at_75 : decode b_Mo_at 75 = .ok (.iaload, 1) := by decide +kernel
theorem d_Mo_at_76 : decode b_Mo_at 76 = .ok (.iconst 0, 1) := by decide +kernel
theorem d_Mo_at_77 : decode b_Mo_at 77 = .ok (.invokevirtual 93, 3) := by decide +kernel
theorem d_Mo_at_80 : decode b_Mo_at 80 = .ok (.iadd, 1) := by decide +kernel
theorem d_Mo_at_81 : decode b_Mo_at 81 = .ok (.aload_n 0, 1) := by decide +kernel
theorem d_Mo_at_82 : decode b_Mo_at 82 = .ok (.getfield 121, 3) := by decide +kernel
theorem d_Mo_at_85 : decode b_Mo_at 85 = .ok (.iadd, 1) := by decide +kernel
theorem d_Mo_at_86 : decode b_Mo_at 86 = .ok (.istore_n 3, 1) := by decide +kernel
theorem d_Mo_at_87 : decode b_Mo_at 87 = .ok (.iinc 4 1, 3) := by decide +kernel
theorem d_Mo_at_90 : decode b_Mo_at 90 = .ok (.goto (-46), 3) := by decide +kernel
theorem d_Mo_at_93 : decode b_Mo_at 93 = .ok (.iload_n 2, 1) := by decide +kernel
theorem d_Mo_at_94 : decode b_Mo_at 94 = .ok (.iconst (-1), 1) := by decide +kernel
theorem d_Mo_at_95 : decode b_Mo_at 95 = .ok (.if_icmp .eq 13, 3) := by decide +kernel
theorem d_Mo_at_98 : decode b_Mo_at 98 = .ok (.aload_n 0, 1) := by decide +kernel
theorem d_Mo_at_99 : decode b_Mo_at 99 = .ok (.getfield 35, 3) := by decide +kernel
theorem d_Mo_at_102 : decode b_Mo_at 102 = .ok (.iload_n 1, 1) := by decide +kernel
theorem d_Mo_at_103 : decode b_Mo_at 103 = .ok (.iaload, 1) := by decide +kernel
theorem d_Mo_at_104 : decode b_Mo_at 104 = .ok (.iconst (-1), 1) := by decide +kernel
theorem d_Mo_at_105 : decode b_Mo_at 105 = .ok (.if_icmp .ne 12, 3) := by decide +kernel
theorem d_Mo_at_108 : decode b_Mo_at 108 = .ok (.aload_n 0, 1) := by decide +kernel
theorem d_Mo_at_109 : decode b_Mo_at 109 = .ok (.getfield 35, 3) := by decide +kernel
theorem d_Mo_at_112 : decode b_Mo_at 112 = .ok (.iload_n 1, 1) := by decide +kernel
theorem d_Mo_at_113 : decode b_Mo_at 113 = .ok (.iaload, 1) := by decide +kernel
theorem d_Mo_at_114 : decode b_Mo_at 114 = .ok (.goto 4, 3) := by decide +kernel
theorem d_Mo_at_117 : decode b_Mo_at 117 = .ok (.iload_n 3, 1) := by decide +kernel
theorem d_Mo_at_118 : decode b_Mo_at 118 = .ok (.ireturn, 1) := by decide +kernel
theorem d_Mo_crate_0 : decode b_Mo_crate 0 = .ok (.aload_n 0, 1) := by decide +kernel
theorem d_Mo_crate_1 : decode b_Mo_crate 1 = .ok (.aload_n 0, 1) := by decide +kernel
theorem d_Mo_crate_2 : decode b_Mo_crate 2 = .ok (.getfield 128, 3) := by decide +kernel
theorem d_Mo_crate_5 : decode b_Mo_crate 5 = .ok (.bipush 10, 2) := by decide +kernel
theorem d_Mo_crate_7 : decode b_Mo_crate 7 = .ok (.if_icmp .ge 7, 3) := by decide +kernel
theorem d_Mo_crate_10 : decode b_Mo_crate 10 = .ok (.iconst 1, 1) := by decide +kernel
theorem d_Mo_crate_11 : decode b_Mo_crate 11 = .ok (.goto 4, 3) := by decide +kernel
theorem d_Mo_crate_14 : decode b_Mo_crate 14 = .ok (.iconst 0, 1) := by decide +kernel
theorem d_Mo_crate_15 : decode b_Mo_crate 15 = .ok (.iload_n 1, 1) := by decide +kernel
theorem d_Mo_crate_16 : decode b_Mo_crate 16 = .ok (.iconst 1, 1) := by decide +kernel
theorem d_Mo_crate_17 : decode b_Mo_crate 17 = .ok (.sipush 2000, 3) := by decide +kernel
theorem d_Mo_crate_20 : decode b_Mo_crate 20 = .ok (.invokestatic 66, 3) := by decide +kernel
theorem d_Mo_crate_23 : decode b_Mo_crate 23 = .ok (.ifCond .eq 29, 3) := by decide +kernel
theorem d_Mo_crate_26 : decode b_Mo_crate 26 = .ok (.iload_n 2, 1) := by decide +kernel
theorem d_Mo_crate_27 : decode b_Mo_crate 27 = .ok (.iconst 1, 1) := by decide +kernel
theorem d_Mo_crate_28 : decode b_Mo_crate 28 = .ok (.sipush 2000, 3) := by decide +kernel
theorem d_Mo_crate_31 : decode b_Mo_crate 31 = .ok (.invokestatic 66, 3) := by decide +kernel
theorem d_Mo_crate_34 : decode b_Mo_crate 34 = .ok (.ifCond .eq 18, 3) := by decide +kernel
theorem d_Mo_crate_37 : decode b_Mo_crate 37 = .ok (.iload_n 3, 1) := by decide +kernel
theorem d_Mo_crate_38 : decode b_Mo_crate 38 = .ok (.iconst 1, 1) := by decide +kernel
theorem d_Mo_crate_39 : decode b_Mo_crate 39 = .ok (.sipush 2000, 3) := by decide +kernel
theorem d_Mo_crate_42 : decode b_Mo_crate 42 = .ok (.invokestatic 66, 3) := by decide +kernel
theorem d_Mo_crate_45 : decode b_Mo_crate 45 = .ok (.ifCond .eq 7, 3) := by decide +kernel
theorem d_Mo_crate_48 : decode b_Mo_crate 48 = .ok (.iconst 1, 1) := by decide +kernel
theorem d_Mo_crate_49 : decode b_Mo_crate 49 = .ok (.goto 4, 3) := by decide +kernel
theorem d_Mo_crate_52 : decode b_Mo_crate 52 = .ok (.iconst 0, 1) := by decide +kernel
theorem d_Mo_crate_53 : decode b_Mo_crate 53 = .ok (.iconst 1, 1) := by decide +kernel
theorem d_Mo_crate_54 : decode b_Mo_crate 54 = .ok (.invokevirtual 71, 3) := by decide +kernel
theorem d_Mo_crate_57 : decode b_Mo_crate 57 = .ok (.ifCond .ne 5, 3) := by decide +kernel
theorem d_Mo_crate_60 : decode b_Mo_crate 60 = .ok (.iconst 0, 1) := by decide +kernel
theorem d_Mo_crate_61 : decode b_Mo_crate 61 = .ok (.ireturn, 1) := by decide +kernel
theorem d_Mo_crate_62 : decode b_Mo_crate 62 = .ok (.aload_n 0, 1) := by decide +kernel
theorem d_Mo_crate_63 : decode b_Mo_crate 63 = .ok (.getfield 44, 3) := by decide +kernel
theorem d_Mo_crate_66 : decode b_Mo_crate 66 = .ok (.iconst 3, 1) := by decide +kernel
theorem d_Mo_crate_67 : decode b_Mo_crate 67 = .ok (.aload_n 0, 1) := by decide +kernel
theorem d_Mo_crate_68 : decode b_Mo_crate 68 = .ok (.getfield 128, 3) := by decide +kernel
theorem d_Mo_crate_71 : decode b_Mo_crate 71 = .ok (.imul, 1) := by decide +kernel
theorem d_Mo_crate_72 : decode b_Mo_crate 72 = .ok (.iload_n 1, 1) := by decide +kernel
theorem d_Mo_crate_73 : decode b_Mo_crate 73 = .ok (.iastore, 1) := by decide +kernel
theorem d_Mo_crate_74 : decode b_Mo_crate 74 = .ok (.aload_n 0, 1) := by decide +kernel
theorem d_Mo_crate_75 : decode b_Mo_crate 75 = .ok (.getfield 44, 3) := by decide +kernel
theorem d_Mo_crate_78 : decode b_Mo_crate 78 = .ok (.iconst 3, 1) := by decide +kernel
theorem d_Mo_crate_79 : decode b_Mo_crate 79 = .ok (.aload_n 0, 1) := by decide +kernel
theorem d_Mo_crate_80 : decode b_Mo_crate 80 = .ok (.getfield 128, 3) := by decide +kernel
theorem d_Mo_crate_83 : decode b_Mo_crate 83 = .ok (.imul, 1) := by decide +kernel
theorem d_Mo_crate_84 : decode b_Mo_crate 84 = .ok (.iconst 1, 1) := by decide +kernel
theorem d_Mo_crate_85 : decode b_Mo_crate 85 = .ok (.iadd, 1) := by decide +kernel
theorem d_Mo_crate_86 : decode b_Mo_crate 86 = .ok (.iload_n 2, 1) := by decide +kernel
theorem d_Mo_crate_87 : decode b_Mo_crate 87 = .ok (.iastore, 1) := by decide +kernel
theorem d_Mo_crate_88 : decode b_Mo_crate 88 = .ok (.aload_n 0, 1) := by decide +kernel
theorem d_Mo_crate_89 : decode b_Mo_crate 89 = .ok (.getfield 44, 3) := by decide +kernel
theorem d_Mo_crate_92 : decode b_Mo_crate 92 = .ok (.iconst 3, 1) := by decide +kernel
theorem d_Mo_crate_93 : decode b_Mo_crate 93 = .ok (.aload_n 0, 1) := by decide +kernel
theorem d_Mo_crate_94 : decode b_Mo_crate 94 = .ok (.getfield 128, 3) := by decide +kernel
theorem d_Mo_crate_97 : decode b_Mo_crate 97 = .ok (.imul, 1) := by decide +kernel
theorem d_Mo_crate_98 : decode b_Mo_crate 98 = .ok (.iconst 2, 1) := by decide +kernel
theorem d_Mo_crate_99 : decode b_Mo_crate 99 = .ok (.iadd, 1) := by decide +kernel
theorem d_Mo_crate_100 : decode b_Mo_crate 100 = .ok (.iload_n 3, 1) := by decide +kernel
theorem d_Mo_crate_101 : decode b_Mo_crate 101 = .ok (.iastore, 1) := by decide +kernel
theorem d_Mo_crate_102 : decode b_Mo_crate 102 = .ok (.aload_n 0, 1) := by decide +kernel
theorem d_Mo_crate_103 : decode b_Mo_crate 103 = .ok (.dup, 1) := by decide +kernel
theorem d_Mo_crate_104 : decode b_Mo_crate 104 = .ok (.getfield 128, 3) := by decide +kernel
theorem d_Mo_crate_107 : decode b_Mo_crate 107 = .ok (.iconst 1, 1) := by decide +kernel
theorem d_Mo_crate_108 : decode b_Mo_crate 108 = .ok (.iadd, 1) := by decide +kernel
theorem d_Mo_crate_109 : decode b_Mo_crate 109 = .ok (.putfield 128, 3) := by decide +kernel
theorem d_Mo_crate_112 : decode b_Mo_crate 112 = .ok (.aload_n 0, 1) := by decide +kernel
theorem d_Mo_crate_113 : decode b_Mo_crate 113 = .ok (.getfield 128, 3) := by decide +kernel
theorem d_Mo_crate_116 : decode b_Mo_crate 116 = .ok (.iconst 1, 1) := by decide +kernel
theorem d_Mo_crate_117 : decode b_Mo_crate 117 = .ok (.isub, 1) := by decide +kernel
theorem d_Mo_crate_118 : decode b_Mo_crate 118 = .ok (.ireturn, 1) := by decide +kernel
theorem d_Mo_match_0 : decode b_Mo_match 0 = .ok (.aload_n 0, 1) := by decide +kernel
theorem d_Mo_match_1 : decode b_Mo_match 1 = .ok (.aload_n 0, 1) := by decide +kernel
theorem d_Mo_match_2 : decode b_Mo_match 2 = .ok (.getfield 124, 3) := by decide +kernel
theorem d_Mo_match_5 : decode b_Mo_match 5 = .ok (.iconst 1, 1) := by decide +kernel
theorem d_Mo_match_6 : decode b_Mo_match 6 = .ok (.iconst 1, 1) := by decide +kernel
theorem d_Mo_match_7 : decode b_Mo_match 7 = .ok (.invokevirtual 71, 3) := by decide +kernel
theorem d_Mo_match_10 : decode b_Mo_match 10 = .ok (.ifCond .ne 5, 3) := by decide +kernel
theorem d_Mo_match_13 : decode b_Mo_match 13 = .ok (.iconst 0, 1) := by decide +kernel
theorem d_Mo_match_14 : decode b_Mo_match 14 = .ok (.ireturn, 1) := by decide +kernel
theorem d_Mo_match_15 : decode b_Mo_match 15 = .ok (.iconst (-1), 1) := by decide +kernel
theorem d_Mo_match_16 : decode b_Mo_match 16 = .ok (.istore_n 1, 1) := by decide +kernel
theorem d_Mo_match_17 : decode b_Mo_match 17 = .ok (.lconst 0, 1) := by decide +kernel
theorem d_Mo_match_18 : decode b_Mo_match 18 = .ok (.lstore_n 2, 1) := by decide +kernel
theorem d_Mo_match_19 : decode b_Mo_match 19 = .ok (.iconst 0, 1) := by decide +kernel
theorem d_Mo_match_20 : decode b_Mo_match 20 = .ok (.istore 4, 2) := by decide +kernel
theorem d_Mo_match_22 : decode b_Mo_match 22 = .ok (.iload 4, 2) := by decide +kernel
theorem d_Mo_match_24 : decode b_Mo_match 24 = .ok (.aload_n 0, 1) := by decide +kernel
theorem d_Mo_match_25 : decode b_Mo_match 25 = .ok (.getfield 128, 3) := by decide +kernel
theorem d_Mo_match_28 : decode b_Mo_match 28 = .ok (.if_icmp .ge 84, 3) := by decide +kernel
theorem d_Mo_match_31 : decode b_Mo_match 31 = .ok (.aload_n 0, 1) := by decide +kernel
theorem d_Mo_match_32 : decode b_Mo_match 32 = .ok (.getfield 44, 3) := by decide +kernel
theorem d_Mo_match_35 : decode b_Mo_match 35 = .ok (.iconst 3, 1) := by decide +kernel
theorem d_Mo_match_36 : decode b_Mo_match 36 = .ok (.iload 4, 2) := by decide +kernel
theorem d_Mo_match_38 : decode b_Mo_match 38 = .ok (.imul, 1) := by decide +kernel
theorem d_Mo_match_39 : decode b_Mo_match 39 = .ok (.iaload, 1) := by decide +kernel
theorem d_Mo_match_40 : decode b_Mo_match 40 = .ok (.i2l, 1) := by decide +kernel
theorem d_Mo_match_41 : decode b_Mo_match 41 = .ok (.aload_n 0, 1) := by decide +kernel
theorem d_Mo_match_42 : decode b_Mo_match 42 = .ok (.getfield 44, 3) := by decide +kernel
theorem d_Mo_match_45 : decode b_Mo_match 45 = .ok (.iconst 3, 1) := by decide +kernel
theorem d_Mo_match_46 : decode b_Mo_match 46 = .ok (.iload 4, 2) := by decide +kernel
theorem d_Mo_match_48 : decode b_Mo_match 48 = .ok (.imul, 1) := by decide +kernel
theorem d_Mo_match_49 : decode b_Mo_match 49 = .ok (.iconst 1, 1) := by decide +kernel
theorem d_Mo_match_50 : decode b_Mo_match 50 = .ok (.iadd, 1) := by decide +kernel
theorem d_Mo_match_51 : decode b_Mo_match 51 = .ok (.iaload, 1) := by decide +kernel
theorem d_Mo_match_52 : decode b_Mo_match 52 = .ok (.i2l, 1) := by decide +kernel
theorem d_Mo_match_53 : decode b_Mo_match 53 = .ok (.lmul, 1) := by decide +kernel
theorem d_Mo_match_54 : decode b_Mo_match 54 = .ok (.aload_n 0, 1) := by decide +kernel
theorem d_Mo_match_55 : decode b_Mo_match 55 = .ok (.getfield 44, 3) := by decide +kernel
theorem d_Mo_match_58 : decode b_Mo_match 58 = .ok (.iconst 3, 1) := by decide +kernel
theorem d_Mo_match_59 : decode b_Mo_match 59 = .ok (.iload 4, 2) := by decide +kernel
theorem d_Mo_match_61 : decode b_Mo_match 61 = .ok (.imul, 1) := by decide +kernel
theorem d_Mo_match_62 : decode b_Mo_match 62 = .ok (.iconst 2, 1) := by decide +kernel
theorem d_Mo_match_63 : decode b_Mo_match 63 = .ok (.iadd, 1) := by decide +kernel
theorem d_Mo_match_64 : decode b_Mo_match 64 = .ok (.iaload, 1) := by decide +kernel
theorem d_Mo_match_65 : decode b_Mo_match 65 = .ok (.i2l, 1) := by decide +kernel
theorem d_Mo_match_66 : decode b_Mo_match 66 = .ok (.lmul, 1) := by decide +kernel
theorem d_Mo_match_67 : decode b_Mo_match 67 = .ok (.lstore 5, 2) := by decide +kernel
theorem d_Mo_match_69 : decode b_Mo_match 69 = .ok (.aload_n 0, 1) := by decide +kernel
theorem d_Mo_match_70 : decode b_Mo_match 70 = .ok (.getfield 47, 3) := by decide +kernel
theorem d_Mo_match_73 : decode b_Mo_match 73 = .ok (.iload 4, 2) := by decide +kernel
theorem d_Mo_match_75 : decode b_Mo_match 75 = .ok (.baload, 1) := by decide +kernel
theorem d_Mo_match_76 : decode b_Mo_match 76 = .ok (.ifCond .ne 30, 3) := by decide +kernel
theorem d_Mo_match_79 : decode b_Mo_match 79 = .ok (.aload_n 0, 1) := by decide +kernel
theorem d_Mo_match_80 : decode b_Mo_match 80 = .ok (.iload 4, 2) := by decide +kernel
theorem d_Mo_match_82 : decode b_Mo_match 82 = .ok (.invokevirtual 131, 3) := by decide +kernel
theorem d_Mo_match_85 : decode b_Mo_match 85 = .ok (.ifCond .eq 21, 3) := by decide +kernel
theorem d_Mo_match_88 : decode b_Mo_match 88 = .ok (.iload_n 1, 1) := by decide +kernel
theorem d_Mo_match_89 : decode b_Mo_match 89 = .ok (.iconst (-1), 1) := by decide +kernel
theorem d_Mo_match_90 : decode b_Mo_match 90 = .ok (.if_icmp .eq 10, 3) := by decide +kernel
theorem d_Mo_match_93 : decode b_Mo_match 93 = .ok (.lload 5, 2) := by decide +kernel
theorem d_Mo_match_95 : decode b_Mo_match 95 = .ok (.lload_n 2, 1) := by decide +kernel
theorem d_Mo_match_96 : decode b_Mo_match 96 = .ok (.lcmp, 1) := by decide +kernel
theorem d_Mo_match_97 : decode b_Mo_match 97 = .ok (.ifCond .ge 9, 3) := by decide +kernel
theorem d_Mo_match_100 : decode b_Mo_match 100 = .ok (.iload 4, 2) := by decide +kernel
theorem d_Mo_match_102 : decode b_Mo_match 102 = .ok (.istore_n 1, 1) := by decide +kernel
theorem d_Mo_match_103 : decode b_Mo_match 103 = .ok (.lload 5, 2) := by decide +kernel
theorem d_Mo_match_105 : decode b_Mo_match 105 = .ok (.lstore_n 2, 1) := by decide +kernel
theorem d_Mo_match_106 : decode b_Mo_match 106 = .ok (.iinc 4 1, 3) := by decide +kernel
theorem d_Mo_match_109 : decode b_Mo_match 109 = .ok (.goto (-87), 3) := by decide +kernel
theorem d_Mo_match_112 : decode b_Mo_match 112 = .ok (.iload_n 1, 1) := by decide +kernel
theorem d_Mo_match_113 : decode b_Mo_match 113 = .ok (.iconst (-1), 1) := by decide +kernel
theorem d_Mo_match_114 : decode b_Mo_match 114 = .ok (.if_icmp .eq 10, 3) := by decide +kernel
theorem d_Mo_match_117 : decode b_Mo_match 117 = .ok (.aload_n 0, 1) := by decide +kernel
theorem d_Mo_match_118 : decode b_Mo_match 118 = .ok (.getfield 47, 3) := by decide +kernel
theorem d_Mo_match_121 : decode b_Mo_match 121 = .ok (.iload_n 1, 1) := by decide +kernel
theorem d_Mo_match_122 : decode b_Mo_match 122 = .ok (.iconst 1, 1) := by decide +kernel
theorem d_Mo_match_123 : decode b_Mo_match 123 = .ok (.bastore, 1) := by decide +kernel
theorem d_Mo_match_124 : decode b_Mo_match 124 = .ok (.iload_n 1, 1) := by decide +kernel
theorem d_Mo_match_125 : decode b_Mo_match 125 = .ok (.ireturn, 1) := by decide +kernel
theorem d_Mo_hasRoom_0 : decode b_Mo_hasRoom 0 = .ok (.aload_n 0, 1) := by decide +kernel
theorem d_Mo_hasRoom_1 : decode b_Mo_hasRoom 1 = .ok (.getfield 44, 3) := by decide +kernel
theorem d_Mo_hasRoom_4 : decode b_Mo_hasRoom 4 = .ok (.iconst 3, 1) := by decide +kernel
theorem d_Mo_hasRoom_5 : decode b_Mo_hasRoom 5 = .ok (.iload_n 1, 1) := by decide +kernel
theorem d_Mo_hasRoom_6 : decode b_Mo_hasRoom 6 = .ok (.imul, 1) := by decide +kernel
theorem d_Mo_hasRoom_7 : decode b_Mo_hasRoom 7 = .ok (.iaload, 1) := by decide +kernel
theorem d_Mo_hasRoom_8 : decode b_Mo_hasRoom 8 = .ok (.istore_n 2, 1) := by decide +kernel
theorem d_Mo_hasRoom_9 : decode b_Mo_hasRoom 9 = .ok (.aload_n 0, 1) := by decide +kernel
theorem d_Mo_hasRoom_10 : decode b_Mo_hasRoom 10 = .ok (.getfield 44, 3) := by decide +kernel
theorem d_Mo_hasRoom_13 : decode b_Mo_hasRoom 13 = .ok (.iconst 3, 1) := by decide +kernel
theorem d_Mo_hasRoom_14 : decode b_Mo_hasRoom 14 = .ok (.iload_n 1, 1) := by decide +kernel
theorem d_Mo_hasRoom_15 : decode b_Mo_hasRoom 15 = .ok (.imul, 1) := by decide +kernel
theorem d_Mo_hasRoom_16 : decode b_Mo_hasRoom 16 = .ok (.iconst 1, 1) := by decide +kernel
theorem d_Mo_hasRoom_17 : decode b_Mo_hasRoom 17 = .ok (.iadd, 1) := by decide +kernel
theorem d_Mo_hasRoom_18 : decode b_Mo_hasRoom 18 = .ok (.iaload, 1) := by decide +kernel
theorem d_Mo_hasRoom_19 : decode b_Mo_hasRoom 19 = .ok (.istore_n 3, 1) := by decide +kernel
theorem d_Mo_hasRoom_20 : decode b_Mo_hasRoom 20 = .ok (.aload_n 0, 1) := by decide +kernel
theorem d_Mo_hasRoom_21 : decode b_Mo_hasRoom 21 = .ok (.getfield 112, 3) := by decide +kernel
theorem d_Mo_hasRoom_24 : decode b_Mo_hasRoom 24 = .ok (.iload_n 2, 1) := by decide +kernel
theorem d_Mo_hasRoom_25 : decode b_Mo_hasRoom 25 = .ok (.if_icmp .gt 15, 3) := by decide +kernel
theorem d_Mo_hasRoom_28 : decode b_Mo_hasRoom 28 = .ok (.aload_n 0, 1) := by decide +kernel
theorem d_Mo_hasRoom_29 : decode b_Mo_hasRoom 29 = .ok (.getfield 115, 3) := by decide +kernel
theorem d_Mo_hasRoom_32 : decode b_Mo_hasRoom 32 = .ok (.iload_n 3, 1) := by decide +kernel
theorem d_Mo_hasRoom_33 : decode b_Mo_hasRoom 33 = .ok (.if_icmp .gt 7, 3) := by decide +kernel
theorem d_Mo_hasRoom_36 : decode b_Mo_hasRoom 36 = .ok (.iconst 1, 1) := by decide +kernel
theorem d_Mo_hasRoom_37 : decode b_Mo_hasRoom 37 = .ok (.goto 4, 3) := by decide +kernel
theorem d_Mo_hasRoom_40 : decode b_Mo_hasRoom 40 = .ok (.iconst 0, 1) := by decide +kernel
theorem d_Mo_hasRoom_41 : decode b_Mo_hasRoom 41 = .ok (.istore 4, 2) := by decide +kernel
theorem d_Mo_hasRoom_43 : decode b_Mo_hasRoom 43 = .ok (.aload_n 0, 1) := by decide +kernel
theorem d_Mo_hasRoom_44 : decode b_Mo_hasRoom 44 = .ok (.getfield 112, 3) := by decide +kernel
theorem d_Mo_hasRoom_47 : decode b_Mo_hasRoom 47 = .ok (.iload_n 3, 1) := by decide +kernel
theorem d_Mo_hasRoom_48 : decode b_Mo_hasRoom 48 = .ok (.if_icmp .gt 15, 3) := by decide +kernel
theorem d_Mo_hasRoom_51 : decode b_Mo_hasRoom 51 = .ok (.aload_n 0, 1) := by decide +kernel
theorem d_Mo_hasRoom_52 : decode b_Mo_hasRoom 52 = .ok (.getfield 115, 3) := by decide +kernel
theorem d_Mo_hasRoom_55 : decode b_Mo_hasRoom 55 = .ok (.iload_n 2, 1) := by decide +kernel
theorem d_Mo_hasRoom_56 : decode b_Mo_hasRoom 56 = .ok (.if_icmp .gt 7, 3) := by decide +kernel
theorem d_Mo_hasRoom_59 : decode b_Mo_hasRoom 59 = .ok (.iconst 1, 1) := by decide +kernel
theorem d_Mo_hasRoom_60 : decode b_Mo_hasRoom 60 = .ok (.goto 4, 3) := by decide +kernel
theorem d_Mo_hasRoom_63 : decode b_Mo_hasRoom 63 = .ok (.iconst 0, 1) := by decide +kernel
theorem d_Mo_hasRoom_64 : decode b_Mo_hasRoom 64 = .ok (.istore 5, 2) := by decide +kernel
theorem d_Mo_hasRoom_66 : decode b_Mo_hasRoom 66 = .ok (.iload 4, 2) := by decide +kernel
theorem d_Mo_hasRoom_68 : decode b_Mo_hasRoom 68 = .ok (.ifCond .ne 8, 3) := by decide +kernel
theorem d_Mo_hasRoom_71 : decode b_Mo_hasRoom 71 = .ok (.iload 5, 2) := by decide +kernel
theorem d_Mo_hasRoom_73 : decode b_Mo_hasRoom 73 = .ok (.ifCond .eq 24, 3) := by decide +kernel
theorem d_Mo_hasRoom_76 : decode b_Mo_hasRoom 76 = .ok (.aload_n 0, 1) := by decide +kernel
theorem d_Mo_hasRoom_77 : decode b_Mo_hasRoom 77 = .ok (.getfield 118, 3) := by decide +kernel
theorem d_Mo_hasRoom_80 : decode b_Mo_hasRoom 80 = .ok (.aload_n 0, 1) := by decide +kernel
theorem d_Mo_hasRoom_81 : decode b_Mo_hasRoom 81 = .ok (.getfield 44, 3) := by decide +kernel
theorem d_Mo_hasRoom_84 : decode b_Mo_hasRoom 84 = .ok (.iconst 3, 1) := by decide +kernel
theorem d_Mo_hasRoom_85 : decode b_Mo_hasRoom 85 = .ok (.iload_n 1, 1) := by decide +kernel
theorem d_Mo_hasRoom_86 : decode b_Mo_hasRoom 86 = .ok (.imul, 1) := by decide +kernel
theorem d_Mo_hasRoom_87 : decode b_Mo_hasRoom 87 = .ok (.iconst 2, 1) := by decide +kernel
theorem d_Mo_hasRoom_88 : decode b_Mo_hasRoom 88 = .ok (.iadd, 1) := by decide +kernel
theorem d_Mo_hasRoom_89 : decode b_Mo_hasRoom 89 = .ok (.iaload, 1) := by decide +kernel
theorem d_Mo_hasRoom_90 : decode b_Mo_hasRoom 90 = .ok (.if_icmp .gt 7, 3) := by decide +kernel
theorem d_Mo_hasRoom_93 : decode b_Mo_hasRoom 93 = .ok (.iconst 1, 1) := by decide +kernel
theorem d_Mo_hasRoom_94 : decode b_Mo_hasRoom 94 = .ok (.goto 4, 3) := by decide +kernel
theorem d_Mo_hasRoom_97 : decode b_Mo_hasRoom 97 = .ok (.iconst 0, 1) := by decide +kernel
theorem d_Mo_hasRoom_98 : decode b_Mo_hasRoom 98 = .ok (.ireturn, 1) := by decide +kernel
theorem d_Mo_free_0 : decode b_Mo_free 0 = .ok (.aload_n 0, 1) := by decide +kernel
theorem d_Mo_free_1 : decode b_Mo_free 1 = .ok (.iload_n 1, 1) := by decide +kernel
theorem d_Mo_free_2 : decode b_Mo_free 2 = .ok (.ifCond .lt 15, 3) := by decide +kernel
theorem d_Mo_free_5 : decode b_Mo_free 5 = .ok (.iload_n 1, 1) := by decide +kernel
theorem d_Mo_free_6 : decode b_Mo_free 6 = .ok (.aload_n 0, 1) := by decide +kernel
theorem d_Mo_free_7 : decode b_Mo_free 7 = .ok (.getfield 128, 3) := by decide +kernel
theorem d_Mo_free_10 : decode b_Mo_free 10 = .ok (.if_icmp .ge 7, 3) := by decide +kernel
theorem d_Mo_free_13 : decode b_Mo_free 13 = .ok (.iconst 1, 1) := by decide +kernel
theorem d_Mo_free_14 : decode b_Mo_free 14 = .ok (.goto 4, 3) := by decide +kernel
theorem d_Mo_free_17 : decode b_Mo_free 17 = .ok (.iconst 0, 1) := by decide +kernel
theorem d_Mo_free_18 : decode b_Mo_free 18 = .ok (.iconst 1, 1) := by decide +kernel
theorem d_Mo_free_19 : decode b_Mo_free 19 = .ok (.iconst 1, 1) := by decide +kernel
theorem d_Mo_free_20 : decode b_Mo_free 20 = .ok (.invokevirtual 71, 3) := by decide +kernel
theorem d_Mo_free_23 : decode b_Mo_free 23 = .ok (.ifCond .ne 5, 3) := by decide +kernel
theorem d_Mo_free_26 : decode b_Mo_free 26 = .ok (.iconst 0, 1) := by decide +kernel
theorem d_Mo_free_27 : decode b_Mo_free 27 = .ok (.ireturn, 1) := by decide +kernel
theorem d_Mo_free_28 : decode b_Mo_free 28 = .ok (.aload_n 0, 1) := by decide +kernel
theorem d_Mo_free_29 : decode b_Mo_free 29 = .ok (.getfield 47, 3) := by decide +kernel
theorem d_Mo_free_32 : decode b_Mo_free 32 = .ok (.iload_n 1, 1) := by decide +kernel
theorem d_Mo_free_33 : decode b_Mo_free 33 = .ok (.baload, 1) := by decide +kernel
theorem d_Mo_free_34 : decode b_Mo_free 34 = .ok (.istore_n 2, 1) := by decide +kernel
theorem d_Mo_free_35 : decode b_Mo_free 35 = .ok (.aload_n 0, 1) := by decide +kernel
theorem d_Mo_free_36 : decode b_Mo_free 36 = .ok (.getfield 47, 3) := by decide +kernel
theorem d_Mo_free_39 : decode b_Mo_free 39 = .ok (.iload_n 1, 1) := by decide +kernel
theorem d_Mo_free_40 : decode b_Mo_free 40 = .ok (.iconst 0, 1) := by decide +kernel
theorem d_Mo_free_41 : decode b_Mo_free 41 = .ok (.bastore, 1) := by decide +kernel
theorem d_Mo_free_42 : decode b_Mo_free 42 = .ok (.iload_n 2, 1) := by decide +kernel
theorem d_Mo_free_43 : decode b_Mo_free 43 = .ok (.ireturn, 1) := by decide +kernel
theorem d_Mo_split_0 : decode b_Mo_split 0 = .ok (.aload_n 0, 1) := by decide +kernel
theorem d_Mo_split_1 : decode b_Mo_split 1 = .ok (.iload_n 1, 1) := by decide +kernel
theorem d_Mo_split_2 : decode b_Mo_split 2 = .ok (.iconst 1, 1) := by decide +kernel
theorem d_Mo_split_3 : decode b_Mo_split 3 = .ok (.if_icmp .lt 7, 3) := by decide +kernel
theorem d_Mo_split_6 : decode b_Mo_split 6 = .ok (.iconst 1, 1) := by decide +kernel
theorem d_Mo_split_7 : decode b_Mo_split 7 = .ok (.goto 4, 3) := by decide +kernel
theorem d_Mo_split_10 : decode b_Mo_split 10 = .ok (.iconst 0, 1) := by decide +kernel
theorem d_Mo_split_11 : decode b_Mo_split 11 = .ok (.iconst 1, 1) := by decide +kernel
theorem d_Mo_split_12 : decode b_Mo_split 12 = .ok (.iconst 1, 1) := by decide +kernel
theorem d_Mo_split_13 : decode b_Mo_split 13 = .ok (.invokevirtual 71, 3) := by decide +kernel
theorem d_Mo_split_16 : decode b_Mo_split 16 = .ok (.ifCond .ne 5, 3) := by decide +kernel
theorem d_Mo_split_19 : decode b_Mo_split 19 = .ok (.iconst 0, 1) := by decide +kernel
theorem d_Mo_split_20 : decode b_Mo_split 20 = .ok (.ireturn, 1) := by decide +kernel
theorem d_Mo_split_21 : decode b_Mo_split 21 = .ok (.iconst 1, 1) := by decide +kernel
theorem d_Mo_split_22 : decode b_Mo_split 22 = .ok (.aload_n 0, 1) := by decide +kernel
theorem d_Mo_split_23 : decode b_Mo_split 23 = .ok (.getfield 63, 3) := by decide +kernel
theorem d_Mo_split_26 : decode b_Mo_split 26 = .ok (.ishl, 1) := by decide +kernel
theorem d_Mo_split_27 : decode b_Mo_split 27 = .ok (.istore_n 2, 1) := by decide +kernel
theorem d_Mo_split_28 : decode b_Mo_split 28 = .ok (.iconst 0, 1) := by decide +kernel
theorem d_Mo_split_29 : decode b_Mo_split 29 = .ok (.istore_n 3, 1) := by decide +kernel
theorem d_Mo_split_30 : decode b_Mo_split 30 = .ok (.iload_n 3, 1) := by decide +kernel
theorem d_Mo_split_31 : decode b_Mo_split 31 = .ok (.iload_n 2, 1) := by decide +kernel
theorem d_Mo_split_32 : decode b_Mo_split 32 = .ok (.if_icmp .ge 117, 3) := by decide +kernel
theorem d_Mo_split_35 : decode b_Mo_split 35 = .ok (.aload_n 0, 1) := by decide +kernel
theorem d_Mo_split_36 : decode b_Mo_split 36 = .ok (.getfield 41, 3) := by decide +kernel
theorem d_Mo_split_39 : decode b_Mo_split 39 = .ok (.iload_n 3, 1) := by decide +kernel
theorem d_Mo_split_40 : decode b_Mo_split 40 = .ok (.iload_n 3, 1) := by decide +kernel
theorem d_Mo_split_41 : decode b_Mo_split 41 = .ok (.ifCond .ne 7, 3) := by decide +kernel
theorem d_Mo_split_44 : decode b_Mo_split 44 = .ok (.iconst 0, 1) := by decide +kernel
theorem d_Mo_split_45 : decode b_Mo_split 45 = .ok (.goto 5, 3) := by decide +kernel
theorem d_Mo_split_48 : decode b_Mo_split 48 = .ok (.bipush 99, 2) := by decide +kernel
theorem d_Mo_split_50 : decode b_Mo_split 50 = .ok (.iastore, 1) := by decide +kernel
theorem d_Mo_split_51 : decode b_Mo_split 51 = .ok (.iconst 1, 1) := by decide +kernel
theorem d_Mo_split_52 : decode b_Mo_split 52 = .ok (.istore 4, 2) := by decide +kernel
theorem d_Mo_split_54 : decode b_Mo_split 54 = .ok (.iload 4, 2) := by decide +kernel
theorem d_Mo_split_56 : decode b_Mo_split 56 = .ok (.iload_n 3, 1) := by decide +kernel
theorem d_Mo_split_57 : decode b_Mo_split 57 = .ok (.if_icmp .gt 86, 3) := by decide +kernel
theorem d_Mo_split_60 : decode b_Mo_split 60 = .ok (.iload 4, 2) := by decide +kernel
theorem d_Mo_split_62 : decode b_Mo_split 62 = .ok (.iload_n 3, 1) := by decide +kernel
theorem d_Mo_split_63 : decode b_Mo_split 63 = .ok (.iand, 1) := by decide +kernel
theorem d_Mo_split_64 : decode b_Mo_split 64 = .ok (.iload 4, 2) := by decide +kernel
theorem d_Mo_split_66 : decode b_Mo_split 66 = .ok (.if_icmp .ne 17, 3) := by decide +kernel
theorem d_Mo_split_69 : decode b_Mo_split 69 = .ok (.aload_n 0, 1) := by decide +kernel
theorem d_Mo_split_70 : decode b_Mo_split 70 = .ok (.iload 4, 2) := by decide +kernel
theorem d_Mo_split_72 : decode b_Mo_split 72 = .ok (.invokevirtual 134, 3) := by decide +kernel
theorem d_Mo_split_75 : decode b_Mo_split 75 = .ok (.iload_n 1, 1) := by decide +kernel
theorem d_Mo_split_76 : decode b_Mo_split 76 = .ok (.if_icmp .gt 7, 3) := by decide +kernel
theorem d_Mo_split_79 : decode b_Mo_split 79 = .ok (.iconst 1, 1) := by decide +kernel
theorem d_Mo_split_80 : decode b_Mo_split 80 = .ok (.goto 4, 3) := by decide +kernel
theorem d_Mo_split_83 : decode b_Mo_split 83 = .ok (.iconst 0, 1) := by decide +kernel
theorem d_Mo_split_84 : decode b_Mo_split 84 = .ok (.istore 5, 2) := by decide +kernel
theorem d_Mo_split_86 : decode b_Mo_split 86 = .ok (.aload_n 0, 1) := by decide +kernel
theorem d_Mo_split_87 : decode b_Mo_split 87 = .ok (.getfield 41, 3) := by decide +kernel
theorem d_Mo_split_90 : decode b_Mo_split 90 = .ok (.iload_n 3, 1) := by decide +kernel
theorem d_Mo_split_91 : decode b_Mo_split 91 = .ok (.iload 5, 2) := by decide +kernel
theorem d_Mo_split_93 : decode b_Mo_split 93 = .ok (.ifCond .eq 37, 3) := by decide +kernel
theorem d_Mo_split_96 : decode b_Mo_split 96 = .ok (.aload_n 0, 1) := by decide +kernel
theorem d_Mo_split_97 : decode b_Mo_split 97 = .ok (.getfield 41, 3) := by decide +kernel
theorem d_Mo_split_100 : decode b_Mo_split 100 = .ok (.iload_n 3, 1) := by decide +kernel
theorem d_Mo_split_101 : decode b_Mo_split 101 = .ok (.iload 4, 2) := by decide +kernel
theorem d_Mo_split_103 : decode b_Mo_split 103 = .ok (.isub, 1) := by decide +kernel
theorem d_Mo_split_104 : decode b_Mo_split 104 = .ok (.iaload, 1) := by decide +kernel
theorem d_Mo_split_105 : decode b_Mo_split 105 = .ok (.iconst 1, 1) := by decide +kernel
theorem d_Mo_split_106 : decode b_Mo_split 106 = .ok (.iadd, 1) := by decide +kernel
theorem d_Mo_split_107 : decode b_Mo_split 107 = .ok (.aload_n 0, 1) := by decide +kernel
theorem d_Mo_split_108 : decode b_Mo_split 108 = .ok (.getfield 41, 3) := by decide +kernel
theorem d_Mo_split_111 : decode b_Mo_split 111 = .ok (.iload_n 3, 1) := by decide +kernel
theorem d_Mo_split_112 : decode b_Mo_split 112 = .ok (.iaload, 1) := by decide +kernel
theorem d_Mo_split_113 : decode b_Mo_split 113 = .ok (.if_icmp .ge 17, 3) := by decide +kernel
theorem d_Mo_split_116 : decode b_Mo_split 116 = .ok (.aload_n 0, 1) := by decide +kernel
theorem d_Mo_split_117 : decode b_Mo_split 117 = .ok (.getfield 41, 3) := by decide +kernel
theorem d_Mo_split_120 : decode b_Mo_split 120 = .ok (.iload_n 3, 1) := by decide +kernel
theorem d_Mo_split_121 : decode b_Mo_split 121 = .ok (.iload 4, 2) := by decide +kernel
theorem d_Mo_split_123 : decode b_Mo_split 123 = .ok (.isub, 1) := by decide +kernel
theorem d_Mo_split_124 : decode b_Mo_split 124 = .ok (.iaload, 1) := by decide +kernel
theorem d_Mo_split_125 : decode b_Mo_split 125 = .ok (.iconst 1, 1) := by decide +kernel
theorem d_Mo_split_126 : decode b_Mo_split 126 = .ok (.iadd, 1) := by decide +kernel
theorem d_Mo_split_127 : decode b_Mo_split 127 = .ok (.goto 9, 3) := by decide +kernel
theorem d_Mo_split_130 : decode b_Mo_split 130 = .ok (.aload_n 0, 1) := by decide +kernel
theorem d_Mo_split_131 : decode b_Mo_split 131 = .ok (.getfield 41, 3) := by decide +kernel
theorem d_Mo_split_134 : decode b_Mo_split 134 = .ok (.iload_n 3, 1) := by decide +kernel
theorem d_Mo_split_135 : decode b_Mo_split 135 = .ok (.iaload, 1) := by decide +kernel
theorem d_Mo_split_136 : decode b_Mo_split 136 = .ok (.iastore, 1) := by decide +kernel
theorem d_Mo_split_137 : decode b_Mo_split 137 = .ok (.iinc 4 1, 3) := by decide +kernel
theorem d_Mo_split_140 : decode b_Mo_split 140 = .ok (.goto (-86), 3) := by decide +kernel
theorem d_Mo_split_143 : decode b_Mo_split 143 = .ok (.iinc 3 1, 3) := by decide +kernel
theorem d_Mo_split_146 : decode b_Mo_split 146 = .ok (.goto (-116), 3) := by decide +kernel
theorem d_Mo_split_149 : decode b_Mo_split 149 = .ok (.aload_n 0, 1) := by decide +kernel
theorem d_Mo_split_150 : decode b_Mo_split 150 = .ok (.getfield 41, 3) := by decide +kernel
theorem d_Mo_split_153 : decode b_Mo_split 153 = .ok (.iload_n 2, 1) := by decide +kernel
theorem d_Mo_split_154 : decode b_Mo_split 154 = .ok (.iconst 1, 1) := by decide +kernel
theorem d_Mo_split_155 : decode b_Mo_split 155 = .ok (.isub, 1) := by decide +kernel
theorem d_Mo_split_156 : decode b_Mo_split 156 = .ok (.iaload, 1) := by decide +kernel
theorem d_Mo_split_157 : decode b_Mo_split 157 = .ok (.bipush 6, 2) := by decide +kernel
theorem d_Mo_split_159 : decode b_Mo_split 159 = .ok (.if_icmp .le 7, 3) := by decide +kernel
theorem d_Mo_split_162 : decode b_Mo_split 162 = .ok (.iconst (-1), 1) := by decide +kernel
theorem d_Mo_split_163 : decode b_Mo_split 163 = .ok (.goto 11, 3) := by decide +kernel
theorem d_Mo_split_166 : decode b_Mo_split 166 = .ok (.aload_n 0, 1) := by decide +kernel
theorem d_Mo_split_167 : decode b_Mo_split 167 = .ok (.getfield 41, 3) := by decide +kernel
theorem d_Mo_split_170 : decode b_Mo_split 170 = .ok (.iload_n 2, 1) := by decide +kernel
theorem d_Mo_split_171 : decode b_Mo_split 171 = .ok (.iconst 1, 1) := by decide +kernel
theorem d_Mo_split_172 : decode b_Mo_split 172 = .ok (.isub, 1) := by decide +kernel
theorem d_Mo_split_173 : decode b_Mo_split 173 = .ok (.iaload, 1) := by decide +kernel
theorem d_Mo_split_174 : decode b_Mo_split 174 = .ok (.ireturn, 1) := by decide +kernel
theorem d_Mo_weight_0 : decode b_Mo_weight 0 = .ok (.iconst 0, 1) := by decide +kernel
theorem d_Mo_weight_1 : decode b_Mo_weight 1 = .ok (.istore_n 2, 1) := by decide +kernel
theorem d_Mo_weight_2 : decode b_Mo_weight 2 = .ok (.iconst 0, 1) := by decide +kernel
theorem d_Mo_weight_3 : decode b_Mo_weight 3 = .ok (.istore_n 3, 1) := by decide +kernel
theorem d_Mo_weight_4 : decode b_Mo_weight 4 = .ok (.iload_n 3, 1) := by decide +kernel
theorem d_Mo_weight_5 : decode b_Mo_weight 5 = .ok (.aload_n 0, 1) := by decide +kernel
theorem d_Mo_weight_6 : decode b_Mo_weight 6 = .ok (.getfield 63, 3) := by decide +kernel
theorem d_Mo_weight_9 : decode b_Mo_weight 9 = .ok (.if_icmp .ge 30, 3) := by decide +kernel
theorem d_Mo_weight_12 : decode b_Mo_weight 12 = .ok (.iload_n 1, 1) := by decide +kernel
theorem d_Mo_weight_13 : decode b_Mo_weight 13 = .ok (.iload_n 3, 1) := by decide +kernel
theorem d_Mo_weight_14 : decode b_Mo_weight 14 = .ok (.invokestatic 90, 3) := by decide +kernel
theorem d_Mo_weight_17 : decode b_Mo_weight 17 = .ok (.ifCond .eq 14, 3) := by decide +kernel
theorem d_Mo_weight_20 : decode b_Mo_weight 20 = .ok (.iload_n 2, 1) := by decide +kernel
theorem d_Mo_weight_21 : decode b_Mo_weight 21 = .ok (.aload_n 0, 1) := by decide +kernel
theorem d_Mo_weight_22 : decode b_Mo_weight 22 = .ok (.getfield 13, 3) := by decide +kernel
theorem d_Mo_weight_25 : decode b_Mo_weight 25 = .ok (.iload_n 3, 1) := by decide +kernel
theorem d_Mo_weight_26 : decode b_Mo_weight 26 = .ok (.iaload, 1) := by decide +kernel
theorem d_Mo_weight_27 : decode b_Mo_weight 27 = .ok (.iadd, 1) := by decide +kernel
theorem d_Mo_weight_28 : decode b_Mo_weight 28 = .ok (.goto 4, 3) := by decide +kernel
theorem d_Mo_weight_31 : decode b_Mo_weight 31 = .ok (.iload_n 2, 1) := by decide +kernel
theorem d_Mo_weight_32 : decode b_Mo_weight 32 = .ok (.istore_n 2, 1) := by decide +kernel
theorem d_Mo_weight_33 : decode b_Mo_weight 33 = .ok (.iinc 3 1, 3) := by decide +kernel
theorem d_Mo_weight_36 : decode b_Mo_weight 36 = .ok (.goto (-32), 3) := by decide +kernel
theorem d_Mo_weight_39 : decode b_Mo_weight 39 = .ok (.iload_n 2, 1) := by decide +kernel
theorem d_Mo_weight_40 : decode b_Mo_weight 40 = .ok (.ireturn, 1) := by decide +kernel
theorem d_Mo_lag_0 : decode b_Mo_lag 0 = .ok (.aload_n 0, 1) := by decide +kernel
theorem d_Mo_lag_1 : decode b_Mo_lag 1 = .ok (.iload_n 1, 1) := by decide +kernel
theorem d_Mo_lag_2 : decode b_Mo_lag 2 = .ok (.iconst 1, 1) := by decide +kernel
theorem d_Mo_lag_3 : decode b_Mo_lag 3 = .ok (.bipush 100, 2) := by decide +kernel
theorem d_Mo_lag_5 : decode b_Mo_lag 5 = .ok (.invokestatic 66, 3) := by decide +kernel
theorem d_Mo_lag_8 : decode b_Mo_lag 8 = .ok (.iconst 1, 1) := by decide +kernel
theorem d_Mo_lag_9 : decode b_Mo_lag 9 = .ok (.iconst 1, 1) := by decide +kernel
theorem d_Mo_lag_10 : decode b_Mo_lag 10 = .ok (.invokevirtual 71, 3) := by decide +kernel
theorem d_Mo_lag_13 : decode b_Mo_lag 13 = .ok (.ifCond .ne 5, 3) := by decide +kernel
theorem d_Mo_lag_16 : decode b_Mo_lag 16 = .ok (.iconst 0, 1) := by decide +kernel
theorem d_Mo_lag_17 : decode b_Mo_lag 17 = .ok (.ireturn, 1) := by decide +kernel
theorem d_Mo_lag_18 : decode b_Mo_lag 18 = .ok (.aload_n 0, 1) := by decide +kernel
theorem d_Mo_lag_19 : decode b_Mo_lag 19 = .ok (.getfield 53, 3) := by decide +kernel
theorem d_Mo_lag_22 : decode b_Mo_lag 22 = .ok (.istore_n 2, 1) := by decide +kernel
theorem d_Mo_lag_23 : decode b_Mo_lag 23 = .ok (.aload_n 0, 1) := by decide +kernel
theorem d_Mo_lag_24 : decode b_Mo_lag 24 = .ok (.iload_n 1, 1) := by decide +kernel
theorem d_Mo_lag_25 : decode b_Mo_lag 25 = .ok (.putfield 53, 3) := by decide +kernel
theorem d_Mo_lag_28 : decode b_Mo_lag 28 = .ok (.iload_n 2, 1) := by decide +kernel
theorem d_Mo_lag_29 : decode b_Mo_lag 29 = .ok (.ireturn, 1) := by decide +kernel
theorem d_Mo_climate_0 : decode b_Mo_climate 0 = .ok (.aload_n 0, 1) := by decide +kernel
theorem d_Mo_climate_1 : decode b_Mo_climate 1 = .ok (.aload_n 0, 1) := by decide +kernel
theorem d_Mo_climate_2 : decode b_Mo_climate 2 = .ok (.getfield 138, 3) := by decide +kernel
theorem d_Mo_climate_5 : decode b_Mo_climate 5 = .ok (.sipush 200, 3) := by decide +kernel
theorem d_Mo_climate_8 : decode b_Mo_climate 8 = .ok (.if_icmp .ge 7, 3) := by decide +kernel
theorem d_Mo_climate_11 : decode b_Mo_climate 11 = .ok (.iconst 1, 1) := by decide +kernel
theorem d_Mo_climate_12 : decode b_Mo_climate 12 = .ok (.goto 4, 3) := by decide +kernel
theorem d_Mo_climate_15 : decode b_Mo_climate 15 = .ok (.iconst 0, 1) := by decide +kernel
theorem d_Mo_climate_16 : decode b_Mo_climate 16 = .ok (.iload_n 1, 1) := by decide +kernel
theorem d_Mo_climate_17 : decode b_Mo_climate 17 = .ok (.bipush (-60), 2) := by decide +kernel
theorem d_Mo_climate_19 : decode b_Mo_climate 19 = .ok (.bipush 60, 2) := by decide +kernel
theorem d_Mo_climate_21 : decode b_Mo_climate 21 = .ok (.invokestatic 66, 3) := by decide +kernel
theorem d_Mo_climate_24 : decode b_Mo_climate 24 = .ok (.iconst 1, 1) := by decide +kernel
theorem d_Mo_climate_25 : decode b_Mo_climate 25 = .ok (.invokevirtual 71, 3) := by decide +kernel
theorem d_Mo_climate_28 : decode b_Mo_climate 28 = .ok (.ifCond .ne 5, 3) := by decide +kernel
theorem d_Mo_climate_31 : decode b_Mo_climate 31 = .ok (.iconst 0, 1) := by decide +kernel
theorem d_Mo_climate_32 : decode b_Mo_climate 32 = .ok (.ireturn, 1) := by decide +kernel
theorem d_Mo_climate_33 : decode b_Mo_climate 33 = .ok (.aload_n 0, 1) := by decide +kernel
theorem d_Mo_climate_34 : decode b_Mo_climate 34 = .ok (.getfield 138, 3) := by decide +kernel
theorem d_Mo_climate_37 : decode b_Mo_climate 37 = .ok (.ifCond .ne 9, 3) := by decide +kernel
theorem d_Mo_climate_40 : decode b_Mo_climate 40 = .ok (.sipush 20000, 3) := by decide +kernel
theorem d_Mo_climate_43 : decode b_Mo_climate 43 = .ok (.goto 14, 3) := by decide +kernel
theorem d_Mo_climate_46 : decode b_Mo_climate 46 = .ok (.aload_n 0, 1) := by decide +kernel
theorem d_Mo_climate_47 : decode b_Mo_climate 47 = .ok (.getfield 50, 3) := by decide +kernel
theorem d_Mo_climate_50 : decode b_Mo_climate 50 = .ok (.aload_n 0, 1) := by decide +kernel
theorem d_Mo_climate_51 : decode b_Mo_climate 51 = .ok (.getfield 138, 3) := by decide +kernel
theorem d_Mo_climate_54 : decode b_Mo_climate 54 = .ok (.iconst 1, 1) := by decide +kernel
theorem d_Mo_climate_55 : decode b_Mo_climate 55 = .ok (.isub, 1) := by decide +kernel
theorem d_Mo_climate_56 : decode b_Mo_climate 56 = .ok (.iaload, 1) := by decide +kernel
theorem d_Mo_climate_57 : decode b_Mo_climate 57 = .ok (.istore_n 2, 1) := by decide +kernel
theorem d_Mo_climate_58 : decode b_Mo_climate 58 = .ok (.aload_n 0, 1) := by decide +kernel
theorem d_Mo_climate_59 : decode b_Mo_climate 59 = .ok (.getfield 50, 3) := by decide +kernel
theorem d_Mo_climate_62 : decode b_Mo_climate 62 = .ok (.aload_n 0, 1) := by decide +kernel
theorem d_Mo_climate_63 : decode b_Mo_climate 63 = .ok (.getfield 138, 3) := by decide +kernel
theorem d_Mo_climate_66 : decode b_Mo_climate 66 = .ok (.iload_n 2, 1) := by decide +kernel
theorem d_Mo_climate_67 : decode b_Mo_climate 67 = .ok (.iload_n 2, 1) := by decide +kernel
theorem d_Mo_climate_68 : decode b_Mo_climate 68 = .ok (.sipush 1000, 3) := by decide +kernel
theorem d_Mo_climate_71 : decode b_Mo_climate 71 = .ok (.iload_n 1, 1) := by decide +kernel
theorem d_Mo_climate_72 : decode b_Mo_climate 72 = .ok (.imul, 1) := by decide +kernel
theorem d_Mo_climate_73 : decode b_Mo_climate 73 = .ok (.isub, 1) := by decide +kernel
theorem d_Mo_climate_74 : decode b_Mo_climate 74 = .ok (.aload_n 0, 1) := by decide +kernel
theorem d_Mo_climate_75 : decode b_Mo_climate 75 = .ok (.getfield 53, 3) := by decide +kernel
theorem d_Mo_climate_78 : decode b_Mo_climate 78 = .ok (.invokestatic 83, 3) := by decide +kernel
theorem d_Mo_climate_81 : decode b_Mo_climate 81 = .ok (.isub, 1) := by decide +kernel
theorem d_Mo_climate_82 : decode b_Mo_climate 82 = .ok (.iastore, 1) := by decide +kernel
theorem d_Mo_climate_83 : decode b_Mo_climate 83 = .ok (.aload_n 0, 1) := by decide +kernel
theorem d_Mo_climate_84 : decode b_Mo_climate 84 = .ok (.dup, 1) := by decide +kernel
theorem d_Mo_climate_85 : decode b_Mo_climate 85 = .ok (.getfield 138, 3) := by decide +kernel
theorem d_Mo_climate_88 : decode b_Mo_climate 88 = .ok (.iconst 1, 1) := by decide +kernel
theorem d_Mo_climate_89 : decode b_Mo_climate 89 = .ok (.iadd, 1) := by decide +kernel
theorem d_Mo_climate_90 : decode b_Mo_climate 90 = .ok (.putfield 138, 3) := by decide +kernel
theorem d_Mo_climate_93 : decode b_Mo_climate 93 = .ok (.aload_n 0, 1) := by decide +kernel
theorem d_Mo_climate_94 : decode b_Mo_climate 94 = .ok (.getfield 50, 3) := by decide +kernel
theorem d_Mo_climate_97 : decode b_Mo_climate 97 = .ok (.aload_n 0, 1) := by decide +kernel
theorem d_Mo_climate_98 : decode b_Mo_climate 98 = .ok (.getfield 138, 3) := by decide +kernel
theorem d_Mo_climate_101 : decode b_Mo_climate 101 = .ok (.iconst 1, 1) := by decide +kernel
theorem d_Mo_climate_102 : decode b_Mo_climate 102 = .ok (.isub, 1) := by decide +kernel
theorem d_Mo_climate_103 : decode b_Mo_climate 103 = .ok (.iaload, 1) := by decide +kernel
theorem d_Mo_climate_104 : decode b_Mo_climate 104 = .ok (.ireturn, 1) := by decide +kernel
theorem d_Mo_inside_0 : decode b_Mo_inside 0 = .ok (.aload_n 0, 1) := by decide +kernel
theorem d_Mo_inside_1 : decode b_Mo_inside 1 = .ok (.iload_n 1, 1) := by decide +kernel
theorem d_Mo_inside_2 : decode b_Mo_inside 2 = .ok (.ifCond .lt 15, 3) := by decide +kernel
theorem d_Mo_inside_5 : decode b_Mo_inside 5 = .ok (.iload_n 1, 1) := by decide +kernel
theorem d_Mo_inside_6 : decode b_Mo_inside 6 = .ok (.aload_n 0, 1) := by decide +kernel
theorem d_Mo_inside_7 : decode b_Mo_inside 7 = .ok (.getfield 138, 3) := by decide +kernel
theorem d_Mo_inside_10 : decode b_Mo_inside 10 = .ok (.if_icmp .ge 7, 3) := by decide +kernel
theorem d_Mo_inside_13 : decode b_Mo_inside 13 = .ok (.iconst 1, 1) := by decide +kernel
theorem d_Mo_inside_14 : decode b_Mo_inside 14 = .ok (.goto 4, 3) := by decide +kernel
theorem d_Mo_inside_17 : decode b_Mo_inside 17 = .ok (.iconst 0, 1) := by decide +kernel
theorem d_Mo_inside_18 : decode b_Mo_inside 18 = .ok (.iconst 1, 1) := by decide +kernel
theorem d_Mo_inside_19 : decode b_Mo_inside 19 = .ok (.iconst 1, 1) := by decide +kernel
theorem d_Mo_inside_20 : decode b_Mo_inside 20 = .ok (.invokevirtual 71, 3) := by decide +kernel
theorem d_Mo_inside_23 : decode b_Mo_inside 23 = .ok (.ifCond .eq 12, 3) := by decide +kernel
theorem d_Mo_inside_26 : decode b_Mo_inside 26 = .ok (.aload_n 0, 1) := by decide +kernel
theorem d_Mo_inside_27 : decode b_Mo_inside 27 = .ok (.getfield 50, 3) := by decide +kernel
theorem d_Mo_inside_30 : decode b_Mo_inside 30 = .ok (.iload_n 1, 1) := by decide +kernel
theorem d_Mo_inside_31 : decode b_Mo_inside 31 = .ok (.iaload, 1) := by decide +kernel
theorem d_Mo_inside_32 : decode b_Mo_inside 32 = .ok (.goto 4, 3) := by decide +kernel
theorem d_Mo_inside_35 : decode b_Mo_inside 35 = .ok (.iconst 0, 1) := by decide +kernel
theorem d_Mo_inside_36 : decode b_Mo_inside 36 = .ok (.ireturn, 1) := by decide +kernel
theorem d_Mo_steady_0 : decode b_Mo_steady 0 = .ok (.aload_n 0, 1) := by decide +kernel
theorem d_Mo_steady_1 : decode b_Mo_steady 1 = .ok (.iload_n 1, 1) := by decide +kernel
theorem d_Mo_steady_2 : decode b_Mo_steady 2 = .ok (.iload_n 2, 1) := by decide +kernel
theorem d_Mo_steady_3 : decode b_Mo_steady 3 = .ok (.if_icmp .gt 7, 3) := by decide +kernel
theorem d_Mo_steady_6 : decode b_Mo_steady 6 = .ok (.iconst 1, 1) := by decide +kernel
theorem d_Mo_steady_7 : decode b_Mo_steady 7 = .ok (.goto 4, 3) := by decide +kernel
theorem d_Mo_steady_10 : decode b_Mo_steady 10 = .ok (.iconst 0, 1) := by decide +kernel
theorem d_Mo_steady_11 : decode b_Mo_steady 11 = .ok (.iconst 1, 1) := by decide +kernel
theorem d_Mo_steady_12 : decode b_Mo_steady 12 = .ok (.iconst 1, 1) := by decide +kernel
theorem d_Mo_steady_13 : decode b_Mo_steady 13 = .ok (.invokevirtual 71, 3) := by decide +kernel
theorem d_Mo_steady_16 : decode b_Mo_steady 16 = .ok (.ifCond .ne 5, 3) := by decide +kernel
theorem d_Mo_steady_19 : decode b_Mo_steady 19 = .ok (.iconst 0, 1) := by decide +kernel
theorem d_Mo_steady_20 : decode b_Mo_steady 20 = .ok (.ireturn, 1) := by decide +kernel
theorem d_Mo_steady_21 : decode b_Mo_steady 21 = .ok (.iconst 0, 1) := by decide +kernel
theorem d_Mo_steady_22 : decode b_Mo_steady 22 = .ok (.istore_n 3, 1) := by decide +kernel
theorem d_Mo_steady_23 : decode b_Mo_steady 23 = .ok (.iconst 0, 1) := by decide +kernel
theorem d_Mo_steady_24 : decode b_Mo_steady 24 = .ok (.istore 4, 2) := by decide +kernel
theorem d_Mo_steady_26 : decode b_Mo_steady 26 = .ok (.iconst 0, 1) := by decide +kernel
theorem d_Mo_steady_27 : decode b_Mo_steady 27 = .ok (.istore 5, 2) := by decide +kernel
theorem d_Mo_steady_29 : decode b_Mo_steady 29 = .ok (.iload 5, 2) := by decide +kernel
theorem d_Mo_steady_31 : decode b_Mo_steady 31 = .ok (.aload_n 0, 1) := by decide +kernel
theorem d_Mo_steady_32 : decode b_Mo_steady 32 = .ok (.getfield 138, 3) := by decide +kernel
theorem d_Mo_steady_35 : decode b_Mo_steady 35 = .ok (.if_icmp .ge 47, 3) := by decide +kernel
theorem d_Mo_steady_38 : decode b_Mo_steady 38 = .ok (.aload_n 0, 1) := by decide +kernel
theorem d_Mo_steady_39 : decode b_Mo_steady 39 = .ok (.getfield 50, 3) := by decide +kernel
theorem d_Mo_steady_42 : decode b_Mo_steady 42 = .ok (.iload 5, 2) := by decide +kernel
theorem d_Mo_steady_44 : decode b_Mo_steady 44 = .ok (.iaload, 1) := by decide +kernel
theorem d_Mo_steady_45 : decode b_Mo_steady 45 = .ok (.iload_n 1, 1) := by decide +kernel
theorem d_Mo_steady_46 : decode b_Mo_steady 46 = .ok (.iload_n 2, 1) := by decide +kernel
theorem d_Mo_steady_47 : decode b_Mo_steady 47 = .ok (.invokestatic 66, 3) := by decide +kernel
theorem d_Mo_steady_50 : decode b_Mo_steady 50 = .ok (.ifCond .eq 10, 3) := by decide +kernel
theorem d_Mo_steady_53 : decode b_Mo_steady 53 = .ok (.iload 4, 2) := by decide +kernel
theorem d_Mo_steady_55 : decode b_Mo_steady 55 = .ok (.iconst 1, 1) := by decide +kernel
theorem d_Mo_steady_56 : decode b_Mo_steady 56 = .ok (.iadd, 1) := by decide +kernel
theorem d_Mo_steady_57 : decode b_Mo_steady 57 = .ok (.goto 4, 3) := by decide +kernel
theorem d_Mo_steady_60 : decode b_Mo_steady 60 = .ok (.iconst 0, 1) := by decide +kernel
theorem d_Mo_steady_61 : decode b_Mo_steady 61 = .ok (.istore 4, 2) := by decide +kernel
theorem d_Mo_steady_63 : decode b_Mo_steady 63 = .ok (.iload 4, 2) := by decide +kernel
theorem d_Mo_steady_65 : decode b_Mo_steady 65 = .ok (.iload_n 3, 1) := by decide +kernel
theorem d_Mo_steady_66 : decode b_Mo_steady 66 = .ok (.if_icmp .le 8, 3) := by decide +kernel
theorem d_Mo_steady_69 : decode b_Mo_steady 69 = .ok (.iload 4, 2) := by decide +kernel
theorem d_Mo_steady_71 : decode b_Mo_steady 71 = .ok (.goto 4, 3) := by decide +kernel
theorem d_Mo_steady_74 : decode b_Mo_steady 74 = .ok (.iload_n 3, 1) := by decide +kernel
theorem d_Mo_steady_75 : decode b_Mo_steady 75 = .ok (.istore_n 3, 1) := by decide +kernel
theorem d_Mo_steady_76 : decode b_Mo_steady 76 = .ok (.iinc 5 1, 3) := by decide +kernel
theorem d_Mo_steady_79 : decode b_Mo_steady 79 = .ok (.goto (-50), 3) := by decide +kernel
theorem d_Mo_steady_82 : decode b_Mo_steady 82 = .ok (.iload_n 3, 1) := by decide +kernel
theorem d_Mo_steady_83 : decode b_Mo_steady 83 = .ok (.ireturn, 1) := by decide +kernel
theorem d_Mo_limit_0 : decode b_Mo_limit 0 = .ok (.aload_n 0, 1) := by decide +kernel
theorem d_Mo_limit_1 : decode b_Mo_limit 1 = .ok (.iload_n 1, 1) := by decide +kernel
theorem d_Mo_limit_2 : decode b_Mo_limit 2 = .ok (.iconst 1, 1) := by decide +kernel
theorem d_Mo_limit_3 : decode b_Mo_limit 3 = .ok (.sipush 10000, 3) := by decide +kernel
theorem d_Mo_limit_6 : decode b_Mo_limit 6 = .ok (.invokestatic 66, 3) := by decide +kernel
theorem d_Mo_limit_9 : decode b_Mo_limit 9 = .ok (.ifCond .eq 18, 3) := by decide +kernel
theorem d_Mo_limit_12 : decode b_Mo_limit 12 = .ok (.iload_n 2, 1) := by decide +kernel
theorem d_Mo_limit_13 : decode b_Mo_limit 13 = .ok (.iconst 1, 1) := by decide +kernel
theorem d_Mo_limit_14 : decode b_Mo_limit 14 = .ok (.sipush 10000, 3) := by decide +kernel
theorem d_Mo_limit_17 : decode b_Mo_limit 17 = .ok (.invokestatic 66, 3) := by decide +kernel
theorem d_Mo_limit_20 : decode b_Mo_limit 20 = .ok (.ifCond .eq 7, 3) := by decide +kernel
theorem d_Mo_limit_23 : decode b_Mo_limit 23 = .ok (.iconst 1, 1) := by decide +kernel
theorem d_Mo_limit_24 : decode b_Mo_limit 24 = .ok (.goto 4, 3) := by decide +kernel
theorem d_Mo_limit_27 : decode b_Mo_limit 27 = .ok (.iconst 0, 1) := by decide +kernel
theorem d_Mo_limit_28 : decode b_Mo_limit 28 = .ok (.iconst 1, 1) := by decide +kernel
theorem d_Mo_limit_29 : decode b_Mo_limit 29 = .ok (.iconst 1, 1) := by decide +kernel
theorem d_Mo_limit_30 : decode b_Mo_limit 30 = .ok (.invokevirtual 71, 3) := by decide +kernel
theorem d_Mo_limit_33 : decode b_Mo_limit 33 = .ok (.ifCond .eq 18, 3) := by decide +kernel
theorem d_Mo_limit_36 : decode b_Mo_limit 36 = .ok (.aload_n 0, 1) := by decide +kernel
theorem d_Mo_limit_37 : decode b_Mo_limit 37 = .ok (.iload_n 1, 1) := by decide +kernel
theorem d_Mo_limit_38 : decode b_Mo_limit 38 = .ok (.putfield 141, 3) := by decide +kernel
theorem d_Mo_limit_41 : decode b_Mo_limit 41 = .ok (.aload_n 0, 1) := by decide +kernel
theorem d_Mo_limit_42 : decode b_Mo_limit 42 = .ok (.iload_n 2, 1) := by decide +kernel
theorem d_Mo_limit_43 : decode b_Mo_limit 43 = .ok (.putfield 144, 3) := by decide +kernel
theorem d_Mo_limit_46 : decode b_Mo_limit 46 = .ok (.aload_n 0, 1) := by decide +kernel
theorem d_Mo_limit_47 : decode b_Mo_limit 47 = .ok (.iconst 1, 1) := by decide +kernel
theorem d_Mo_limit_48 : decode b_Mo_limit 48 = .ok (.putfield 147, 3) := by decide +kernel
theorem d_Mo_limit_51 : decode b_Mo_limit 51 = .ok (.return_, 1) := by decide +kernel
theorem d_Mo_shock_0 : decode b_Mo_shock 0 = .ok (.aload_n 0, 1) := by decide +kernel
theorem d_Mo_shock_1 : decode b_Mo_shock 1 = .ok (.iload_n 1, 1) := by decide +kernel
theorem d_Mo_shock_2 : decode b_Mo_shock 2 = .ok (.iconst 0, 1) := by decide +kernel
theorem d_Mo_shock_3 : decode b_Mo_shock 3 = .ok (.sipush 10000, 3) := by decide +kernel
theorem d_Mo_shock_6 : decode b_Mo_shock 6 = .ok (.invokestatic 66, 3) := by decide +kernel
theorem d_Mo_shock_9 : decode b_Mo_shock 9 = .ok (.ifCond .eq 18, 3) := by decide +kernel
theorem d_Mo_shock_12 : decode b_Mo_shock 12 = .ok (.iload_n 2, 1) := by decide +kernel
theorem d_Mo_shock_13 : decode b_Mo_shock 13 = .ok (.iconst 0, 1) := by decide +kernel
theorem d_Mo_shock_14 : decode b_Mo_shock 14 = .ok (.sipush 10000, 3) := by decide +kernel
theorem d_Mo_shock_17 : decode b_Mo_shock 17 = .ok (.invokestatic 66, 3) := by decide +kernel
theorem d_Mo_shock_20 : decode b_Mo_shock 20 = .ok (.ifCond .eq 7, 3) := by decide +kernel
theorem d_Mo_shock_23 : decode b_Mo_shock 23 = .ok (.iconst 1, 1) := by decide +kernel
theorem d_Mo_shock_24 : decode b_Mo_shock 24 = .ok (.goto 4, 3) := by decide +kernel
theorem d_Mo_shock_27 : decode b_Mo_shock 27 = .ok (.iconst 0, 1) := by decide +kernel
theorem d_Mo_shock_28 : decode b_Mo_shock 28 = .ok (.iconst 1, 1) := by decide +kernel
theorem d_Mo_shock_29 : decode b_Mo_shock 29 = .ok (.iconst 1, 1) := by decide +kernel
theorem d_Mo_shock_30 : decode b_Mo_shock 30 = .ok (.invokevirtual 71, 3) := by decide +kernel
theorem d_Mo_shock_33 : decode b_Mo_shock 33 = .ok (.ifCond .ne 5, 3) := by decide +kernel
theorem d_Mo_shock_36 : decode b_Mo_shock 36 = .ok (.iconst 0, 1) := by decide +kernel
theorem d_Mo_shock_37 : decode b_Mo_shock 37 = .ok (.ireturn, 1) := by decide +kernel
theorem d_Mo_shock_38 : decode b_Mo_shock 38 = .ok (.aload_n 0, 1) := by decide +kernel
theorem d_Mo_shock_39 : decode b_Mo_shock 39 = .ok (.getfield 147, 3) := by decide +kernel
theorem d_Mo_shock_42 : decode b_Mo_shock 42 = .ok (.ifCond .eq 33, 3) := by decide +kernel
theorem d_Mo_shock_45 : decode b_Mo_shock 45 = .ok (.iload_n 1, 1) := by decide +kernel
theorem d_Mo_shock_46 : decode b_Mo_shock 46 = .ok (.aload_n 0, 1) := by decide +kernel
theorem d_Mo_shock_47 : decode b_Mo_shock 47 = .ok (.getfield 141, 3) := by decide +kernel
theorem d_Mo_shock_50 : decode b_Mo_shock 50 = .ok (.if_icmp .gt 21, 3) := by decide +kernel
theorem d_Mo_shock_53 : decode b_Mo_shock 53 = .ok (.iload_n 1, 1) := by decide +kernel
theorem d_Mo_shock_54 : decode b_Mo_shock 54 = .ok (.aload_n 0, 1) := by decide +kernel
theorem d_Mo_shock_55 : decode b_Mo_shock 55 = .ok (.getfield 141, 3) := by decide +kernel
theorem d_Mo_shock_58 : decode b_Mo_shock 58 = .ok (.iconst 2, 1) := by decide +kernel
theorem d_Mo_shock_59 : decode b_Mo_shock 59 = .ok (.idiv, 1) := by decide +kernel
theorem d_Mo_shock_60 : decode b_Mo_shock 60 = .ok (.if_icmp .le 15, 3) := by decide +kernel
theorem d_Mo_shock_63 : decode b_Mo_shock 63 = .ok (.iload_n 2, 1) := by decide +kernel
theorem d_Mo_shock_64 : decode b_Mo_shock 64 = .ok (.aload_n 0, 1) := by decide +kernel
theorem d_Mo_shock_65 : decode b_Mo_shock 65 = .ok (.getfield 144, 3) := by decide +kernel
theorem d_Mo_shock_68 : decode b_Mo_shock 68 = .ok (.if_icmp .le 7, 3) := by decide +kernel
theorem d_Mo_shock_71 : decode b_Mo_shock 71 = .ok (.iconst 1, 1) := by decide +kernel
theorem d_Mo_shock_72 : decode b_Mo_shock 72 = .ok (.goto 4, 3) := by decide +kernel
theorem d_Mo_shock_75 : decode b_Mo_shock 75 = .ok (.iconst 0, 1) := by decide +kernel
theorem d_Mo_shock_76 : decode b_Mo_shock 76 = .ok (.istore_n 3, 1) := by decide +kernel
theorem d_Mo_shock_77 : decode b_Mo_shock 77 = .ok (.aload_n 0, 1) := by decide +kernel
theorem d_Mo_shock_78 : decode b_Mo_shock 78 = .ok (.dup, 1) := by decide +kernel
theorem d_Mo_shock_79 : decode b_Mo_shock 79 = .ok (.getfield 150, 3) := by decide +kernel
theorem d_Mo_shock_82 : decode b_Mo_shock 82 = .ok (.iconst 1, 1) := by decide +kernel
theorem d_Mo_shock_83 : decode b_Mo_shock 83 = .ok (.iadd, 1) := by decide +kernel
theorem d_Mo_shock_84 : decode b_Mo_shock 84 = .ok (.putfield 150, 3) := by decide +kernel
theorem d_Mo_shock_87 : decode b_Mo_shock 87 = .ok (.aload_n 0, 1) := by decide +kernel
theorem d_Mo_shock_88 : decode b_Mo_shock 88 = .ok (.iload_n 3, 1) := by decide +kernel
theorem d_Mo_shock_89 : decode b_Mo_shock 89 = .ok (.ifCond .eq 12, 3) := by decide +kernel
theorem d_Mo_shock_92 : decode b_Mo_shock 92 = .ok (.aload_n 0, 1) := by decide +kernel
theorem d_Mo_shock_93 : decode b_Mo_shock 93 = .ok (.getfield 153, 3) := by decide +kernel
theorem d_Mo_shock_96 : decode b_Mo_shock 96 = .ok (.iconst 1, 1) := by decide +kernel
theorem d_Mo_shock_97 : decode b_Mo_shock 97 = .ok (.iadd, 1) := by decide +kernel
theorem d_Mo_shock_98 : decode b_Mo_shock 98 = .ok (.goto 7, 3) := by decide +kernel
theorem d_Mo_shock_101 : decode b_Mo_shock 101 = .ok (.aload_n 0, 1) := by decide +kernel
theorem d_Mo_shock_102 : decode b_Mo_shock 102 = .ok (.getfield 153, 3) := by decide +kernel
theorem d_Mo_shock_105 : decode b_Mo_shock 105 = .ok (.putfield 153, 3) := by decide +kernel
theorem d_Mo_shock_108 : decode b_Mo_shock 108 = .ok (.iload_n 3, 1) := by decide +kernel
theorem d_Mo_shock_109 : decode b_Mo_shock 109 = .ok (.ireturn, 1) := by decide +kernel
theorem d_Mo_route_0 : decode b_Mo_route 0 = .ok (.aload_n 0, 1) := by decide +kernel
theorem d_Mo_route_1 : decode b_Mo_route 1 = .ok (.iload_n 1, 1) := by decide +kernel
theorem d_Mo_route_2 : decode b_Mo_route 2 = .ok (.iconst 0, 1) := by decide +kernel
theorem d_Mo_route_3 : decode b_Mo_route 3 = .ok (.ldc 156, 2) := by decide +kernel
theorem d_Mo_route_5 : decode b_Mo_route 5 = .ok (.invokestatic 66, 3) := by decide +kernel
theorem d_Mo_route_8 : decode b_Mo_route 8 = .ok (.ifCond .eq 17, 3) := by decide +kernel
theorem d_Mo_route_11 : decode b_Mo_route 11 = .ok (.iload_n 2, 1) := by decide +kernel
theorem d_Mo_route_12 : decode b_Mo_route 12 = .ok (.iconst 1, 1) := by decide +kernel
theorem d_Mo_route_13 : decode b_Mo_route 13 = .ok (.bipush 50, 2) := by decide +kernel
theorem d_Mo_route_15 : decode b_Mo_route 15 = .ok (.invokestatic 66, 3) := by decide +kernel
theorem d_Mo_route_18 : decode b_Mo_route 18 = .ok (.ifCond .eq 7, 3) := by decide +kernel
theorem d_Mo_route_21 : decode b_Mo_route 21 = .ok (.iconst 1, 1) := by decide +kernel
theorem d_Mo_route_22 : decode b_Mo_route 22 = .ok (.goto 4, 3) := by decide +kernel
theorem d_Mo_route_25 : decode b_Mo_route 25 = .ok (.iconst 0, 1) := by decide +kernel
theorem d_Mo_route_26 : decode b_Mo_route 26 = .ok (.iconst 1, 1) := by decide +kernel
theorem d_Mo_route_27 : decode b_Mo_route 27 = .ok (.iconst 1, 1) := by decide +kernel
theorem d_Mo_route_28 : decode b_Mo_route 28 = .ok (.invokevirtual 71, 3) := by decide +kernel
theorem d_Mo_route_31 : decode b_Mo_route 31 = .ok (.ifCond .ne 5, 3) := by decide +kernel
theorem d_Mo_route_34 : decode b_Mo_route 34 = .ok (.iconst 0, 1) := by decide +kernel
theorem d_Mo_route_35 : decode b_Mo_route 35 = .ok (.ireturn, 1) := by decide +kernel
theorem d_Mo_route_36 : decode b_Mo_route 36 = .ok (.iload_n 1, 1) := by decide +kernel
theorem d_Mo_route_37 : decode b_Mo_route 37 = .ok (.istore_n 3, 1) := by decide +kernel
theorem d_Mo_route_38 : decode b_Mo_route 38 = .ok (.iconst 0, 1) := by decide +kernel
theorem d_Mo_route_39 : decode b_Mo_route 39 = .ok (.istore 4, 2) := by decide +kernel
theorem d_Mo_route_41 : decode b_Mo_route 41 = .ok (.iconst 0, 1) := by decide +kernel
theorem d_Mo_route_42 : decode b_Mo_route 42 = .ok (.istore 5, 2) := by decide +kernel
theorem d_Mo_route_44 : decode b_Mo_route 44 = .ok (.iload 5, 2) := by decide +kernel
theorem d_Mo_route_46 : decode b_Mo_route 46 = .ok (.iload_n 2, 1) := by decide +kernel
theorem d_Mo_route_47 : decode b_Mo_route 47 = .ok (.if_icmp .ge 46, 3) := by decide +kernel
theorem d_Mo_route_50 : decode b_Mo_route 50 = .ok (.bipush 75, 2) := by decide +kernel
theorem d_Mo_route_52 : decode b_Mo_route 52 = .ok (.iload_n 3, 1) := by decide +kernel
theorem d_Mo_route_53 : decode b_Mo_route 53 = .ok (.imul, 1) := by decide +kernel
theorem d_Mo_route_54 : decode b_Mo_route 54 = .ok (.bipush 74, 2) := by decide +kernel
theorem d_Mo_route_56 : decode b_Mo_route 56 = .ok (.iadd, 1) := by decide +kernel
theorem d_Mo_route_57 : decode b_Mo_route 57 = .ok (.ldc 157, 2) := by decide +kernel
theorem d_Mo_route_59 : decode b_Mo_route 59 = .ok (.irem, 1) := by decide +kernel
theorem d_Mo_route_60 : decode b_Mo_route 60 = .ok (.istore_n 3, 1) := by decide +kernel
theorem d_Mo_route_61 : decode b_Mo_route 61 = .ok (.aload_n 0, 1) := by decide +kernel
theorem d_Mo_route_62 : decode b_Mo_route 62 = .ok (.getfield 57, 3) := by decide +kernel
theorem d_Mo_route_65 : decode b_Mo_route 65 = .ok (.iload 5, 2) := by decide +kernel
theorem d_Mo_route_67 : decode b_Mo_route 67 = .ok (.bipush 10, 2) := by decide +kernel
theorem d_Mo_route_69 : decode b_Mo_route 69 = .ok (.iload_n 3, 1) := by decide +kernel
theorem d_Mo_route_70 : decode b_Mo_route 70 = .ok (.bipush 91, 2) := by decide +kernel
theorem d_Mo_route_72 : decode b_Mo_route 72 = .ok (.irem, 1) := by decide +kernel
theorem d_Mo_route_73 : decode b_Mo_route 73 = .ok (.iadd, 1) := by decide +kernel
theorem d_Mo_route_74 : decode b_Mo_route 74 = .ok (.iastore, 1) := by decide +kernel
theorem d_Mo_route_75 : decode b_Mo_route 75 = .ok (.iload 4, 2) := by decide +kernel
theorem d_Mo_route_77 : decode b_Mo_route 77 = .ok (.aload_n 0, 1) := by decide +kernel
theorem d_Mo_route_78 : decode b_Mo_route 78 = .ok (.getfield 57, 3) := by decide +kernel
theorem d_Mo_route_81 : decode b_Mo_route 81 = .ok (.iload 5, 2) := by decide +kernel
theorem d_Mo_route_83 : decode b_Mo_route 83 = .ok (.iaload, 1) := by decide +kernel
theorem d_Mo_route_84 : decode b_Mo_route 84 = .ok (.iadd, 1) := by decide +kernel
theorem d_Mo_route_85 : decode b_Mo_route 85 = .ok (.istore 4, 2) := by decide +kernel
theorem d_Mo_route_87 : decode b_Mo_route 87 = .ok (.iinc 5 1, 3) := by decide +kernel
theorem d_Mo_route_90 : decode b_Mo_route 90 = .ok (.goto (-46), 3) := by decide +kernel
theorem d_Mo_route_93 : decode b_Mo_route 93 = .ok (.aload_n 0, 1) := by decide +kernel
theorem d_Mo_route_94 : decode b_Mo_route 94 = .ok (.iload_n 2, 1) := by decide +kernel
theorem d_Mo_route_95 : decode b_Mo_route 95 = .ok (.putfield 158, 3) := by decide +kernel
theorem d_Mo_route_98 : decode b_Mo_route 98 = .ok (.iload 4, 2) := by decide +kernel
theorem d_Mo_route_100 : decode b_Mo_route 100 = .ok (.ireturn, 1) := by decide +kernel
theorem d_Mo_drop_0 : decode b_Mo_drop 0 = .ok (.aload_n 0, 1) := by decide +kernel
theorem d_Mo_drop_1 : decode b_Mo_drop 1 = .ok (.iload_n 1, 1) := by decide +kernel
theorem d_Mo_drop_2 : decode b_Mo_drop 2 = .ok (.ifCond .lt 15, 3) := by decide +kernel
theorem d_Mo_drop_5 : decode b_Mo_drop 5 = .ok (.iload_n 1, 1) := by decide +kernel
theorem d_Mo_drop_6 : decode b_Mo_drop 6 = .ok (.aload_n 0, 1) := by decide +kernel
theorem d_Mo_drop_7 : decode b_Mo_drop 7 = .ok (.getfield 158, 3) := by decide +kernel
theorem d_Mo_drop_10 : decode b_Mo_drop 10 = .ok (.if_icmp .ge 7, 3) := by decide +kernel
theorem d_Mo_drop_13 : decode b_Mo_drop 13 = .ok (.iconst 1, 1) := by decide +kernel
theorem d_Mo_drop_14 : decode b_Mo_drop 14 = .ok (.goto 4, 3) := by decide +kernel
theorem d_Mo_drop_17 : decode b_Mo_drop 17 = .ok (.iconst 0, 1) := by decide +kernel
theorem d_Mo_drop_18 : decode b_Mo_drop 18 = .ok (.iconst 1, 1) := by decide +kernel
theorem d_Mo_drop_19 : decode b_Mo_drop 19 = .ok (.iconst 1, 1) := by decide +kernel
theorem d_Mo_drop_20 : decode b_Mo_drop 20 = .ok (.invokevirtual 71, 3) := by decide +kernel
theorem d_Mo_drop_23 : decode b_Mo_drop 23 = .ok (.ifCond .eq 12, 3) := by decide +kernel
theorem d_Mo_drop_26 : decode b_Mo_drop 26 = .ok (.aload_n 0, 1) := by decide +kernel
theorem d_Mo_drop_27 : decode b_Mo_drop 27 = .ok (.getfield 57, 3) := by decide +kernel
theorem d_Mo_drop_30 : decode b_Mo_drop 30 = .ok (.iload_n 1, 1) := by decide +kernel
theorem d_Mo_drop_31 : decode b_Mo_drop 31 = .ok (.iaload, 1) := by decide +kernel
theorem d_Mo_drop_32 : decode b_Mo_drop 32 = .ok (.goto 4, 3) := by decide +kernel
theorem d_Mo_drop_35 : decode b_Mo_drop 35 = .ok (.iconst 0, 1) := by decide +kernel
theorem d_Mo_drop_36 : decode b_Mo_drop 36 = .ok (.ireturn, 1) := by decide +kernel
theorem d_Mo_count_0 : decode b_Mo_count 0 = .ok (.aload_n 0, 1) := by decide +kernel
theorem d_Mo_count_1 : decode b_Mo_count 1 = .ok (.iload_n 1, 1) := by decide +kernel
theorem d_Mo_count_2 : decode b_Mo_count 2 = .ok (.iconst 0, 1) := by decide +kernel
theorem d_Mo_count_3 : decode b_Mo_count 3 = .ok (.iconst 5, 1) := by decide +kernel
theorem d_Mo_count_4 : decode b_Mo_count 4 = .ok (.invokestatic 66, 3) := by decide +kernel
theorem d_Mo_count_7 : decode b_Mo_count 7 = .ok (.iconst 1, 1) := by decide +kernel
theorem d_Mo_count_8 : decode b_Mo_count 8 = .ok (.iconst 1, 1) := by decide +kernel
theorem d_Mo_count_9 : decode b_Mo_count 9 = .ok (.invokevirtual 71, 3) := by decide +kernel
theorem d_Mo_count_12 : decode b_Mo_count 12 = .ok (.ifCond .ne 5, 3) := by decide +kernel
theorem d_Mo_count_15 : decode b_Mo_count 15 = .ok (.iconst 0, 1) := by decide +kernel
theorem d_Mo_count_16 : decode b_Mo_count 16 = .ok (.ireturn, 1) := by decide +kernel
theorem d_Mo_count_17 : decode b_Mo_count 17 = .ok (.iconst 0, 1) := by decide +kernel
theorem d_Mo_count_18 : decode b_Mo_count 18 = .ok (.istore_n 2, 1) := by decide +kernel
theorem d_Mo_count_19 : decode b_Mo_count 19 = .ok (.iconst 0, 1) := by decide +kernel
theorem d_Mo_count_20 : decode b_Mo_count 20 = .ok (.istore_n 3, 1) := by decide +kernel
theorem d_Mo_count_21 : decode b_Mo_count 21 = .ok (.iload_n 3, 1) := by decide +kernel
theorem d_Mo_count_22 : decode b_Mo_count 22 = .ok (.aload_n 0, 1) := by decide +kernel
theorem d_Mo_count_23 : decode b_Mo_count 23 = .ok (.getfield 128, 3) := by decide +kernel
theorem d_Mo_count_26 : decode b_Mo_count 26 = .ok (.if_icmp .ge 26, 3) := by decide +kernel
theorem d_Mo_count_29 : decode b_Mo_count 29 = .ok (.aload_n 0, 1) := by decide +kernel
theorem d_Mo_count_30 : decode b_Mo_count 30 = .ok (.getfield 47, 3) := by decide +kernel
theorem d_Mo_count_33 : decode b_Mo_count 33 = .ok (.iload_n 3, 1) := by decide +kernel
theorem d_Mo_count_34 : decode b_Mo_count 34 = .ok (.baload, 1) := by decide +kernel
theorem d_Mo_count_35 : decode b_Mo_count 35 = .ok (.ifCond .eq 9, 3) := by decide +kernel
theorem d_Mo_count_38 : decode b_Mo_count 38 = .ok (.iload_n 2, 1) := by decide +kernel
theorem d_Mo_count_39 : decode b_Mo_count 39 = .ok (.iconst 1, 1) := by decide +kernel
