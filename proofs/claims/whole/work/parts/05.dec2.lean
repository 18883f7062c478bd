theorem d_Sh_add_16 : decode b_Sh_add 16 = .ok (.iload_n 1, 1) := by decide +kernel
theorem d_Sh_add_17 : decode b_Sh_add 17 = .ok (.aload_n 0, 1) := by decide +kernel
theorem d_Sh_add_18 : decode b_Sh_add 18 = .ok (.getfield 9, 3) := by decide +kernel
theorem d_Sh_add_21 : decode b_Sh_add 21 = .ok (.if_icmp .gt 21, 3) := by decide +kernel
theorem d_Sh_add_24 : decode b_Sh_add 24 = .ok (.iload_n 1, 1) := by decide +kernel
theorem d_Sh_add_25 : decode b_Sh_add 25 = .ok (.aload_n 0, 1) := by decide +kernel
theorem d_Sh_add_26 : decode b_Sh_add 26 = .ok (.getfield 9, 3) := by decide +kernel
theorem d_Sh_add_29 : decode b_Sh_add 29 = .ok (.iconst 2, 1) := by decide +kernel
theorem d_Sh_add_30 : decode b_Sh_add 30 = .ok (.idiv, 1) := by decide +kernel
theorem d_Sh_add_31 : decode b_Sh_add 31 = .ok (.if_icmp .le 15, 3) := by decide +kernel
theorem d_Sh_add_34 : decode b_Sh_add 34 = .ok (.iload_n 2, 1) := by decide +kernel
theorem d_Sh_add_35 : decode b_Sh_add 35 = .ok (.aload_n 0, 1) := by decide +kernel
theorem d_Sh_add_36 : decode b_Sh_add 36 = .ok (.getfield 15, 3) := by decide +kernel
theorem d_Sh_add_39 : decode b_Sh_add 39 = .ok (.if_icmp .le 7, 3) := by decide +kernel
theorem d_Sh_add_42 : decode b_Sh_add 42 = .ok (.iconst 1, 1) := by decide +kernel
theorem d_Sh_add_43 : decode b_Sh_add 43 = .ok (.goto 4, 3) := by decide +kernel
theorem d_Sh_add_46 : decode b_Sh_add 46 = .ok (.iconst 0, 1) := by decide +kernel
theorem d_Sh_add_47 : decode b_Sh_add 47 = .ok (.istore_n 3, 1) := by decide +kernel
theorem d_Sh_add_48 : decode b_Sh_add 48 = .ok (.aload_n 0, 1) := by decide +kernel
theorem d_Sh_add_49 : decode b_Sh_add 49 = .ok (.dup, 1) := by decide +kernel
theorem d_Sh_add_50 : decode b_Sh_add 50 = .ok (.getfield 18, 3) := by decide +kernel
theorem d_Sh_add_53 : decode b_Sh_add 53 = .ok (.iconst 1, 1) := by decide +kernel
theorem d_Sh_add_54 : decode b_Sh_add 54 = .ok (.iadd, 1) := by decide +kernel
theorem d_Sh_add_55 : decode b_Sh_add 55 = .ok (.putfield 18, 3) := by decide +kernel
theorem d_Sh_add_58 : decode b_Sh_add 58 = .ok (.iload_n 3, 1) := by decide +kernel
theorem d_Sh_add_59 : decode b_Sh_add 59 = .ok (.ifCond .eq 13, 3) := by decide +kernel
theorem d_Sh_add_62 : decode b_Sh_add 62 = .ok (.aload_n 0, 1) := by decide +kernel
theorem d_Sh_add_63 : decode b_Sh_add 63 = .ok (.dup, 1) := by decide +kernel
theorem d_Sh_add_64 : decode b_Sh_add 64 = .ok (.getfield 21, 3) := by decide +kernel
theorem d_Sh_add_67 : decode b_Sh_add 67 = .ok (.iconst 1, 1) := by decide +kernel
theorem d_Sh_add_68 : decode b_Sh_add 68 = .ok (.iadd, 1) := by decide +kernel
theorem d_Sh_add_69 : decode b_Sh_add 69 = .ok (.putfield 21, 3) := by decide +kernel
theorem d_Sh_add_72 : decode b_Sh_add 72 = .ok (.iload_n 3, 1) := by decide +kernel
theorem d_Sh_add_73 : decode b_Sh_add 73 = .ok (.ireturn, 1) := by decide +kernel
theorem d_La_route_0 : decode b_La_route 0 = .ok (.aload_n 3, 1) := by decide +kernel
theorem d_La_route_1 : decode b_La_route 1 = .ok (.iconst 0, 1) := by decide +kernel
theorem d_La_route_2 : decode b_La_route 2 = .ok (.aload_n 0, 1) := by decide +kernel
theorem d_La_route_3 : decode b_La_route 3 = .ok (.iload_n 1, 1) := by decide +kernel
theorem d_La_route_4 : decode b_La_route 4 = .ok (.iload_n 2, 1) := by decide +kernel
theorem d_La_route_5 : decode b_La_route 5 = .ok (.invokevirtual 81, 3) := by decide +kernel
theorem d_La_route_8 : decode b_La_route 8 = .ok (.i2l, 1) := by decide +kernel
theorem d_La_route_9 : decode b_La_route 9 = .ok (.lastore, 1) := by decide +kernel
theorem d_La_route_10 : decode b_La_route 10 = .ok (.goto 7, 3) := by decide +kernel
theorem d_La_route_13 : decode b_La_route 13 = .ok (.astore 4, 2) := by decide +kernel
theorem d_La_route_15 : decode b_La_route 15 = .ok (.iconst 1, 1) := by decide +kernel
theorem d_La_route_16 : decode b_La_route 16 = .ok (.ireturn, 1) := by decide +kernel
theorem d_La_route_17 : decode b_La_route 17 = .ok (.iconst 0, 1) := by decide +kernel
theorem d_La_route_18 : decode b_La_route 18 = .ok (.ireturn, 1) := by decide +kernel
theorem d_Cc_route_0 : decode b_Cc_route 0 = .ok (.aload_n 0, 1) := by decide +kernel
theorem d_Cc_route_1 : decode b_Cc_route 1 = .ok (.getfield 54, 3) := by decide +kernel
theorem d_Cc_route_4 : decode b_Cc_route 4 = .ok (.iload_n 1, 1) := by decide +kernel
theorem d_Cc_route_5 : decode b_Cc_route 5 = .ok (.iload_n 2, 1) := by decide +kernel
theorem d_Cc_route_6 : decode b_Cc_route 6 = .ok (.invokevirtual 129, 3) := by decide +kernel
theorem d_Cc_route_9 : decode b_Cc_route 9 = .ok (.ireturn, 1) := by decide +kernel
theorem d_Jo_plan_0 : decode b_Jo_plan 0 = .ok (.iload_n 1, 1) := by decide +kernel
theorem d_Jo_plan_1 : decode b_Jo_plan 1 = .ok (.iconst 0, 1) := by decide +kernel
theorem d_Jo_plan_2 : decode b_Jo_plan 2 = .ok (.ldc 19, 2) := by decide +kernel
theorem d_Jo_plan_4 : decode b_Jo_plan 4 = .ok (.invokestatic 20, 3) := by decide +kernel
theorem d_Jo_plan_7 : decode b_Jo_plan 7 = .ok (.iload_n 2, 1) := by decide +kernel
theorem d_Jo_plan_8 : decode b_Jo_plan 8 = .ok (.iconst 1, 1) := by decide +kernel
theorem d_Jo_plan_9 : decode b_Jo_plan 9 = .ok (.bipush 50, 2) := by decide +kernel
theorem d_Jo_plan_11 : decode b_Jo_plan 11 = .ok (.invokestatic 20, 3) := by decide +kernel
theorem d_Jo_plan_14 : decode b_Jo_plan 14 = .ok (.iload_n 1, 1) := by decide +kernel
theorem d_Jo_plan_15 : decode b_Jo_plan 15 = .ok (.istore_n 3, 1) := by decide +kernel
theorem d_Jo_plan_16 : decode b_Jo_plan 16 = .ok (.iconst 0, 1) := by decide +kernel
theorem d_Jo_plan_17 : decode b_Jo_plan 17 = .ok (.istore 4, 2) := by decide +kernel
theorem d_Jo_plan_19 : decode b_Jo_plan 19 = .ok (.iconst 0, 1) := by decide +kernel
theorem d_Jo_plan_20 : decode b_Jo_plan 20 = .ok (.istore 5, 2) := by decide +kernel
theorem d_Jo_plan_22 : decode b_Jo_plan 22 = .ok (.iload 5, 2) := by decide +kernel
theorem d_Jo_plan_24 : decode b_Jo_plan 24 = .ok (.iload_n 2, 1) := by decide +kernel
theorem d_Jo_plan_25 : decode b_Jo_plan 25 = .ok (.if_icmp .ge 46, 3) := by decide +kernel
theorem d_Jo_plan_28 : decode b_Jo_plan 28 = .ok (.iload_n 3, 1) := by decide +kernel
theorem d_Jo_plan_29 : decode b_Jo_plan 29 = .ok (.bipush 75, 2) := by decide +kernel
theorem d_Jo_plan_31 : decode b_Jo_plan 31 = .ok (.imul, 1) := by decide +kernel
theorem d_Jo_plan_32 : decode b_Jo_plan 32 = .ok (.bipush 74, 2) := by decide +kernel
theorem d_Jo_plan_34 : decode b_Jo_plan 34 = .ok (.iadd, 1) := by decide +kernel
theorem d_Jo_plan_35 : decode b_Jo_plan 35 = .ok (.ldc 24, 2) := by decide +kernel
theorem d_Jo_plan_37 : decode b_Jo_plan 37 = .ok (.irem, 1) := by decide +kernel
theorem d_Jo_plan_38 : decode b_Jo_plan 38 = .ok (.istore_n 3, 1) := by decide +kernel
theorem d_Jo_plan_39 : decode b_Jo_plan 39 = .ok (.aload_n 0, 1) := by decide +kernel
theorem d_Jo_plan_40 : decode b_Jo_plan 40 = .ok (.getfield 9, 3) := by decide +kernel
theorem d_Jo_plan_43 : decode b_Jo_plan 43 = .ok (.iload 5, 2) := by decide +kernel
theorem d_Jo_plan_45 : decode b_Jo_plan 45 = .ok (.bipush 10, 2) := by decide +kernel
theorem d_Jo_plan_47 : decode b_Jo_plan 47 = .ok (.iload_n 3, 1) := by decide +kernel
theorem d_Jo_plan_48 : decode b_Jo_plan 48 = .ok (.bipush 91, 2) := by decide +kernel
theorem d_Jo_plan_50 : decode b_Jo_plan 50 = .ok (.irem, 1) := by decide +kernel
theorem d_Jo_plan_51 : decode b_Jo_plan 51 = .ok (.iadd, 1) := by decide +kernel
theorem d_Jo_plan_52 : decode b_Jo_plan 52 = .ok (.iastore, 1) := by decide +kernel
theorem d_Jo_plan_53 : decode b_Jo_plan 53 = .ok (.iload 4, 2) := by decide +kernel
theorem d_Jo_plan_55 : decode b_Jo_plan 55 = .ok (.aload_n 0, 1) := by decide +kernel
theorem d_Jo_plan_56 : decode b_Jo_plan 56 = .ok (.getfield 9, 3) := by decide +kernel
theorem d_Jo_plan_59 : decode b_Jo_plan 59 = .ok (.iload 5, 2) := by decide +kernel
theorem d_Jo_plan_61 : decode b_Jo_plan 61 = .ok (.iaload, 1) := by decide +kernel
theorem d_Jo_plan_62 : decode b_Jo_plan 62 = .ok (.iadd, 1) := by decide +kernel
theorem d_Jo_plan_63 : decode b_Jo_plan 63 = .ok (.istore 4, 2) := by decide +kernel
theorem d_Jo_plan_65 : decode b_Jo_plan 65 = .ok (.iinc 5 1, 3) := by decide +kernel
theorem d_Jo_plan_68 : decode b_Jo_plan 68 = .ok (.goto (-46), 3) := by decide +kernel
theorem d_Jo_plan_71 : decode b_Jo_plan 71 = .ok (.aload_n 0, 1) := by decide +kernel
theorem d_Jo_plan_72 : decode b_Jo_plan 72 = .ok (.iload_n 2, 1) := by decide +kernel
theorem d_Jo_plan_73 : decode b_Jo_plan 73 = .ok (.putfield 15, 3) := by decide +kernel
theorem d_Jo_plan_76 : decode b_Jo_plan 76 = .ok (.iload 4, 2) := by decide +kernel
theorem d_Jo_plan_78 : decode b_Jo_plan 78 = .ok (.ireturn, 1) := by decide +kernel
theorem d_La_drop_0 : decode b_La_drop 0 = .ok (.aload_n 2, 1) := by decide +kernel
theorem d_La_drop_1 : decode b_La_drop 1 = .ok (.iconst 0, 1) := by decide +kernel
theorem d_La_drop_2 : decode b_La_drop 2 = .ok (.aload_n 0, 1) := by decide +kernel
theorem d_La_drop_3 : decode b_La_drop 3 = .ok (.iload_n 1, 1) := by decide +kernel
theorem d_La_drop_4 : decode b_La_drop 4 = .ok (.invokevirtual 84, 3) := by decide +kernel
theorem d_La_drop_7 : decode b_La_drop 7 = .ok (.i2l, 1) := by decide +kernel
theorem d_La_drop_8 : decode b_La_drop 8 = .ok (.lastore, 1) := by decide +kernel
theorem d_La_drop_9 : decode b_La_drop 9 = .ok (.goto 6, 3) := by decide +kernel
theorem d_La_drop_12 : decode b_La_drop 12 = .ok (.astore_n 3, 1) := by decide +kernel
theorem d_La_drop_13 : decode b_La_drop 13 = .ok (.iconst 1, 1) := by decide +kernel
theorem d_La_drop_14 : decode b_La_drop 14 = .ok (.ireturn, 1) := by decide +kernel
theorem d_La_drop_15 : decode b_La_drop 15 = .ok (.iconst 0, 1) := by decide +kernel
theorem d_La_drop_16 : decode b_La_drop 16 = .ok (.ireturn, 1) := by decide +kernel
theorem d_Cc_drop_0 : decode b_Cc_drop 0 = .ok (.aload_n 0, 1) := by decide +kernel
theorem d_Cc_drop_1 : decode b_Cc_drop 1 = .ok (.getfield 54, 3) := by decide +kernel
theorem d_Cc_drop_4 : decode b_Cc_drop 4 = .ok (.iload_n 1, 1) := by decide +kernel
theorem d_Cc_drop_5 : decode b_Cc_drop 5 = .ok (.invokevirtual 132, 3) := by decide +kernel
theorem d_Cc_drop_8 : decode b_Cc_drop 8 = .ok (.ireturn, 1) := by decide +kernel
theorem d_Jo_dropOf_0 : decode b_Jo_dropOf 0 = .ok (.iload_n 1, 1) := by decide +kernel
theorem d_Jo_dropOf_1 : decode b_Jo_dropOf 1 = .ok (.aload_n 0, 1) := by decide +kernel
theorem d_Jo_dropOf_2 : decode b_Jo_dropOf 2 = .ok (.getfield 15, 3) := by decide +kernel
theorem d_Jo_dropOf_5 : decode b_Jo_dropOf 5 = .ok (.invokestatic 25, 3) := by decide +kernel
theorem d_Jo_dropOf_8 : decode b_Jo_dropOf 8 = .ok (.aload_n 0, 1) := by decide +kernel
theorem d_Jo_dropOf_9 : decode b_Jo_dropOf 9 = .ok (.getfield 9, 3) := by decide +kernel
theorem d_Jo_dropOf_12 : decode b_Jo_dropOf 12 = .ok (.iload_n 1, 1) := by decide +kernel
theorem d_Jo_dropOf_13 : decode b_Jo_dropOf 13 = .ok (.iaload, 1) := by decide +kernel
theorem d_Jo_dropOf_14 : decode b_Jo_dropOf 14 = .ok (.ireturn, 1) := by decide +kernel
theorem d_La_count_0 : decode b_La_count 0 = .ok (.aload_n 2, 1) := by decide +kernel
theorem d_La_count_1 : decode b_La_count 1 = .ok (.iconst 0, 1) := by decide +kernel
theorem d_La_count_2 : decode b_La_count 2 = .ok (.aload_n 0, 1) := by decide +kernel
theorem d_La_count_3 : decode b_La_count 3 = .ok (.iload_n 1, 1) := by decide +kernel
theorem d_La_count_4 : decode b_La_count 4 = .ok (.invokevirtual 87, 3) := by decide +kernel
theorem d_La_count_7 : decode b_La_count 7 = .ok (.i2l, 1) := by decide +kernel
theorem d_La_count_8 : decode b_La_count 8 = .ok (.lastore, 1) := by decide +kernel
theorem d_La_count_9 : decode b_La_count 9 = .ok (.goto 6, 3) := by decide +kernel
theorem d_La_count_12 : decode b_La_count 12 = .ok (.astore_n 3, 1) := by decide +kernel
theorem d_La_count_13 : decode b_La_count 13 = .ok (.iconst 1, 1) := by decide +kernel
theorem d_La_count_14 : decode b_La_count 14 = .ok (.ireturn, 1) := by decide +kernel
theorem d_La_count_15 : decode b_La_count 15 = .ok (.iconst 0, 1) := by decide +kernel
theorem d_La_count_16 : decode b_La_count 16 = .ok (.ireturn, 1) := by decide +kernel
theorem d_Cc_count_0 : decode b_Cc_count 0 = .ok (.iload_n 1, 1) := by decide +kernel
theorem d_Cc_count_1 : decode b_Cc_count 1 = .ok (.tableswitch 87 0 5 #[39, 47, 55, 63, 71, 79], 39) := by decide +kernel
theorem d_Cc_count_40 : decode b_Cc_count 40 = .ok (.aload_n 0, 1) := by decide +kernel
theorem d_Cc_count_41 : decode b_Cc_count 41 = .ok (.getfield 10, 3) := by decide +kernel
theorem d_Cc_count_44 : decode b_Cc_count 44 = .ok (.getfield 88, 3) := by decide +kernel
theorem d_Cc_count_47 : decode b_Cc_count 47 = .ok (.ireturn, 1) := by decide +kernel
theorem d_Cc_count_48 : decode b_Cc_count 48 = .ok (.aload_n 0, 1) := by decide +kernel
theorem d_Cc_count_49 : decode b_Cc_count 49 = .ok (.getfield 33, 3) := by decide +kernel
theorem d_Cc_count_52 : decode b_Cc_count 52 = .ok (.getfield 135, 3) := by decide +kernel
theorem d_Cc_count_55 : decode b_Cc_count 55 = .ok (.ireturn, 1) := by decide +kernel
theorem d_Cc_count_56 : decode b_Cc_count 56 = .ok (.aload_n 0, 1) := by decide +kernel
theorem d_Cc_count_57 : decode b_Cc_count 57 = .ok (.getfield 33, 3) := by decide +kernel
theorem d_Cc_count_60 : decode b_Cc_count 60 = .ok (.invokevirtual 136, 3) := by decide +kernel
theorem d_Cc_count_63 : decode b_Cc_count 63 = .ok (.ireturn, 1) := by decide +kernel
theorem d_Cc_count_64 : decode b_Cc_count 64 = .ok (.aload_n 0, 1) := by decide +kernel
theorem d_Cc_count_65 : decode b_Cc_count 65 = .ok (.getfield 40, 3) := by decide +kernel
theorem d_Cc_count_68 : decode b_Cc_count 68 = .ok (.getfield 140, 3) := by decide +kernel
theorem d_Cc_count_71 : decode b_Cc_count 71 = .ok (.ireturn, 1) := by decide +kernel
theorem d_Cc_count_72 : decode b_Cc_count 72 = .ok (.aload_n 0, 1) := by decide +kernel
theorem d_Cc_count_73 : decode b_Cc_count 73 = .ok (.getfield 47, 3) := by decide +kernel
theorem d_Cc_count_76 : decode b_Cc_count 76 = .ok (.getfield 143, 3) := by decide +kernel
theorem d_Cc_count_79 : decode b_Cc_count 79 = .ok (.ireturn, 1) := by decide +kernel
theorem d_Cc_count_80 : decode b_Cc_count 80 = .ok (.aload_n 0, 1) := by decide +kernel
theorem d_Cc_count_81 : decode b_Cc_count 81 = .ok (.getfield 47, 3) := by decide +kernel
theorem d_Cc_count_84 : decode b_Cc_count 84 = .ok (.getfield 144, 3) := by decide +kernel
theorem d_Cc_count_87 : decode b_Cc_count 87 = .ok (.ireturn, 1) := by decide +kernel
theorem d_Cc_count_88 : decode b_Cc_count 88 = .ok (.new 147, 3) := by decide +kernel
theorem d_Cc_count_91 : decode b_Cc_count 91 = .ok (.dup, 1) := by decide +kernel
theorem d_Cc_count_92 : decode b_Cc_count 92 = .ok (.ldc 149, 2) := by decide +kernel
theorem d_Cc_count_94 : decode b_Cc_count 94 = .ok (.invokespecial 151, 3) := by decide +kernel
theorem d_Cc_count_97 : decode b_Cc_count 97 = .ok (.athrow, 1) := by decide +kernel
theorem d_Sk_takenCount_0 : decode b_Sk_takenCount 0 = .ok (.iconst 0, 1) := by decide +kernel
theorem d_Sk_takenCount_1 : decode b_Sk_takenCount 1 = .ok (.istore_n 1, 1) := by decide +kernel
theorem d_Sk_takenCount_2 : decode b_Sk_takenCount 2 = .ok (.iconst 0, 1) := by decide +kernel
theorem d_Sk_takenCount_3 : decode b_Sk_takenCount 3 = .ok (.istore_n 2, 1) := by decide +kernel
theorem d_Sk_takenCount_4 : decode b_Sk_takenCount 4 = .ok (.iload_n 2, 1) := by decide +kernel
theorem d_Sk_takenCount_5 : decode b_Sk_takenCount 5 = .ok (.aload_n 0, 1) := by decide +kernel
theorem d_Sk_takenCount_6 : decode b_Sk_takenCount 6 = .ok (.getfield 25, 3) := by decide +kernel
theorem d_Sk_takenCount_9 : decode b_Sk_takenCount 9 = .ok (.if_icmp .ge 21, 3) := by decide +kernel
theorem d_Sk_takenCount_12 : decode b_Sk_takenCount 12 = .ok (.aload_n 0, 1) := by decide +kernel
theorem d_Sk_takenCount_13 : decode b_Sk_takenCount 13 = .ok (.getfield 21, 3) := by decide +kernel
theorem d_Sk_takenCount_16 : decode b_Sk_takenCount 16 = .ok (.iload_n 2, 1) := by decide +kernel
theorem d_Sk_takenCount_17 : decode b_Sk_takenCount 17 = .ok (.baload, 1) := by decide +kernel
theorem d_Sk_takenCount_18 : decode b_Sk_takenCount 18 = .ok (.ifCond .eq 6, 3) := by decide +kernel
theorem d_Sk_takenCount_21 : decode b_Sk_takenCount 21 = .ok (.iinc 1 1, 3) := by decide +kernel
theorem d_Sk_takenCount_24 : decode b_Sk_takenCount 24 = .ok (.iinc 2 1, 3) := by decide +kernel
theorem d_Sk_takenCount_27 : decode b_Sk_takenCount 27 = .ok (.goto (-23), 3) := by decide +kernel
theorem d_Sk_takenCount_30 : decode b_Sk_takenCount 30 = .ok (.iload_n 1, 1) := by decide +kernel
theorem d_Sk_takenCount_31 : decode b_Sk_takenCount 31 = .ok (.ireturn, 1) := by decide +kernel
theorem d_Mo_init_0 : decode b_Mo_init 0 = .ok (.aload_n 0, 1) := by decide +kernel
theorem d_Mo_init_1 : decode b_Mo_init 1 = .ok (.invokespecial 1, 3) := by decide +kernel
theorem d_Mo_init_4 : decode b_Mo_init 4 = .ok (.aload_n 0, 1) := by decide +kernel
theorem d_Mo_init_5 : decode b_Mo_init 5 = .ok (.bipush 18, 2) := by decide +kernel
theorem d_Mo_init_7 : decode b_Mo_init 7 = .ok (.newarray .int, 2) := by decide +kernel
theorem d_Mo_init_9 : decode b_Mo_init 9 = .ok (.putfield 7, 3) := by decide +kernel
theorem d_Mo_init_12 : decode b_Mo_init 12 = .ok (.aload_n 0, 1) := by decide +kernel
theorem d_Mo_init_13 : decode b_Mo_init 13 = .ok (.bipush 6, 2) := by decide +kernel
theorem d_Mo_init_15 : decode b_Mo_init 15 = .ok (.newarray .int, 2) := by decide +kernel
theorem d_Mo_init_17 : decode b_Mo_init 17 = .ok (.putfield 13, 3) := by decide +kernel
theorem d_Mo_init_20 : decode b_Mo_init 20 = .ok (.aload_n 0, 1) := by decide +kernel
theorem d_Mo_init_21 : decode b_Mo_init 21 = .ok (.bipush 36, 2) := by decide +kernel
theorem d_Mo_init_23 : decode b_Mo_init 23 = .ok (.newarray .boolean, 2) := by decide +kernel
theorem d_Mo_init_25 : decode b_Mo_init 25 = .ok (.putfield 16, 3) := by decide +kernel
theorem d_Mo_init_28 : decode b_Mo_init 28 = .ok (.aload_n 0, 1) := by decide +kernel
theorem d_Mo_init_29 : decode b_Mo_init 29 = .ok (.iconst 4, 1) := by decide +kernel
theorem d_Mo_init_30 : decode b_Mo_init 30 = .ok (.newarray .int, 2) := by decide +kernel
theorem d_Mo_init_32 : decode b_Mo_init 32 = .ok (.putfield 20, 3) := by decide +kernel
theorem d_Mo_init_35 : decode b_Mo_init 35 = .ok (.aload_n 0, 1) := by decide +kernel
theorem d_Mo_init_36 : decode b_Mo_init 36 = .ok (.bipush 32, 2) := by decide +kernel
theorem d_Mo_init_38 : decode b_Mo_init 38 = .ok (.newarray .int, 2) := by decide +kernel
theorem d_Mo_init_40 : decode b_Mo_init 40 = .ok (.putfield 23, 3) := by decide +kernel
theorem d_Mo_init_43 : decode b_Mo_init 43 = .ok (.aload_n 0, 1) := by decide +kernel
theorem d_Mo_init_44 : decode b_Mo_init 44 = .ok (.bipush 32, 2) := by decide +kernel
theorem d_Mo_init_46 : decode b_Mo_init 46 = .ok (.newarray .int, 2) := by decide +kernel
theorem d_Mo_init_48 : decode b_Mo_init 48 = .ok (.putfield 26, 3) := by decide +kernel
theorem d_Mo_init_51 : decode b_Mo_init 51 = .ok (.aload_n 0, 1) := by decide +kernel
theorem d_Mo_init_52 : decode b_Mo_init 52 = .ok (.sipush 192, 3) := by decide +kernel
theorem d_Mo_init_55 : decode b_Mo_init 55 = .ok (.newarray .int, 2) := by decide +kernel
theorem d_Mo_init_57 : decode b_Mo_init 57 = .ok (.putfield 29, 3) := by decide +kernel
theorem d_Mo_init_60 : decode b_Mo_init 60 = .ok (.aload_n 0, 1) := by decide +kernel
theorem d_Mo_init_61 : decode b_Mo_init 61 = .ok (.sipush 192, 3) := by decide +kernel
theorem d_Mo_init_64 : decode b_Mo_init 64 = .ok (.newarray .int, 2) := by decide +kernel
theorem d_Mo_init_66 : decode b_Mo_init 66 = .ok (.putfield 32, 3) := by decide +kernel
theorem d_Mo_init_69 : decode b_Mo_init 69 = .ok (.aload_n 0, 1) := by decide +kernel
theorem d_Mo_init_70 : decode b_Mo_init 70 = .ok (.bipush 6, 2) := by decide +kernel
theorem d_Mo_init_72 : decode b_Mo_init 72 = .ok (.newarray .int, 2) := by decide +kernel
theorem d_Mo_init_74 : decode b_Mo_init 74 = .ok (.putfield 35, 3) := by decide +kernel
theorem d_Mo_init_77 : decode b_Mo_init 77 = .ok (.aload_n 0, 1) := by decide +kernel
theorem d_Mo_init_78 : decode b_Mo_init 78 = .ok (.bipush 6, 2) := by decide +kernel
theorem d_Mo_init_80 : decode b_Mo_init 80 = .ok (.newarray .int, 2) := by decide +kernel
theorem d_Mo_init_82 : decode b_Mo_init 82 = .ok (.putfield 38, 3) := by decide +kernel
theorem d_Mo_init_85 : decode b_Mo_init 85 = .ok (.aload_n 0, 1) := by decide +kernel
theorem d_Mo_init_86 : decode b_Mo_init 86 = .ok (.bipush 64, 2) := by decide +kernel
theorem d_Mo_init_88 : decode b_Mo_init 88 = .ok (.newarray .int, 2) := by decide +kernel
theorem d_Mo_init_90 : decode b_Mo_init 90 = .ok (.putfield 41, 3) := by decide +kernel
theorem d_Mo_init_93 : decode b_Mo_init 93 = .ok (.aload_n 0, 1) := by decide +kernel
theorem d_Mo_init_94 : decode b_Mo_init 94 = .ok (.bipush 30, 2) := by decide +kernel
theorem d_Mo_init_96 : decode b_Mo_init 96 = .ok (.newarray .int, 2) := by decide +kernel
theorem d_Mo_init_98 : decode b_Mo_init 98 = .ok (.putfield 44, 3) := by decide +kernel
theorem d_Mo_init_101 : decode b_Mo_init 101 = .ok (.aload_n 0, 1) := by decide +kernel
theorem d_Mo_init_102 : decode b_Mo_init 102 = .ok (.bipush 10, 2) := by decide +kernel
theorem d_Mo_init_104 : decode b_Mo_init 104 = .ok (.newarray .boolean, 2) := by decide +kernel
theorem d_Mo_init_106 : decode b_Mo_init 106 = .ok (.putfield 47, 3) := by decide +kernel
theorem d_Mo_init_109 : decode b_Mo_init 109 = .ok (.aload_n 0, 1) := by decide +kernel
theorem d_Mo_init_110 : decode b_Mo_init 110 = .ok (.sipush 200, 3) := by decide +kernel
theorem d_Mo_init_113 : decode b_Mo_init 113 = .ok (.newarray .int, 2) := by decide +kernel
theorem d_Mo_init_115 : decode b_Mo_init 115 = .ok (.putfield 50, 3) := by decide +kernel
theorem d_Mo_init_118 : decode b_Mo_init 118 = .ok (.aload_n 0, 1) := by decide +kernel
theorem d_Mo_init_119 : decode b_Mo_init 119 = .ok (.iconst 4, 1) := by decide +kernel
theorem d_Mo_init_120 : decode b_Mo_init 120 = .ok (.putfield 53, 3) := by decide +kernel
theorem d_Mo_init_123 : decode b_Mo_init 123 = .ok (.aload_n 0, 1) := by decide +kernel
theorem d_Mo_init_124 : decode b_Mo_init 124 = .ok (.bipush 50, 2) := by decide +kernel
theorem d_Mo_init_126 : decode b_Mo_init 126 = .ok (.newarray .int, 2) := by decide +kernel
theorem d_Mo_init_128 : decode b_Mo_init 128 = .ok (.putfield 57, 3) := by decide +kernel
theorem d_Mo_init_131 : decode b_Mo_init 131 = .ok (.iconst 0, 1) := by decide +kernel
theorem d_Mo_init_132 : decode b_Mo_init 132 = .ok (.istore_n 1, 1) := by decide +kernel
theorem d_Mo_init_133 : decode b_Mo_init 133 = .ok (.iload_n 1, 1) := by decide +kernel
theorem d_Mo_init_134 : decode b_Mo_init 134 = .ok (.bipush 6, 2) := by decide +kernel
theorem d_Mo_init_136 : decode b_Mo_init 136 = .ok (.if_icmp .ge 16, 3) := by decide +kernel
theorem d_Mo_init_139 : decode b_Mo_init 139 = .ok (.aload_n 0, 1) := by decide +kernel
theorem d_Mo_init_140 : decode b_Mo_init 140 = .ok (.getfield 35, 3) := by decide +kernel
theorem d_Mo_init_143 : decode b_Mo_init 143 = .ok (.iload_n 1, 1) := by decide +kernel
theorem d_Mo_init_144 : decode b_Mo_init 144 = .ok (.iconst (-1), 1) := by decide +kernel
theorem d_Mo_init_145 : decode b_Mo_init 145 = .ok (.iastore, 1) := by decide +kernel
theorem d_Mo_init_146 : decode b_Mo_init 146 = .ok (.iinc 1 1, 3) := by decide +kernel
theorem d_Mo_init_149 : decode b_Mo_init 149 = .ok (.goto (-16), 3) := by decide +kernel
theorem d_Mo_init_152 : decode b_Mo_init 152 = .ok (.return_, 1) := by decide +kernel
theorem d_Mo_thrown_0 : decode b_Mo_thrown 0 = .ok (.aload_n 0, 1) := by decide +kernel
theorem d_Mo_thrown_1 : decode b_Mo_thrown 1 = .ok (.getfield 60, 3) := by decide +kernel
theorem d_Mo_thrown_4 : decode b_Mo_thrown 4 = .ok (.ireturn, 1) := by decide +kernel
theorem d_Mo_object_0 : decode b_Mo_object 0 = .ok (.aload_n 0, 1) := by decide +kernel
theorem d_Mo_object_1 : decode b_Mo_object 1 = .ok (.aload_n 0, 1) := by decide +kernel
theorem d_Mo_object_2 : decode b_Mo_object 2 = .ok (.getfield 63, 3) := by decide +kernel
theorem d_Mo_object_5 : decode b_Mo_object 5 = .ok (.bipush 6, 2) := by decide +kernel
theorem d_Mo_object_7 : decode b_Mo_object 7 = .ok (.if_icmp .ge 7, 3) := by decide +kernel
theorem d_Mo_object_10 : decode b_Mo_object 10 = .ok (.iconst 1, 1) := by decide +kernel
theorem d_Mo_object_11 : decode b_Mo_object 11 = .ok (.goto 4, 3) := by decide +kernel
theorem d_Mo_object_14 : decode b_Mo_object 14 = .ok (.iconst 0, 1) := by decide +kernel
theorem d_Mo_object_15 : decode b_Mo_object 15 = .ok (.iload_n 1, 1) := by decide +kernel
theorem d_Mo_object_16 : decode b_Mo_object 16 = .ok (.iconst 1, 1) := by decide +kernel
theorem d_Mo_object_17 : decode b_Mo_object 17 = .ok (.sipush 200, 3) := by decide +kernel
theorem d_Mo_object_20 : decode b_Mo_object 20 = .ok (.invokestatic 66, 3) := by decide +kernel
theorem d_Mo_object_23 : decode b_Mo_object 23 = .ok (.ifCond .eq 40, 3) := by decide +kernel
theorem d_Mo_object_26 : decode b_Mo_object 26 = .ok (.iload_n 2, 1) := by decide +kernel
theorem d_Mo_object_27 : decode b_Mo_object 27 = .ok (.iconst 1, 1) := by decide +kernel
theorem d_Mo_object_28 : decode b_Mo_object 28 = .ok (.sipush 200, 3) := by decide +kernel
theorem d_Mo_object_31 : decode b_Mo_object 31 = .ok (.invokestatic 66, 3) := by decide +kernel
theorem d_Mo_object_34 : decode b_Mo_object 34 = .ok (.ifCond .eq 29, 3) := by decide +kernel
theorem d_Mo_object_37 : decode b_Mo_object 37 = .ok (.iload_n 3, 1) := by decide +kernel
theorem d_Mo_object_38 : decode b_Mo_object 38 = .ok (.iconst 1, 1) := by decide +kernel
theorem d_Mo_object_39 : decode b_Mo_object 39 = .ok (.sipush 200, 3) := by decide +kernel
theorem d_Mo_object_42 : decode b_Mo_object 42 = .ok (.invokestatic 66, 3) := by decide +kernel
theorem d_Mo_object_45 : decode b_Mo_object 45 = .ok (.ifCond .eq 18, 3) := by decide +kernel
theorem d_Mo_object_48 : decode b_Mo_object 48 = .ok (.iload 4, 2) := by decide +kernel
theorem d_Mo_object_50 : decode b_Mo_object 50 = .ok (.iconst 1, 1) := by decide +kernel
theorem d_Mo_object_51 : decode b_Mo_object 51 = .ok (.ldc 70, 2) := by decide +kernel
theorem d_Mo_object_53 : decode b_Mo_object 53 = .ok (.invokestatic 66, 3) := by decide +kernel
theorem d_Mo_object_56 : decode b_Mo_object 56 = .ok (.ifCond .eq 7, 3) := by decide +kernel
theorem d_Mo_object_59 : decode b_Mo_object 59 = .ok (.iconst 1, 1) := by decide +kernel
theorem d_Mo_object_60 : decode b_Mo_object 60 = .ok (.goto 4, 3) := by decide +kernel
theorem d_Mo_object_63 : decode b_Mo_object 63 = .ok (.iconst 0, 1) := by decide +kernel
theorem d_Mo_object_64 : decode b_Mo_object 64 = .ok (.iconst 1, 1) := by decide +kernel
theorem d_Mo_object_65 : decode b_Mo_object 65 = .ok (.invokevirtual 71, 3) := by decide +kernel
theorem d_Mo_object_68 : decode b_Mo_object 68 = .ok (.ifCond .ne 5, 3) := by decide +kernel
theorem d_Mo_object_71 : decode b_Mo_object 71 = .ok (.iconst 0, 1) := by decide +kernel
theorem d_Mo_object_72 : decode b_Mo_object 72 = .ok (.ireturn, 1) := by decide +kernel
theorem d_Mo_object_73 : decode b_Mo_object 73 = .ok (.aload_n 0, 1) := by decide +kernel
theorem d_Mo_object_74 : decode b_Mo_object 74 = .ok (.getfield 7, 3) := by decide +kernel
theorem d_Mo_object_77 : decode b_Mo_object 77 = .ok (.iconst 3, 1) := by decide +kernel
theorem d_Mo_object_78 : decode b_Mo_object 78 = .ok (.aload_n 0, 1) := by decide +kernel
theorem d_Mo_object_79 : decode b_Mo_object 79 = .ok (.getfield 63, 3) := by decide +kernel
theorem d_Mo_object_82 : decode b_Mo_object 82 = .ok (.imul, 1) := by decide +kernel
theorem d_Mo_object_83 : decode b_Mo_object 83 = .ok (.iload_n 1, 1) := by decide +kernel
theorem d_Mo_object_84 : decode b_Mo_object 84 = .ok (.iastore, 1) := by decide +kernel
theorem d_Mo_object_85 : decode b_Mo_object 85 = .ok (.aload_n 0, 1) := by decide +kernel
theorem d_Mo_object_86 : decode b_Mo_object 86 = .ok (.getfield 7, 3) := by decide +kernel
theorem d_Mo_object_89 : decode b_Mo_object 89 = .ok (.iconst 3, 1) := by decide +kernel
theorem d_Mo_object_90 : decode b_Mo_object 90 = .ok (.aload_n 0, 1) := by decide +kernel
theorem d_Mo_object_91 : decode b_Mo_object 91 = .ok (.getfield 63, 3) := by decide +kernel
theorem d_Mo_object_94 : decode b_Mo_object 94 = .ok (.imul, 1) := by decide +kernel
theorem d_Mo_object_95 : decode b_Mo_object 95 = .ok (.iconst 1, 1) := by decide +kernel
theorem d_Mo_object_96 : decode b_Mo_object 96 = .ok (.iadd, 1) := by decide +kernel
theorem d_Mo_object_97 : decode b_Mo_object 97 = .ok (.iload_n 2, 1) := by decide +kernel
theorem d_Mo_object_98 : decode b_Mo_object 98 = .ok (.iastore, 1) := by decide +kernel
theorem d_Mo_object_99 : decode b_Mo_object 99 = .ok (.aload_n 0, 1) := by decide +kernel
theorem d_Mo_object_100 : decode b_Mo_object 100 = .ok (.getfield 7, 3) := by decide +kernel
theorem d_Mo_object_103 : decode b_Mo_object 103 = .ok (.iconst 3, 1) := by decide +kernel
theorem d_Mo_object_104 : decode b_Mo_object 104 = .ok (.aload_n 0, 1) := by decide +kernel
theorem d_Mo_object_105 : decode b_Mo_object 105 = .ok (.getfield 63, 3) := by decide +kernel
theorem d_Mo_object_108 : decode b_Mo_object 108 = .ok (.imul, 1) := by decide +kernel
theorem d_Mo_object_109 : decode b_Mo_object 109 = .ok (.iconst 2, 1) := by decide +kernel
theorem d_Mo_object_110 : decode b_Mo_object 110 = .ok (.iadd, 1) := by decide +kernel
theorem d_Mo_object_111 : decode b_Mo_object 111 = .ok (.iload_n 3, 1) := by decide +kernel
theorem d_Mo_object_112 : decode b_Mo_object 112 = .ok (.iastore, 1) := by decide +kernel
theorem d_Mo_object_113 : decode b_Mo_object 113 = .ok (.aload_n 0, 1) := by decide +kernel
theorem d_Mo_object_114 : decode b_Mo_object 114 = .ok (.getfield 13, 3) := by decide +kernel
theorem d_Mo_object_117 : decode b_Mo_object 117 = .ok (.aload_n 0, 1) := by decide +kernel
theorem d_Mo_object_118 : decode b_Mo_object 118 = .ok (.getfield 63, 3) := by decide +kernel
theorem d_Mo_object_121 : decode b_Mo_object 121 = .ok (.iload 4, 2) := by decide +kernel
theorem d_Mo_object_123 : decode b_Mo_object 123 = .ok (.iastore, 1) := by decide +kernel
theorem d_Mo_object_124 : decode b_Mo_object 124 = .ok (.aload_n 0, 1) := by decide +kernel
theorem d_Mo_object_125 : decode b_Mo_object 125 = .ok (.dup, 1) := by decide +kernel
theorem d_Mo_object_126 : decode b_Mo_object 126 = .ok (.getfield 63, 3) := by decide +kernel
theorem d_Mo_object_129 : decode b_Mo_object 129 = .ok (.iconst 1, 1) := by decide +kernel
theorem d_Mo_object_130 : decode b_Mo_object 130 = .ok (.iadd, 1) := by decide +kernel
theorem d_Mo_object_131 : decode b_Mo_object 131 = .ok (.putfield 63, 3) := by decide +kernel
theorem d_Mo_object_134 : decode b_Mo_object 134 = .ok (.aload_n 0, 1) := by decide +kernel
theorem d_Mo_object_135 : decode b_Mo_object 135 = .ok (.getfield 63, 3) := by decide +kernel
theorem d_Mo_object_138 : decode b_Mo_object 138 = .ok (.iconst 1, 1) := by decide +kernel
theorem d_Mo_object_139 : decode b_Mo_object 139 = .ok (.isub, 1) := by decide +kernel
theorem d_Mo_object_140 : decode b_Mo_object 140 = .ok (.ireturn, 1) := by decide +kernel
theorem d_Mo_within_0 : decode b_Mo_within 0 = .ok (.iload_n 0, 1) := by decide +kernel
theorem d_Mo_within_1 : decode b_Mo_within 1 = .ok (.iload_n 1, 1) := by decide +kernel
theorem d_Mo_within_2 : decode b_Mo_within 2 = .ok (.if_icmp .lt 12, 3) := by decide +kernel
theorem d_Mo_within_5 : decode b_Mo_within 5 = .ok (.iload_n 0, 1) := by decide +kernel
theorem d_Mo_within_6 : decode b_Mo_within 6 = .ok (.iload_n 2, 1) := by decide +kernel
theorem d_Mo_within_7 : decode b_Mo_within 7 = .ok (.if_icmp .gt 7, 3) := by decide +kernel
theorem d_Mo_within_10 : decode b_Mo_within 10 = .ok (.iconst 1, 1) := by decide +kernel
theorem d_Mo_within_11 : decode b_Mo_within 11 = .ok (.goto 4, 3) := by decide +kernel
theorem d_Mo_within_14 : decode b_Mo_within 14 = .ok (.iconst 0, 1) := by decide +kernel
theorem d_Mo_within_15 : decode b_Mo_within 15 = .ok (.ireturn, 1) := by decide +kernel
theorem d_Mo_goes_0 : decode b_Mo_goes 0 = .ok (.aload_n 0, 1) := by decide +kernel
theorem d_Mo_goes_1 : decode b_Mo_goes 1 = .ok (.iload_n 1, 1) := by decide +kernel
theorem d_Mo_goes_2 : decode b_Mo_goes 2 = .ok (.ifCond .ne 7, 3) := by decide +kernel
theorem d_Mo_goes_5 : decode b_Mo_goes 5 = .ok (.iconst 1, 1) := by decide +kernel
theorem d_Mo_goes_6 : decode b_Mo_goes 6 = .ok (.goto 20, 3) := by decide +kernel
theorem d_Mo_goes_9 : decode b_Mo_goes 9 = .ok (.iload_n 2, 1) := by decide +kernel
theorem d_Mo_goes_10 : decode b_Mo_goes 10 = .ok (.ifCond .ne 7, 3) := by decide +kernel
theorem d_Mo_goes_13 : decode b_Mo_goes 13 = .ok (.iconst 2, 1) := by decide +kernel
theorem d_Mo_goes_14 : decode b_Mo_goes 14 = .ok (.goto 12, 3) := by decide +kernel
theorem d_Mo_goes_17 : decode b_Mo_goes 17 = .ok (.iload_n 3, 1) := by decide +kernel
theorem d_Mo_goes_18 : decode b_Mo_goes 18 = .ok (.ifCond .ne 7, 3) := by decide +kernel
theorem d_Mo_goes_21 : decode b_Mo_goes 21 = .ok (.iconst 3, 1) := by decide +kernel
theorem d_Mo_goes_22 : decode b_Mo_goes 22 = .ok (.goto 4, 3) := by decide +kernel
theorem d_Mo_goes_25 : decode b_Mo_goes 25 = .ok (.iconst 0, 1) := by decide +kernel
theorem d_Mo_goes_26 : decode b_Mo_goes 26 = .ok (.putfield 60, 3) := by decide +kernel
theorem d_Mo_goes_29 : decode b_Mo_goes 29 = .ok (.aload_n 0, 1) := by decide +kernel
theorem d_Mo_goes_30 : decode b_Mo_goes 30 = .ok (.getfield 60, 3) := by decide +kernel
theorem d_Mo_goes_33 : decode b_Mo_goes 33 = .ok (.ifCond .ne 7, 3) := by decide +kernel
theorem d_Mo_goes_36 : decode b_Mo_goes 36 = .ok (.iconst 1, 1) := by decide +kernel
theorem d_Mo_goes_37 : decode b_Mo_goes 37 = .ok (.goto 4, 3) := by decide +kernel
theorem d_Mo_goes_40 : decode b_Mo_goes 40 = .ok (.iconst 0, 1) := by decide +kernel
theorem d_Mo_goes_41 : decode b_Mo_goes 41 = .ok (.ireturn, 1) := by decide +kernel
theorem d_Mo_weak_0 : decode b_Mo_weak 0 = .ok (.aload_n 0, 1) := by decide +kernel
theorem d_Mo_weak_1 : decode b_Mo_weak 1 = .ok (.aload_n 0, 1) := by decide +kernel
theorem d_Mo_weak_2 : decode b_Mo_weak 2 = .ok (.iload_n 1, 1) := by decide +kernel
theorem d_Mo_weak_3 : decode b_Mo_weak 3 = .ok (.invokevirtual 75, 3) := by decide +kernel
theorem d_Mo_weak_6 : decode b_Mo_weak 6 = .ok (.ifCond .eq 16, 3) := by decide +kernel
theorem d_Mo_weak_9 : decode b_Mo_weak 9 = .ok (.iload_n 2, 1) := by decide +kernel
theorem d_Mo_weak_10 : decode b_Mo_weak 10 = .ok (.iconst 0, 1) := by decide +kernel
theorem d_Mo_weak_11 : decode b_Mo_weak 11 = .ok (.iconst 5, 1) := by decide +kernel
theorem d_Mo_weak_12 : decode b_Mo_weak 12 = .ok (.invokestatic 66, 3) := by decide +kernel
theorem d_Mo_weak_15 : decode b_Mo_weak 15 = .ok (.ifCond .eq 7, 3) := by decide +kernel
theorem d_Mo_weak_18 : decode b_Mo_weak 18 = .ok (.iconst 1, 1) := by decide +kernel
theorem d_Mo_weak_19 : decode b_Mo_weak 19 = .ok (.goto 4, 3) := by decide +kernel
theorem d_Mo_weak_22 : decode b_Mo_weak 22 = .ok (.iconst 0, 1) := by decide +kernel
theorem d_Mo_weak_23 : decode b_Mo_weak 23 = .ok (.iconst 1, 1) := by decide +kernel
theorem d_Mo_weak_24 : decode b_Mo_weak 24 = .ok (.iconst 1, 1) := by decide +kernel
theorem d_Mo_weak_25 : decode b_Mo_weak 25 = .ok (.invokevirtual 71, 3) := by decide +kernel
theorem d_Mo_weak_28 : decode b_Mo_weak 28 = .ok (.ifCond .ne 5, 3) := by decide +kernel
theorem d_Mo_weak_31 : decode b_Mo_weak 31 = .ok (.iconst 0, 1) := by decide +kernel
theorem d_Mo_weak_32 : decode b_Mo_weak 32 = .ok (.ireturn, 1) := by decide +kernel
theorem d_Mo_weak_33 : decode b_Mo_weak 33 = .ok (.aload_n 0, 1) := by decide +kernel
theorem d_Mo_weak_34 : decode b_Mo_weak 34 = .ok (.getfield 16, 3) := by decide +kernel
theorem d_Mo_weak_37 : decode b_Mo_weak 37 = .ok (.bipush 6, 2) := by decide +kernel
theorem d_Mo_weak_39 : decode b_Mo_weak 39 = .ok (.iload_n 1, 1) := by decide +kernel
theorem d_Mo_weak_40 : decode b_Mo_weak 40 = .ok (.imul, 1) := by decide +kernel
theorem d_Mo_weak_41 : decode b_Mo_weak 41 = .ok (.iload_n 2, 1) := by decide +kernel
theorem d_Mo_weak_42 : decode b_Mo_weak 42 = .ok (.iadd, 1) := by decide +kernel
theorem d_Mo_weak_43 : decode b_Mo_weak 43 = .ok (.baload, 1) := by decide +kernel
theorem d_Mo_weak_44 : decode b_Mo_weak 44 = .ok (.istore 4, 2) := by decide +kernel
theorem d_Mo_weak_46 : decode b_Mo_weak 46 = .ok (.aload_n 0, 1) := by decide +kernel
theorem d_Mo_weak_47 : decode b_Mo_weak 47 = .ok (.getfield 16, 3) := by decide +kernel
theorem d_Mo_weak_50 : decode b_Mo_weak 50 = .ok (.bipush 6, 2) := by decide +kernel
theorem d_Mo_weak_52 : decode b_Mo_weak 52 = .ok (.iload_n 1, 1) := by decide +kernel
theorem d_Mo_weak_53 : decode b_Mo_weak 53 = .ok (.imul, 1) := by decide +kernel
theorem d_Mo_weak_54 : decode b_Mo_weak 54 = .ok (.iload_n 2, 1) := by decide +kernel
theorem d_Mo_weak_55 : decode b_Mo_weak 55 = .ok (.iadd, 1) := by decide +kernel
theorem d_Mo_weak_56 : decode b_Mo_weak 56 = .ok (.iload_n 3, 1) := by decide +kernel
theorem d_Mo_weak_57 : decode b_Mo_weak 57 = .ok (.bastore, 1) := by decide +kernel
theorem d_Mo_weak_58 : decode b_Mo_weak 58 = .ok (.iload 4, 2) := by decide +kernel
theorem d_Mo_weak_60 : decode b_Mo_weak 60 = .ok (.iload_n 3, 1) := by decide +kernel
theorem d_Mo_weak_61 : decode b_Mo_weak 61 = .ok (.if_icmp .eq 7, 3) := by decide +kernel
theorem d_Mo_weak_64 : decode b_Mo_weak 64 = .ok (.iconst 1, 1) := by decide +kernel
theorem d_Mo_weak_65 : decode b_Mo_weak 65 = .ok (.goto 4, 3) := by decide +kernel
theorem d_Mo_weak_68 : decode b_Mo_weak 68 = .ok (.iconst 0, 1) := by decide +kernel
theorem d_Mo_weak_69 : decode b_Mo_weak 69 = .ok (.ireturn, 1) := by decide +kernel
theorem d_Mo_isObject_0 : decode b_Mo_isObject 0 = .ok (.iload_n 1, 1) := by decide +kernel
theorem d_Mo_isObject_1 : decode b_Mo_isObject 1 = .ok (.ifCond .lt 15, 3) := by decide +kernel
theorem d_Mo_isObject_4 : decode b_Mo_isObject 4 = .ok (.iload_n 1, 1) := by decide +kernel
theorem d_Mo_isObject_5 : decode b_Mo_isObject 5 = .ok (.aload_n 0, 1) := by decide +kernel
theorem d_Mo_isObject_6 : decode b_Mo_isObject 6 = .ok (.getfield 63, 3) := by decide +kernel
theorem d_Mo_isObject_9 : decode b_Mo_isObject 9 = .ok (.if_icmp .ge 7, 3) := by decide +kernel
theorem d_Mo_isObject_12 : decode b_Mo_isObject 12 = .ok (.iconst 1, 1) := by decide +kernel
theorem d_Mo_isObject_13 : decode b_Mo_isObject 13 = .ok (.goto 4, 3) := by decide +kernel
theorem d_Mo_isObject_16 : decode b_Mo_isObject 16 = .ok (.iconst 0, 1) := by decide +kernel
theorem d_Mo_isObject_17 : decode b_Mo_isObject 17 = .ok (.ireturn, 1) := by decide +kernel
theorem d_Mo_foam_0 : decode b_Mo_foam 0 = .ok (.iload_n 1, 1) := by decide +kernel
theorem d_Mo_foam_1 : decode b_Mo_foam 1 = .ok (.iconst 0, 1) := by decide +kernel
theorem d_Mo_foam_2 : decode b_Mo_foam 2 = .ok (.iconst 3, 1) := by decide +kernel
theorem d_Mo_foam_3 : decode b_Mo_foam 3 = .ok (.invokestatic 66, 3) := by decide +kernel
theorem d_Mo_foam_6 : decode b_Mo_foam 6 = .ok (.istore_n 3, 1) := by decide +kernel
theorem d_Mo_foam_7 : decode b_Mo_foam 7 = .ok (.iload_n 3, 1) := by decide +kernel
theorem d_Mo_foam_8 : decode b_Mo_foam 8 = .ok (.ifCond .eq 12, 3) := by decide +kernel
theorem d_Mo_foam_11 : decode b_Mo_foam 11 = .ok (.aload_n 0, 1) := by decide +kernel
theorem d_Mo_foam_12 : decode b_Mo_foam 12 = .ok (.getfield 20, 3) := by decide +kernel
theorem d_Mo_foam_15 : decode b_Mo_foam 15 = .ok (.iload_n 1, 1) := by decide +kernel
theorem d_Mo_foam_16 : decode b_Mo_foam 16 = .ok (.iaload, 1) := by decide +kernel
theorem d_Mo_foam_17 : decode b_Mo_foam 17 = .ok (.goto 4, 3) := by decide +kernel
theorem d_Mo_foam_20 : decode b_Mo_foam 20 = .ok (.iconst 0, 1) := by decide +kernel
theorem d_Mo_foam_21 : decode b_Mo_foam 21 = .ok (.istore 4, 2) := by decide +kernel
theorem d_Mo_foam_23 : decode b_Mo_foam 23 = .ok (.aload_n 0, 1) := by decide +kernel
theorem d_Mo_foam_24 : decode b_Mo_foam 24 = .ok (.iload_n 3, 1) := by decide +kernel
theorem d_Mo_foam_25 : decode b_Mo_foam 25 = .ok (.iload 4, 2) := by decide +kernel
theorem d_Mo_foam_27 : decode b_Mo_foam 27 = .ok (.bipush 8, 2) := by decide +kernel
theorem d_Mo_foam_29 : decode b_Mo_foam 29 = .ok (.if_icmp .ge 7, 3) := by decide +kernel
theorem d_Mo_foam_32 : decode b_Mo_foam 32 = .ok (.iconst 1, 1) := by decide +kernel
theorem d_Mo_foam_33 : decode b_Mo_foam 33 = .ok (.goto 4, 3) := by decide +kernel
theorem d_Mo_foam_36 : decode b_Mo_foam 36 = .ok (.iconst 0, 1) := by decide +kernel
theorem d_Mo_foam_37 : decode b_Mo_foam 37 = .ok (.iload_n 2, 1) := by decide +kernel
theorem d_Mo_foam_38 : decode b_Mo_foam 38 = .ok (.iconst 1, 1) := by decide +kernel
theorem d_Mo_foam_39 : decode b_Mo_foam 39 = .ok (.sipush 500, 3) := by decide +kernel
theorem d_Mo_foam_42 : decode b_Mo_foam 42 = .ok (.invokestatic 66, 3) := by decide +kernel
theorem d_Mo_foam_45 : decode b_Mo_foam 45 = .ok (.ifCond .eq 30, 3) := by decide +kernel
theorem d_Mo_foam_48 : decode b_Mo_foam 48 = .ok (.iload 4, 2) := by decide +kernel
theorem d_Mo_foam_50 : decode b_Mo_foam 50 = .ok (.ifCond .eq 21, 3) := by decide +kernel
theorem d_Mo_foam_53 : decode b_Mo_foam 53 = .ok (.iload_n 2, 1) := by decide +kernel
theorem d_Mo_foam_54 : decode b_Mo_foam 54 = .ok (.aload_n 0, 1) := by decide +kernel
theorem d_Mo_foam_55 : decode b_Mo_foam 55 = .ok (.getfield 23, 3) := by decide +kernel
theorem d_Mo_foam_58 : decode b_Mo_foam 58 = .ok (.bipush 8, 2) := by decide +kernel
theorem d_Mo_foam_60 : decode b_Mo_foam 60 = .ok (.iload_n 1, 1) := by decide +kernel
theorem d_Mo_foam_61 : decode b_Mo_foam 61 = .ok (.imul, 1) := by decide +kernel
theorem d_Mo_foam_62 : decode b_Mo_foam 62 = .ok (.iload 4, 2) := by decide +kernel
theorem d_Mo_foam_64 : decode b_Mo_foam 64 = .ok (.iadd, 1) := by decide +kernel
theorem d_Mo_foam_65 : decode b_Mo_foam 65 = .ok (.iconst 1, 1) := by decide +kernel
theorem d_Mo_foam_66 : decode b_Mo_foam 66 = .ok (.isub, 1) := by decide +kernel
theorem d_Mo_foam_67 : decode b_Mo_foam 67 = .ok (.iaload, 1) := by decide +kernel
theorem d_Mo_foam_68 : decode b_Mo_foam 68 = .ok (.if_icmp .le 7, 3) := by decide +kernel
theorem d_Mo_foam_71 : decode b_Mo_foam 71 = .ok (.iconst 1, 1) := by decide +kernel
theorem d_Mo_foam_72 : decode b_Mo_foam 72 = .ok (.goto 4, 3) := by decide +kernel
theorem d_Mo_foam_75 : decode b_Mo_foam 75 = .ok (.iconst 0, 1) := by decide +kernel
theorem d_Mo_foam_76 : decode b_Mo_foam 76 = .ok (.invokevirtual 71, 3) := by decide +kernel
theorem d_Mo_foam_79 : decode b_Mo_foam 79 = .ok (.ifCond .ne 5, 3) := by decide +kernel
theorem d_Mo_foam_82 : decode b_Mo_foam 82 = .ok (.iconst 0, 1) := by decide +kernel
theorem d_Mo_foam_83 : decode b_Mo_foam 83 = .ok (.ireturn, 1) := by decide +kernel
theorem d_Mo_foam_84 : decode b_Mo_foam 84 = .ok (.aload_n 0, 1) := by decide +kernel
theorem d_Mo_foam_85 : decode b_Mo_foam 85 = .ok (.getfield 23, 3) := by decide +kernel
theorem d_Mo_foam_88 : decode b_Mo_foam 88 = .ok (.bipush 8, 2) := by decide +kernel
theorem d_Mo_foam_90 : decode b_Mo_foam 90 = .ok (.iload_n 1, 1) := by decide +kernel
theorem d_Mo_foam_91 : decode b_Mo_foam 91 = .ok (.imul, 1) := by decide +kernel
theorem d_Mo_foam_92 : decode b_Mo_foam 92 = .ok (.iload 4, 2) := by decide +kernel
theorem d_Mo_foam_94 : decode b_Mo_foam 94 = .ok (.iadd, 1) := by decide +kernel
theorem d_Mo_foam_95 : decode b_Mo_foam 95 = .ok (.iload_n 2, 1) := by decide +kernel
theorem d_Mo_foam_96 : decode b_Mo_foam 96 = .ok (.iastore, 1) := by decide +kernel
theorem d_Mo_foam_97 : decode b_Mo_foam 97 = .ok (.aload_n 0, 1) := by decide +kernel
theorem d_Mo_foam_98 : decode b_Mo_foam 98 = .ok (.getfield 20, 3) := by decide +kernel
theorem d_Mo_foam_101 : decode b_Mo_foam 101 = .ok (.iload_n 1, 1) := by decide +kernel
theorem d_Mo_foam_102 : decode b_Mo_foam 102 = .ok (.dup2, 1) := by decide +kernel
theorem d_Mo_foam_103 : decode b_Mo_foam 103 = .ok (.iaload, 1) := by decide +kernel
theorem d_Mo_foam_104 : decode b_Mo_foam 104 = .ok (.iconst 1, 1) := by decide +kernel
theorem d_Mo_foam_105 : decode b_Mo_foam 105 = .ok (.iadd, 1) := by decide +kernel
theorem d_Mo_foam_106 : decode b_Mo_foam 106 = .ok (.iastore, 1) := by decide +kernel
theorem d_Mo_foam_107 : decode b_Mo_foam 107 = .ok (.iload 4, 2) := by decide +kernel
theorem d_Mo_foam_109 : decode b_Mo_foam 109 = .ok (.ireturn, 1) := by decide +kernel
theorem d_Mo_point_0 : decode b_Mo_point 0 = .ok (.aload_n 0, 1) := by decide +kernel
theorem d_Mo_point_1 : decode b_Mo_point 1 = .ok (.iload_n 1, 1) := by decide +kernel
theorem d_Mo_point_2 : decode b_Mo_point 2 = .ok (.iload_n 2, 1) := by decide +kernel
theorem d_Mo_point_3 : decode b_Mo_point 3 = .ok (.invokevirtual 79, 3) := by decide +kernel
theorem d_Mo_point_6 : decode b_Mo_point 6 = .ok (.istore 5, 2) := by decide +kernel
theorem d_Mo_point_8 : decode b_Mo_point 8 = .ok (.iload 5, 2) := by decide +kernel
theorem d_Mo_point_10 : decode b_Mo_point 10 = .ok (.ifCond .eq 12, 3) := by decide +kernel
theorem d_Mo_point_13 : decode b_Mo_point 13 = .ok (.bipush 8, 2) := by decide +kernel
theorem d_Mo_point_15 : decode b_Mo_point 15 = .ok (.iload_n 1, 1) := by decide +kernel
theorem d_Mo_point_16 : decode b_Mo_point 16 = .ok (.imul, 1) := by decide +kernel
theorem d_Mo_point_17 : decode b_Mo_point 17 = .ok (.iload_n 2, 1) := by decide +kernel
theorem d_Mo_point_18 : decode b_Mo_point 18 = .ok (.iadd, 1) := by decide +kernel
theorem d_Mo_point_19 : decode b_Mo_point 19 = .ok (.goto 4, 3) := by decide +kernel
theorem d_Mo_point_22 : decode b_Mo_point 22 = .ok (.iconst 0, 1) := by decide +kernel
theorem d_Mo_point_23 : decode b_Mo_point 23 = .ok (.istore 6, 2) := by decide +kernel
theorem d_Mo_point_25 : decode b_Mo_point 25 = .ok (.iload 5, 2) := by decide +kernel
theorem d_Mo_point_27 : decode b_Mo_point 27 = .ok (.ifCond .eq 13, 3) := by decide +kernel
theorem d_Mo_point_30 : decode b_Mo_point 30 = .ok (.aload_n 0, 1) := by decide +kernel
theorem d_Mo_point_31 : decode b_Mo_point 31 = .ok (.getfield 26, 3) := by decide +kernel
theorem d_Mo_point_34 : decode b_Mo_point 34 = .ok (.iload 6, 2) := by decide +kernel
theorem d_Mo_point_36 : decode b_Mo_point 36 = .ok (.iaload, 1) := by decide +kernel
theorem d_Mo_point_37 : decode b_Mo_point 37 = .ok (.goto 4, 3) := by decide +kernel
theorem d_Mo_point_40 : decode b_Mo_point 40 = .ok (.iconst 0, 1) := by decide +kernel
theorem d_Mo_point_41 : decode b_Mo_point 41 = .ok (.istore 7, 2) := by decide +kernel
theorem d_Mo_point_43 : decode b_Mo_point 43 = .ok (.iload 7, 2) := by decide +kernel
theorem d_Mo_point_45 : decode b_Mo_point 45 = .ok (.ifCond .eq 22, 3) := by decide +kernel
theorem d_Mo_point_48 : decode b_Mo_point 48 = .ok (.iload_n 3, 1) := by decide +kernel
theorem d_Mo_point_49 : decode b_Mo_point 49 = .ok (.aload_n 0, 1) := by decide +kernel
theorem d_Mo_point_50 : decode b_Mo_point 50 = .ok (.getfield 29, 3) := by decide +kernel
theorem d_Mo_point_53 : decode b_Mo_point 53 = .ok (.bipush 6, 2) := by decide +kernel
theorem d_Mo_point_55 : decode b_Mo_point 55 = .ok (.iload 6, 2) := by decide +kernel
theorem d_Mo_point_57 : decode b_Mo_point 57 = .ok (.imul, 1) := by decide +kernel
theorem d_Mo_point_58 : decode b_Mo_point 58 = .ok (.iload 7, 2) := by decide +kernel
theorem d_Mo_point_60 : decode b_Mo_point 60 = .ok (.iadd, 1) := by decide +kernel
theorem d_Mo_point_61 : decode b_Mo_point 61 = .ok (.iconst 1, 1) := by decide +kernel
theorem d_Mo_point_62 : decode b_Mo_point 62 = .ok (.isub, 1) := by decide +kernel
theorem d_Mo_point_63 : decode b_Mo_point 63 = .ok (.iaload, 1) := by decide +kernel
theorem d_Mo_point_64 : decode b_Mo_point 64 = .ok (.if_icmp .le 7, 3) := by decide +kernel
theorem d_Mo_point_67 : decode b_Mo_point 67 = .ok (.iconst 1, 1) := by decide +kernel
theorem d_Mo_point_68 : decode b_Mo_point 68 = .ok (.goto 4, 3) := by decide +kernel
theorem d_Mo_point_71 : decode b_Mo_point 71 = .ok (.iconst 0, 1) := by decide +kernel
theorem d_Mo_point_72 : decode b_Mo_point 72 = .ok (.istore 8, 2) := by decide +kernel
theorem d_Mo_point_74 : decode b_Mo_point 74 = .ok (.aload_n 0, 1) := by decide +kernel
theorem d_Mo_point_75 : decode b_Mo_point 75 = .ok (.iload 5, 2) := by decide +kernel
theorem d_Mo_point_77 : decode b_Mo_point 77 = .ok (.iload 7, 2) := by decide +kernel
theorem d_Mo_point_79 : decode b_Mo_point 79 = .ok (.bipush 6, 2) := by decide +kernel
theorem d_Mo_point_81 : decode b_Mo_point 81 = .ok (.if_icmp .ge 7, 3) := by decide +kernel
theorem d_Mo_point_84 : decode b_Mo_point 84 = .ok (.iconst 1, 1) := by decide +kernel
theorem d_Mo_point_85 : decode b_Mo_point 85 = .ok (.goto 4, 3) := by decide +kernel
theorem d_Mo_point_88 : decode b_Mo_point 88 = .ok (.iconst 0, 1) := by decide +kernel
theorem d_Mo_point_89 : decode b_Mo_point 89 = .ok (.iload_n 3, 1) := by decide +kernel
theorem d_Mo_point_90 : decode b_Mo_point 90 = .ok (.iconst 0, 1) := by decide +kernel
theorem d_Mo_point_91 : decode b_Mo_point 91 = .ok (.sipush 10000, 3) := by decide +kernel
theorem d_Mo_point_94 : decode b_Mo_point 94 = .ok (.invokestatic 66, 3) := by decide +kernel
theorem d_Mo_point_97 : decode b_Mo_point 97 = .ok (.ifCond .eq 24, 3) := by decide +kernel
theorem d_Mo_point_100 : decode b_Mo_point 100 = .ok (.iload 4, 2) := by decide +kernel
theorem d_Mo_point_102 : decode b_Mo_point 102 = .ok (.iconst 1, 1) := by decide +kernel
theorem d_Mo_point_103 : decode b_Mo_point 103 = .ok (.sipush 1000, 3) := by decide +kernel
theorem d_Mo_point_106 : decode b_Mo_point 106 = .ok (.invokestatic 66, 3) := by decide +kernel
theorem d_Mo_point_109 : decode b_Mo_point 109 = .ok (.ifCond .eq 12, 3) := by decide +kernel
theorem d_Mo_point_112 : decode b_Mo_point 112 = .ok (.iload 8, 2) := by decide +kernel
theorem d_Mo_point_114 : decode b_Mo_point 114 = .ok (.ifCond .eq 7, 3) := by decide +kernel
theorem d_Mo_point_117 : decode b_Mo_point 117 = .ok (.iconst 1, 1) := by decide +kernel
theorem d_Mo_point_118 : decode b_Mo_point 118 = .ok (.goto 4, 3) := by decide +kernel
theorem d_Mo_point_121 : decode b_Mo_point 121 = .ok (.iconst 0, 1) := by decide +kernel
theorem d_Mo_point_122 : decode b_Mo_point 122 = .ok (.invokevirtual 71, 3) := by decide +kernel
theorem d_Mo_point_125 : decode b_Mo_point 125 = .ok (.ifCond .ne 5, 3) := by decide +kernel
theorem d_Mo_point_128 : decode b_Mo_point 128 = .ok (.iconst 0, 1) := by decide +kernel
theorem d_Mo_point_129 : decode b_Mo_point 129 = .ok (.ireturn, 1) := by decide +kernel
theorem d_Mo_point_130 : decode b_Mo_point 130 = .ok (.aload_n 0, 1) := by decide +kernel
theorem d_Mo_point_131 : decode b_Mo_point 131 = .ok (.getfield 29, 3) := by decide +kernel
theorem d_Mo_point_134 : decode b_Mo_point 134 = .ok (.bipush 6, 2) := by decide +kernel
theorem d_Mo_point_136 : decode b_Mo_point 136 = .ok (.iload 6, 2) := by decide +kernel
theorem d_Mo_point_138 : decode b_Mo_point 138 = .ok (.imul, 1) := by decide +kernel
theorem d_Mo_point_139 : decode b_Mo_point 139 = .ok (.iload 7, 2) := by decide +kernel
theorem d_Mo_point_141 : decode b_Mo_point 141 = .ok (.iadd, 1) := by decide +kernel
theorem d_Mo_point_142 : decode b_Mo_point 142 = .ok (.iload_n 3, 1) := by decide +kernel
theorem d_Mo_point_143 : decode b_Mo_point 143 = .ok (.iastore, 1) := by decide +kernel
theorem d_Mo_point_144 : decode b_Mo_point 144 = .ok (.aload_n 0, 1) := by decide +kernel
theorem d_Mo_point_145 : decode b_Mo_point 145 = .ok (.getfield 32, 3) := by decide +kernel
theorem d_Mo_point_148 : decode b_Mo_point 148 = .ok (.bipush 6, 2) := by decide +kernel
theorem d_Mo_point_150 : decode b_Mo_point 150 = .ok (.iload 6, 2) := by decide +kernel
theorem d_Mo_point_152 : decode b_Mo_point 152 = .ok (.imul, 1) := by decide +kernel
theorem d_Mo_point_153 : decode b_Mo_point 153 = .ok (.iload 7, 2) := by decide +kernel
theorem d_Mo_point_155 : decode b_Mo_point 155 = .ok (.iadd, 1) := by decide +kernel
theorem d_Mo_point_156 : decode b_Mo_point 156 = .ok (.iload 4, 2) := by decide +kernel
theorem d_Mo_point_158 : decode b_Mo_point 158 = .ok (.iastore, 1) := by decide +kernel
theorem d_Mo_point_159 : decode b_Mo_point 159 = .ok (.aload_n 0, 1) := by decide +kernel
theorem d_Mo_point_160 : decode b_Mo_point 160 = .ok (.getfield 26, 3) := by decide +kernel
theorem d_Mo_point_163 : decode b_Mo_point 163 = .ok (.iload 6, 2) := by decide +kernel
theorem d_Mo_point_165 : decode b_Mo_point 165 = .ok (.dup2, 1) := by decide +kernel
theorem d_Mo_point_166 : decode b_Mo_point 166 = .ok (.iaload, 1) := by decide +kernel
theorem d_Mo_point_167 : decode b_Mo_point 167 = .ok (.iconst 1, 1) := by decide +kernel
theorem d_Mo_point_168 : decode b_Mo_point 168 = .ok (.iadd, 1) := by decide +kernel
theorem d_Mo_point_169 : decode b_Mo_point 169 = .ok (.iastore, 1) := by decide +kernel
theorem d_Mo_point_170 : decode b_Mo_point 170 = .ok (.iload 7, 2) := by decide +kernel
theorem d_Mo_point_172 : decode b_Mo_point 172 = .ok (.iconst 1, 1) := by decide +kernel
theorem d_Mo_point_173 : decode b_Mo_point 173 = .ok (.iadd, 1) := by decide +kernel
theorem d_Mo_point_174 : decode b_Mo_point 174 = .ok (.ireturn, 1) := by decide +kernel
theorem d_Mo_isRow_0 : decode b_Mo_isRow 0 = .ok (.iload_n 1, 1) := by decide +kernel
theorem d_Mo_isRow_1 : decode b_Mo_isRow 1 = .ok (.iconst 0, 1) := by decide +kernel
theorem d_Mo_isRow_2 : decode b_Mo_isRow 2 = .ok (.iconst 3, 1) := by decide +kernel
theorem d_Mo_isRow_3 : decode b_Mo_isRow 3 = .ok (.invokestatic 66, 3) := by decide +kernel
theorem d_Mo_isRow_6 : decode b_Mo_isRow 6 = .ok (.ifCond .eq 21, 3) := by decide +kernel
theorem d_Mo_isRow_9 : decode b_Mo_isRow 9 = .ok (.iload_n 2, 1) := by decide +kernel
theorem d_Mo_isRow_10 : decode b_Mo_isRow 10 = .ok (.ifCond .lt 17, 3) := by decide +kernel
theorem d_Mo_isRow_13 : decode b_Mo_isRow 13 = .ok (.iload_n 2, 1) := by decide +kernel
theorem d_Mo_isRow_14 : decode b_Mo_isRow 14 = .ok (.aload_n 0, 1) := by decide +kernel
theorem d_Mo_isRow_15 : decode b_Mo_isRow 15 = .ok (.getfield 20, 3) := by decide +kernel
theorem d_Mo_isRow_18 : decode b_Mo_isRow 18 = .ok (.iload_n 1, 1) := by decide +kernel
theorem d_Mo_isRow_19 : decode b_Mo_isRow 19 = .ok (.iaload, 1) := by decide +kernel
theorem d_Mo_isRow_20 : decode b_Mo_isRow 20 = .ok (.if_icmp .ge 7, 3) := by decide +kernel
theorem d_Mo_isRow_23 : decode b_Mo_isRow 23 = .ok (.iconst 1, 1) := by decide +kernel
theorem d_Mo_isRow_24 : decode b_Mo_isRow 24 = .ok (.goto 4, 3) := by decide +kernel
theorem d_Mo_isRow_27 : decode b_Mo_isRow 27 = .ok (.iconst 0, 1) := by decide +kernel
theorem d_Mo_isRow_28 : decode b_Mo_isRow 28 = .ok (.ireturn, 1) := by decide +kernel
theorem d_Mo_value_0 : decode b_Mo_value 0 = .ok (.aload_n 0, 1) := by decide +kernel
theorem d_Mo_value_1 : decode b_Mo_value 1 = .ok (.aload_n 0, 1) := by decide +kernel
theorem d_Mo_value_2 : decode b_Mo_value 2 = .ok (.iload_n 1, 1) := by decide +kernel
theorem d_Mo_value_3 : decode b_Mo_value 3 = .ok (.iload_n 2, 1) := by decide +kernel
theorem d_Mo_value_4 : decode b_Mo_value 4 = .ok (.invokevirtual 79, 3) := by decide +kernel
theorem d_Mo_value_7 : decode b_Mo_value 7 = .ok (.iconst 1, 1) := by decide +kernel
theorem d_Mo_value_8 : decode b_Mo_value 8 = .ok (.iconst 1, 1) := by decide +kernel
theorem d_Mo_value_9 : decode b_Mo_value 9 = .ok (.invokevirtual 71, 3) := by decide +kernel
theorem d_Mo_value_12 : decode b_Mo_value 12 = .ok (.ifCond .eq 17, 3) := by decide +kernel
theorem d_Mo_value_15 : decode b_Mo_value 15 = .ok (.aload_n 0, 1) := by decide +kernel
theorem d_Mo_value_16 : decode b_Mo_value 16 = .ok (.bipush 8, 2) := by decide +kernel
theorem d_Mo_value_18 : decode b_Mo_value 18 = .ok (.iload_n 1, 1) := by decide +kernel
theorem d_Mo_value_19 : decode b_Mo_value 19 = .ok (.imul, 1) := by decide +kernel
theorem d_Mo_value_20 : decode b_Mo_value 20 = .ok (.iload_n 2, 1) := by decide +kernel
theorem d_Mo_value_21 : decode b_Mo_value 21 = .ok (.iadd, 1) := by decide +kernel
theorem d_Mo_value_22 : decode b_Mo_value 22 = .ok (.iload_n 3, 1) := by decide +kernel
theorem d_Mo_value_23 : decode b_Mo_value 23 = .ok (.invokevirtual 87, 3) := by decide +kernel
theorem d_Mo_value_26 : decode b_Mo_value 26 = .ok (.goto 4, 3) := by decide +kernel
theorem d_Mo_value_29 : decode b_Mo_value 29 = .ok (.iconst 0, 1) := by decide +kernel
theorem d_Mo_value_30 : decode b_Mo_value 30 = .ok (.ireturn, 1) := by decide +kernel
theorem d_Mo_valueOf_0 : decode b_Mo_valueOf 0 = .ok (.bipush 6, 2) := by decide +kernel
theorem d_Mo_valueOf_2 : decode b_Mo_valueOf 2 = .ok (.iload_n 1, 1) := by decide +kernel
theorem d_Mo_valueOf_3 : decode b_Mo_valueOf 3 = .ok (.imul, 1) := by decide +kernel
theorem d_Mo_valueOf_4 : decode b_Mo_valueOf 4 = .ok (.istore_n 3, 1) := by decide +kernel
theorem d_Mo_valueOf_5 : decode b_Mo_valueOf 5 = .ok (.iload_n 3, 1) := by decide +kernel
theorem d_Mo_valueOf_6 : decode b_Mo_valueOf 6 = .ok (.bipush 6, 2) := by decide +kernel
theorem d_Mo_valueOf_8 : decode b_Mo_valueOf 8 = .ok (.iload_n 1, 1) := by decide +kernel
theorem d_Mo_valueOf_9 : decode b_Mo_valueOf 9 = .ok (.imul, 1) := by decide +kernel
theorem d_Mo_valueOf_10 : decode b_Mo_valueOf 10 = .ok (.aload_n 0, 1) := by decide +kernel
theorem d_Mo_valueOf_11 : decode b_Mo_valueOf 11 = .ok (.getfield 26, 3) := by decide +kernel
theorem d_Mo_valueOf_14 : decode b_Mo_valueOf 14 = .ok (.iload_n 1, 1) := by decide +kernel
theorem d_Mo_valueOf_15 : decode b_Mo_valueOf 15 = .ok (.iaload, 1) := by decide +kernel
theorem d_Mo_valueOf_16 : decode b_Mo_valueOf 16 = .ok (.iadd, 1) := by decide +kernel
theorem d_Mo_valueOf_17 : decode b_Mo_valueOf 17 = .ok (.if_icmp .ge 115, 3) := by decide +kernel
theorem d_Mo_valueOf_20 : decode b_Mo_valueOf 20 = .ok (.aload_n 0, 1) := by decide +kernel
theorem d_Mo_valueOf_21 : decode b_Mo_valueOf 21 = .ok (.getfield 29, 3) := by decide +kernel
theorem d_Mo_valueOf_24 : decode b_Mo_valueOf 24 = .ok (.iload_n 3, 1) := by decide +kernel
theorem d_Mo_valueOf_25 : decode b_Mo_valueOf 25 = .ok (.iaload, 1) := by decide +kernel
theorem d_Mo_valueOf_26 : decode b_Mo_valueOf 26 = .ok (.iload_n 2, 1) := by decide +kernel
theorem d_Mo_valueOf_27 : decode b_Mo_valueOf 27 = .ok (.if_icmp .ne 10, 3) := by decide +kernel
theorem d_Mo_valueOf_30 : decode b_Mo_valueOf 30 = .ok (.aload_n 0, 1) := by decide +kernel
theorem d_Mo_valueOf_31 : decode b_Mo_valueOf 31 = .ok (.getfield 32, 3) := by decide +kernel
theorem d_Mo_valueOf_34 : decode b_Mo_valueOf 34 = .ok (.iload_n 3, 1) := by decide +kernel
theorem d_Mo_valueOf_35 : decode b_Mo_valueOf 35 = .ok (.iaload, 1) := by decide +kernel
theorem d_Mo_valueOf_36 : decode b_Mo_valueOf 36 = .ok (.ireturn, 1) := by decide +kernel
theorem d_Mo_valueOf_37 : decode b_Mo_valueOf 37 = .ok (.iload_n 3, 1) := by decide +kernel
theorem d_Mo_valueOf_38 : decode b_Mo_valueOf 38 = .ok (.iconst 1, 1) := by decide +kernel
theorem d_Mo_valueOf_39 : decode b_Mo_valueOf 39 = .ok (.iadd, 1) := by decide +kernel
theorem d_Mo_valueOf_40 : decode b_Mo_valueOf 40 = .ok (.bipush 6, 2) := by decide +kernel
theorem d_Mo_valueOf_42 : decode b_Mo_valueOf 42 = .ok (.iload_n 1, 1) := by decide +kernel
theorem d_Mo_valueOf_43 : decode b_Mo_valueOf 43 = .ok (.imul, 1) := by decide +kernel
theorem d_Mo_valueOf_44 : decode b_Mo_valueOf 44 = .ok (.aload_n 0, 1) := by decide +kernel
theorem d_Mo_valueOf_45 : decode b_Mo_valueOf 45 = .ok (.getfield 26, 3) := by decide +kernel
theorem d_Mo_valueOf_48 : decode b_Mo_valueOf 48 = .ok (.iload_n 1, 1) := by decide +kernel
theorem d_Mo_valueOf_49 : decode b_Mo_valueOf 49 = .ok (.iaload, 1) := by decide +kernel
theorem d_Mo_valueOf_50 : decode b_Mo_valueOf 50 = .ok (.iadd, 1) := by decide +kernel
theorem d_Mo_valueOf_51 : decode b_Mo_valueOf 51 = .ok (.if_icmp .ge 75, 3) := by decide +kernel
theorem d_Mo_valueOf_54 : decode b_Mo_valueOf 54 = .ok (.aload_n 0, 1) := by decide +kernel
theorem d_Mo_valueOf_55 : decode b_Mo_valueOf 55 = .ok (.getfield 29, 3) := by decide +kernel
theorem d_Mo_valueOf_58 : decode b_Mo_valueOf 58 = .ok (.iload_n 3, 1) := by decide +kernel
theorem d_Mo_valueOf_59 : decode b_Mo_valueOf 59 = .ok (.iaload, 1) := by decide +kernel
theorem d_Mo_valueOf_60 : decode b_Mo_valueOf 60 = .ok (.iload_n 2, 1) := by decide +kernel
theorem d_Mo_valueOf_61 : decode b_Mo_valueOf 61 = .ok (.if_icmp .ge 65, 3) := by decide +kernel
theorem d_Mo_valueOf_64 : decode b_Mo_valueOf 64 = .ok (.iload_n 2, 1) := by decide +kernel
theorem d_Mo_valueOf_65 : decode b_Mo_valueOf 65 = .ok (.aload_n 0, 1) := by decide +kernel
theorem d_Mo_valueOf_66 : decode b_Mo_valueOf 66 = .ok (.getfield 29, 3) := by decide +kernel
theorem d_Mo_valueOf_69 : decode b_Mo_valueOf 69 = .ok (.iload_n 3, 1) := by decide +kernel
theorem d_Mo_valueOf_70 : decode b_Mo_valueOf 70 = .ok (.iconst 1, 1) := by decide +kernel
theorem d_Mo_valueOf_71 : decode b_Mo_valueOf 71 = .ok (.iadd, 1) := by decide +kernel
theorem d_Mo_valueOf_72 : decode b_Mo_valueOf 72 = .ok (.iaload, 1) := by decide +kernel
theorem d_Mo_valueOf_73 : decode b_Mo_valueOf 73 = .ok (.if_icmp .ge 53, 3) := by decide +kernel
theorem d_Mo_valueOf_76 : decode b_Mo_valueOf 76 = .ok (.aload_n 0, 1) := by decide +kernel
theorem d_Mo_valueOf_77 : decode b_Mo_valueOf 77 = .ok (.getfield 32, 3) := by decide +kernel
theorem d_Mo_valueOf_80 : decode b_Mo_valueOf 80 = .ok (.iload_n 3, 1) := by decide +kernel
theorem d_Mo_valueOf_81 : decode b_Mo_valueOf 81 = .ok (.iaload, 1) := by decide +kernel
theorem d_Mo_valueOf_82 : decode b_Mo_valueOf 82 = .ok (.aload_n 0, 1) := by decide +kernel
theorem d_Mo_valueOf_83 : decode b_Mo_valueOf 83 = .ok (.getfield 32, 3) := by decide +kernel
theorem d_Mo_valueOf_86 : decode b_Mo_valueOf 86 = .ok (.iload_n 3, 1) := by decide +kernel
theorem d_Mo_valueOf_87 : decode b_Mo_valueOf 87 = .ok (.iconst 1, 1) := by decide +kernel
theorem d_Mo_valueOf_88 : decode b_Mo_valueOf 88 = .ok (.iadd, 1) := by decide +kernel
theorem d_Mo_valueOf_89 : decode b_Mo_valueOf 89 = .ok (.iaload, 1) := by decide +kernel
theorem d_Mo_valueOf_90 : decode b_Mo_valueOf 90 = .ok (.aload_n 0, 1) := by decide +kernel
theorem d_Mo_valueOf_91 : decode b_Mo_valueOf 91 = .ok (.getfield 32, 3) := by decide +kernel
theorem d_Mo_valueOf_94 : decode b_Mo_valueOf 94 = .ok (.iload_n 3, 1) := by decide +kernel
theorem d_Mo_valueOf_95 : decode b_Mo_valueOf 95 = .ok (.iaload, 1) := by decide +kernel
theorem d_Mo_valueOf_96 : decode b_Mo_valueOf 96 = .ok (.isub, 1) := by decide +kernel
theorem d_Mo_valueOf_97 : decode b_Mo_valueOf 97 = .ok (.iload_n 2, 1) := by decide +kernel
theorem d_Mo_valueOf_98 : decode b_Mo_valueOf 98 = .ok (.aload_n 0, 1) := by decide +kernel
theorem d_Mo_valueOf_99 : decode b_Mo_valueOf 99 = .ok (.getfield 29, 3) := by decide +kernel
theorem d_Mo_valueOf_102 : decode b_Mo_valueOf 102 = .ok (.iload_n 3, 1) := by decide +kernel
theorem d_Mo_valueOf_103 : decode b_Mo_valueOf 103 = .ok (.iaload, 1) := by decide +kernel
theorem d_Mo_valueOf_104 : decode b_Mo_valueOf 104 = .ok (.isub, 1) := by decide +kernel
theorem d_Mo_valueOf_105 : decode b_Mo_valueOf 105 = .ok (.imul, 1) := by decide +kernel
theorem d_Mo_valueOf_106 : decode b_Mo_valueOf 106 = .ok (.aload_n 0, 1) := by decide +kernel
theorem d_Mo_valueOf_107 : decode b_Mo_valueOf 107 = .ok (.getfield 29, 3) := by decide +kernel
theorem d_Mo_valueOf_110 : decode b_Mo_valueOf 110 = .ok (.iload_n 3, 1) := by decide +kernel
theorem d_Mo_valueOf_111 : decode b_Mo_valueOf 111 = .ok (.iconst 1, 1) := by decide +kernel
theorem d_Mo_valueOf_112 : decode b_Mo_valueOf 112 = .ok (.iadd, 1) := by decide +kernel
theorem d_Mo_valueOf_113 : decode b_Mo_valueOf 113 = .ok (.iaload, 1) := by decide +kernel
theorem d_Mo_valueOf_114 : decode b_Mo_valueOf 114 = .ok (.aload_n 0, 1) := by decide +kernel
theorem d_Mo_valueOf_115 : decode b_Mo_valueOf 115 = .ok (.getfield 29, 3) := by decide +kernel
theorem d_Mo_valueOf_118 : decode b_Mo_valueOf 118 = .ok (.iload_n 3, 1) := by decide +kernel
theorem d_Mo_valueOf_119 : decode b_Mo_valueOf 119 = .ok (.iaload, 1) := by decide +kernel
theorem d_Mo_valueOf_120 : decode b_Mo_valueOf 120 = .ok (.isub, 1) := by decide +kernel
theorem d_Mo_valueOf_121 : decode b_Mo_valueOf 121 = .ok (.invokestatic 83, 3) := by decide +kernel
theorem d_Mo_valueOf_124 : decode b_Mo_valueOf 124 = .ok (.iadd, 1) := by decide +kernel
theorem d_Mo_valueOf_125 : decode b_Mo_valueOf 125 = .ok (.ireturn, 1) := by decide +kernel
theorem d_Mo_valueOf_126 : decode b_Mo_valueOf 126 = .ok (.iinc 3 1, 3) := by decide +kernel
theorem d_Mo_valueOf_129 : decode b_Mo_valueOf 129 = .ok (.goto (-124), 3) := by decide +kernel
theorem d_Mo_valueOf_132 : decode b_Mo_valueOf 132 = .ok (.iconst (-1), 1) := by decide +kernel
theorem d_Mo_valueOf_133 : decode b_Mo_valueOf 133 = .ok (.ireturn, 1) := by decide +kernel
theorem d_Mo_up_0 : decode b_Mo_up 0 = .ok (.iload_n 0, 1) := by decide +kernel
theorem d_Mo_up_1 : decode b_Mo_up 1 = .ok (.iload_n 1, 1) := by decide +kernel
theorem d_Mo_up_2 : decode b_Mo_up 2 = .ok (.idiv, 1) := by decide +kernel
theorem d_Mo_up_3 : decode b_Mo_up 3 = .ok (.istore_n 2, 1) := by decide +kernel
theorem d_Mo_up_4 : decode b_Mo_up 4 = .ok (.iload_n 2, 1) := by decide +kernel
theorem d_Mo_up_5 : decode b_Mo_up 5 = .ok (.iload_n 1, 1) := by decide +kernel
theorem d_Mo_up_6 : decode b_Mo_up 6 = .ok (.imul, 1) := by decide +kernel
theorem d_Mo_up_7 : decode b_Mo_up 7 = .ok (.iload_n 0, 1) := by decide +kernel
theorem d_Mo_up_8 : decode b_Mo_up 8 = .ok (.if_icmp .ge 9, 3) := by decide +kernel
theorem d_Mo_up_11 : decode b_Mo_up 11 = .ok (.iload_n 2, 1) := by decide +kernel
theorem d_Mo_up_12 : decode b_Mo_up 12 = .ok (.iconst 1, 1) := by decide +kernel
theorem d_Mo_up_13 : decode b_Mo_up 13 = .ok (.iadd, 1) := by decide +kernel
theorem d_Mo_up_14 : decode b_Mo_up 14 = .ok (.goto 4, 3) := by decide +kernel
theorem d_Mo_up_17 : decode b_Mo_up 17 = .ok (.iload_n 2, 1) := by decide +kernel
theorem d_Mo_up_18 : decode b_Mo_up 18 = .ok (.ireturn, 1) := by decide +kernel
theorem d_Mo_thickness_0 : decode b_Mo_thickness 0 = .ok (.aload_n 0, 1) := by decide +kernel
theorem d_Mo_thickness_1 : decode b_Mo_thickness 1 = .ok (.iload_n 1, 1) := by decide +kernel
theorem d_Mo_thickness_2 : decode b_Mo_thickness 2 = .ok (.iconst 0, 1) := by decide +kernel
theorem d_Mo_thickness_3 : decode b_Mo_thickness 3 = .ok (.iconst 3, 1) := by decide +kernel
theorem d_Mo_thickness_4 : decode b_Mo_thickness 4 = .ok (.invokestatic 66, 3) := by decide +kernel
theorem d_Mo_thickness_7 : decode b_Mo_thickness 7 = .ok (.iconst 1, 1) := by decide +kernel
theorem d_Mo_thickness_8 : decode b_Mo_thickness 8 = .ok (.iconst 1, 1) := by decide +kernel
theorem d_Mo_thickness_9 : decode b_Mo_thickness 9 = .ok (.invokevirtual 71, 3) := by decide +kernel
theorem d_Mo_thickness_12 : decode b_Mo_thickness 12 = .ok (.ifCond .ne 5, 3) := by decide +kernel
theorem d_Mo_thickness_15 : decode b_Mo_thickness 15 = .ok (.iconst 0, 1) := by decide +kernel
theorem d_Mo_thickness_16 : decode b_Mo_thickness 16 = .ok (.ireturn, 1) := by decide +kernel
theorem d_Mo_thickness_17 : decode b_Mo_thickness 17 = .ok (.iconst 0, 1) := by decide +kernel
theorem d_Mo_thickness_18 : decode b_Mo_thickness 18 = .ok (.istore 4, 2) := by decide +kernel
theorem d_Mo_thickness_20 : decode b_Mo_thickness 20 = .ok (.aload_n 0, 1) := by decide +kernel
theorem d_Mo_thickness_21 : decode b_Mo_thickness 21 = .ok (.getfield 20, 3) := by decide +kernel
theorem d_Mo_thickness_24 : decode b_Mo_thickness 24 = .ok (.iload_n 1, 1) := by decide +kernel
theorem d_Mo_thickness_25 : decode b_Mo_thickness 25 = .ok (.iaload, 1) := by decide +kernel
theorem d_Mo_thickness_26 : decode b_Mo_thickness 26 = .ok (.istore 5, 2) := by decide +kernel
theorem d_Mo_thickness_28 : decode b_Mo_thickness 28 = .ok (.iload 4, 2) := by decide +kernel
theorem d_Mo_thickness_30 : decode b_Mo_thickness 30 = .ok (.iload 5, 2) := by decide +kernel
theorem d_Mo_thickness_32 : decode b_Mo_thickness 32 = .ok (.if_icmp .ge 78, 3) := by decide +kernel
theorem d_Mo_thickness_35 : decode b_Mo_thickness 35 = .ok (.iload 4, 2) := by decide +kernel
theorem d_Mo_thickness_37 : decode b_Mo_thickness 37 = .ok (.iload 5, 2) := by decide +kernel
theorem d_Mo_thickness_39 : decode b_Mo_thickness 39 = .ok (.iadd, 1) := by decide +kernel
theorem d_Mo_thickness_40 : decode b_Mo_thickness 40 = .ok (.iconst 2, 1) := by decide +kernel
theorem d_Mo_thickness_41 : decode b_Mo_thickness 41 = .ok (.idiv, 1) := by decide +kernel
theorem d_Mo_thickness_42 : decode b_Mo_thickness 42 = .ok (.istore 6, 2) := by decide +kernel
theorem d_Mo_thickness_44 : decode b_Mo_thickness 44 = .ok (.aload_n 0, 1) := by decide +kernel
theorem d_Mo_thickness_45 : decode b_Mo_thickness 45 = .ok (.bipush 8, 2) := by decide +kernel
theorem d_Mo_thickness_47 : decode b_Mo_thickness 47 = .ok (.iload_n 1, 1) := by decide +kernel
theorem d_Mo_thickness_48 : decode b_Mo_thickness 48 = .ok (.imul, 1) := by decide +kernel
theorem d_Mo_thickness_49 : decode b_Mo_thickness 49 = .ok (.iload 6, 2) := by decide +kernel
theorem d_Mo_thickness_51 : decode b_Mo_thickness 51 = .ok (.iadd, 1) := by decide +kernel
theorem d_Mo_thickness_52 : decode b_Mo_thickness 52 = .ok (.iload_n 2, 1) := by decide +kernel
theorem d_Mo_thickness_53 : decode b_Mo_thickness 53 = .ok (.invokevirtual 87, 3) := by decide +kernel
theorem d_Mo_thickness_56 : decode b_Mo_thickness 56 = .ok (.istore 7, 2) := by decide +kernel
theorem d_Mo_thickness_58 : decode b_Mo_thickness 58 = .ok (.iload 7, 2) := by decide +kernel
theorem d_Mo_thickness_60 : decode b_Mo_thickness 60 = .ok (.iconst (-1), 1) := by decide +kernel
theorem d_Mo_thickness_61 : decode b_Mo_thickness 61 = .ok (.if_icmp .eq 13, 3) := by decide +kernel
theorem d_Mo_thickness_64 : decode b_Mo_thickness 64 = .ok (.iload 7, 2) := by decide +kernel
theorem d_Mo_thickness_66 : decode b_Mo_thickness 66 = .ok (.iload_n 3, 1) := by decide +kernel
theorem d_Mo_thickness_67 : decode b_Mo_thickness 67 = .ok (.if_icmp .gt 7, 3) := by decide +kernel
theorem d_Mo_thickness_70 : decode b_Mo_thickness 70 = .ok (.iconst 1, 1) := by decide +kernel
theorem d_Mo_thickness_71 : decode b_Mo_thickness 71 = .ok (.goto 4, 3) := by decide +kernel
theorem d_Mo_thickness_74 : decode b_Mo_thickness 74 = .ok (.iconst 0, 1) := by decide +kernel
theorem d_Mo_thickness_75 : decode b_Mo_thickness 75 = .ok (.istore 8, 2) := by decide +kernel
theorem d_Mo_thickness_77 : decode b_Mo_thickness 77 = .ok (.iload 8, 2) := by decide +kernel
theorem d_Mo_thickness_79 : decode b_Mo_thickness 79 = .ok (.ifCond .eq 8, 3) := by decide +kernel
theorem d_Mo_thickness_82 : decode b_Mo_thickness 82 = .ok (.iload 6, 2) := by decide +kernel
theorem d_Mo_thickness_84 : decode b_Mo_thickness 84 = .ok (.goto 5, 3) := by decide +kernel
theorem d_Mo_thickness_87 : decode b_Mo_thickness 87 = .ok (.iload 5, 2) := by decide +kernel
theorem d_Mo_thickness_89 : decode b_Mo_thickness 89 = .ok (.istore 5, 2) := by decide +kernel
theorem d_Mo_thickness_91 : decode b_Mo_thickness 91 = .ok (.iload 8, 2) := by decide +kernel
theorem d_Mo_thickness_93 : decode b_Mo_thickness 93 = .ok (.ifCond .eq 8, 3) := by decide +kernel
theorem d_Mo_thickness_96 : decode b_Mo_thickness 96 = .ok (.iload 4, 2) := by decide +kernel
theorem d_Mo_thickness_98 : decode b_Mo_thickness 98 = .ok (.goto 7, 3) := by decide +kernel
theorem d_Mo_thickness_101 : decode b_Mo_thickness 101 = .ok (.iload 6, 2) := by decide +kernel
theorem d_Mo_thickness_103 : decode b_Mo_thickness 103 = .ok (.iconst 1, 1) := by decide +kernel
theorem d_Mo_thickness_104 : decode b_Mo_thickness 104 = .ok (.iadd, 1) := by decide +kernel
theorem d_Mo_thickness_105 : decode b_Mo_thickness 105 = .ok (.istore 4, 2) := by decide +kernel
theorem d_Mo_thickness_107 : decode b_Mo_thickness 107 = .ok (.goto (-79), 3) := by decide +kernel
theorem d_Mo_thickness_110 : decode b_Mo_thickness 110 = .ok (.iload 4, 2) := by decide +kernel
theorem d_Mo_thickness_112 : decode b_Mo_thickness 112 = .ok (.aload_n 0, 1) := by decide +kernel
theorem d_Mo_thickness_113 : decode b_Mo_thickness 113 = .ok (.getfield 20, 3) := by decide +kernel
theorem d_Mo_thickness_116 : decode b_Mo_thickness 116 = .ok (.iload_n 1, 1) := by decide +kernel
theorem d_Mo_thickness_117 : decode b_Mo_thickness 117 = .ok (.iaload, 1) := by decide +kernel
theorem d_Mo_thickness_118 : decode b_Mo_thickness 118 = .ok (.if_icmp .ge 18, 3) := by decide +kernel
theorem d_Mo_thickness_121 : decode b_Mo_thickness 121 = .ok (.aload_n 0, 1) := by decide +kernel
theorem d_Mo_thickness_122 : decode b_Mo_thickness 122 = .ok (.getfield 23, 3) := by decide +kernel
theorem d_Mo_thickness_125 : decode b_Mo_thickness 125 = .ok (.bipush 8, 2) := by decide +kernel
theorem d_Mo_thickness_127 : decode b_Mo_thickness 127 = .ok (.iload_n 1, 1) := by decide +kernel
theorem d_Mo_thickness_128 : decode b_Mo_thickness 128 = .ok (.imul, 1) := by decide +kernel
theorem d_Mo_thickness_129 : decode b_Mo_thickness 129 = .ok (.iload 4, 2) := by decide +kernel
theorem d_Mo_thickness_131 : decode b_Mo_thickness 131 = .ok (.iadd, 1) := by decide +kernel
theorem d_Mo_thickness_132 : decode b_Mo_thickness 132 = .ok (.iaload, 1) := by decide +kernel
theorem d_Mo_thickness_133 : decode b_Mo_thickness 133 = .ok (.goto 4, 3) := by decide +kernel
theorem d_Mo_thickness_136 : decode b_Mo_thickness 136 = .ok (.iconst (-1), 1) := by decide +kernel
theorem d_Mo_thickness_137 : decode b_Mo_thickness 137 = .ok (.ireturn, 1) := by decide +kernel
theorem d_Mo_pack_0 : decode b_Mo_pack 0 = .ok (.aload_n 0, 1) := by decide +kernel
theorem d_Mo_pack_1 : decode b_Mo_pack 1 = .ok (.iload_n 1, 1) := by decide +kernel
theorem d_Mo_pack_2 : decode b_Mo_pack 2 = .ok (.ifCond .lt 17, 3) := by decide +kernel
theorem d_Mo_pack_5 : decode b_Mo_pack 5 = .ok (.iload_n 1, 1) := by decide +kernel
theorem d_Mo_pack_6 : decode b_Mo_pack 6 = .ok (.iconst 1, 1) := by decide +kernel
theorem d_Mo_pack_7 : decode b_Mo_pack 7 = .ok (.aload_n 0, 1) := by decide +kernel
theorem d_Mo_pack_8 : decode b_Mo_pack 8 = .ok (.getfield 63, 3) := by decide +kernel
theorem d_Mo_pack_11 : decode b_Mo_pack 11 = .ok (.ishl, 1) := by decide +kernel
theorem d_Mo_pack_12 : decode b_Mo_pack 12 = .ok (.if_icmp .ge 7, 3) := by decide +kernel
theorem d_Mo_pack_15 : decode b_Mo_pack 15 = .ok (.iconst 1, 1) := by decide +kernel
theorem d_Mo_pack_16 : decode b_Mo_pack 16 = .ok (.goto 4, 3) := by decide +kernel
theorem d_Mo_pack_19 : decode b_Mo_pack 19 = .ok (.iconst 0, 1) := by decide +kernel
theorem d_Mo_pack_20 : decode b_Mo_pack 20 = .ok (.iload_n 1, 1) := by decide +kernel
theorem d_Mo_pack_21 : decode b_Mo_pack 21 = .ok (.ifCond .eq 17, 3) := by decide +kernel
theorem d_Mo_pack_24 : decode b_Mo_pack 24 = .ok (.iload_n 2, 1) := by decide +kernel
theorem d_Mo_pack_25 : decode b_Mo_pack 25 = .ok (.iconst 0, 1) := by decide +kernel
theorem d_Mo_pack_26 : decode b_Mo_pack 26 = .ok (.bipush 20, 2) := by decide +kernel
theorem d_Mo_pack_28 : decode b_Mo_pack 28 = .ok (.invokestatic 66, 3) := by decide +kernel
theorem d_Mo_pack_31 : decode b_Mo_pack 31 = .ok (.ifCond .eq 7, 3) := by decide +kernel
theorem d_Mo_pack_34 : decode b_Mo_pack 34 = .ok (.iconst 1, 1) := by decide +kernel
theorem d_Mo_pack_35 : decode b_Mo_pack 35 = .ok (.goto 4, 3) := by decide +kernel
theorem d_Mo_pack_38 : decode b_Mo_pack 38 = .ok (.iconst 0, 1) := by decide +kernel
theorem d_Mo_pack_39 : decode b_Mo_pack 39 = .ok (.iconst 1, 1) := by decide +kernel
theorem d_Mo_pack_40 : decode b_Mo_pack 40 = .ok (.invokevirtual 71, 3) := by decide +kernel
theorem d_Mo_pack_43 : decode b_Mo_pack 43 = .ok (.ifCond .ne 5, 3) := by decide +kernel
theorem d_Mo_pack_46 : decode b_Mo_pack 46 = .ok (.iconst 0, 1) := by decide +kernel
theorem d_Mo_pack_47 : decode b_Mo_pack 47 = .ok (.ireturn, 1) := by decide +kernel
theorem d_Mo_pack_48 : decode b_Mo_pack 48 = .ok (.iconst 1, 1) := by decide +kernel
theorem d_Mo_pack_49 : decode b_Mo_pack 49 = .ok (.istore_n 3, 1) := by decide +kernel
theorem d_Mo_pack_50 : decode b_Mo_pack 50 = .ok (.iconst 0, 1) := by decide +kernel
theorem d_Mo_pack_51 : decode b_Mo_pack 51 = .ok (.istore 4, 2) := by decide +kernel
theorem d_Mo_pack_53 : decode b_Mo_pack 53 = .ok (.iconst 0, 1) := by decide +kernel
theorem d_Mo_pack_54 : decode b_Mo_pack 54 = .ok (.istore 5, 2) := by decide +kernel
theorem d_Mo_pack_56 : decode b_Mo_pack 56 = .ok (.iload 5, 2) := by decide +kernel
theorem d_Mo_pack_58 : decode b_Mo_pack 58 = .ok (.bipush 6, 2) := by decide +kernel
theorem d_Mo_pack_60 : decode b_Mo_pack 60 = .ok (.if_icmp .ge 47, 3) := by decide +kernel
theorem d_Mo_pack_63 : decode b_Mo_pack 63 = .ok (.iload_n 1, 1) := by decide +kernel
theorem d_Mo_pack_64 : decode b_Mo_pack 64 = .ok (.iload 5, 2) := by decide +kernel
theorem d_Mo_pack_66 : decode b_Mo_pack 66 = .ok (.invokestatic 90, 3) := by decide +kernel
theorem d_Mo_pack_69 : decode b_Mo_pack 69 = .ok (.ifCond .eq 10, 3) := by decide +kernel
theorem d_Mo_pack_72 : decode b_Mo_pack 72 = .ok (.bipush 6, 2) := by decide +kernel
theorem d_Mo_pack_74 : decode b_Mo_pack 74 = .ok (.iload_n 3, 1) := by decide +kernel
theorem d_Mo_pack_75 : decode b_Mo_pack 75 = .ok (.imul, 1) := by decide +kernel
theorem d_Mo_pack_76 : decode b_Mo_pack 76 = .ok (.goto 4, 3) := by decide +kernel
theorem d_Mo_pack_79 : decode b_Mo_pack 79 = .ok (.iload_n 3, 1) := by decide +kernel
theorem d_Mo_pack_80 : decode b_Mo_pack 80 = .ok (.istore_n 3, 1) := by decide +kernel
theorem d_Mo_pack_81 : decode b_Mo_pack 81 = .ok (.iload_n 1, 1) := by decide +kernel
theorem d_Mo_pack_82 : decode b_Mo_pack 82 = .ok (.iload 5, 2) := by decide +kernel
theorem d_Mo_pack_84 : decode b_Mo_pack 84 = .ok (.invokestatic 90, 3) := by decide +kernel
theorem d_Mo_pack_87 : decode b_Mo_pack 87 = .ok (.ifCond .eq 10, 3) := by decide +kernel
theorem d_Mo_pack_90 : decode b_Mo_pack 90 = .ok (.iload 4, 2) := by decide +kernel
theorem d_Mo_pack_92 : decode b_Mo_pack 92 = .ok (.iconst 1, 1) := by decide +kernel
theorem d_Mo_pack_93 : decode b_Mo_pack 93 = .ok (.iadd, 1) := by decide +kernel
theorem d_Mo_pack_94 : decode b_Mo_pack 94 = .ok (.goto 5, 3) := by decide +kernel
theorem d_Mo_pack_97 : decode b_Mo_pack 97 = .ok (.iload 4, 2) := by decide +kernel
theorem d_Mo_pack_99 : decode b_Mo_pack 99 = .ok (.istore 4, 2) := by decide +kernel
theorem d_Mo_pack_101 : decode b_Mo_pack 101 = .ok (.iinc 5 1, 3) := by decide +kernel
theorem d_Mo_pack_104 : decode b_Mo_pack 104 = .ok (.goto (-48), 3) := by decide +kernel
theorem d_Mo_pack_107 : decode b_Mo_pack 107 = .ok (.ldc2_w 97, 3) := by decide +kernel
theorem d_Mo_pack_110 : decode b_Mo_pack 110 = .ok (.lstore 5, 2) := by decide +kernel
theorem d_Mo_pack_112 : decode b_Mo_pack 112 = .ok (.iconst 0, 1) := by decide +kernel
theorem d_Mo_pack_113 : decode b_Mo_pack 113 = .ok (.istore 7, 2) := by decide +kernel
theorem d_Mo_pack_115 : decode b_Mo_pack 115 = .ok (.iconst 0, 1) := by decide +kernel
theorem d_Mo_pack_116 : decode b_Mo_pack 116 = .ok (.istore 8, 2) := by decide +kernel
theorem d_Mo_pack_118 : decode b_Mo_pack 118 = .ok (.iload 8, 2) := by decide +kernel
theorem d_Mo_pack_120 : decode b_Mo_pack 120 = .ok (.iload_n 3, 1) := by decide +kernel
theorem d_Mo_pack_121 : decode b_Mo_pack 121 = .ok (.if_icmp .ge 99, 3) := by decide +kernel
theorem d_Mo_pack_124 : decode b_Mo_pack 124 = .ok (.aload_n 0, 1) := by decide +kernel
theorem d_Mo_pack_125 : decode b_Mo_pack 125 = .ok (.iload_n 1, 1) := by decide +kernel
theorem d_Mo_pack_126 : decode b_Mo_pack 126 = .ok (.iload 8, 2) := by decide +kernel
theorem d_Mo_pack_128 : decode b_Mo_pack 128 = .ok (.invokevirtual 99, 3) := by decide +kernel
theorem d_Mo_pack_131 : decode b_Mo_pack 131 = .ok (.aload_n 0, 1) := by decide +kernel
theorem d_Mo_pack_132 : decode b_Mo_pack 132 = .ok (.iload_n 1, 1) := by decide +kernel
theorem d_Mo_pack_133 : decode b_Mo_pack 133 = .ok (.invokevirtual 103, 3) := by decide +kernel
theorem d_Mo_pack_136 : decode b_Mo_pack 136 = .ok (.ifCond .eq 78, 3) := by decide +kernel
theorem d_Mo_pack_139 : decode b_Mo_pack 139 = .ok (.aload_n 0, 1) := by decide +kernel
theorem d_Mo_pack_140 : decode b_Mo_pack 140 = .ok (.iload_n 1, 1) := by decide +kernel
theorem d_Mo_pack_141 : decode b_Mo_pack 141 = .ok (.iload_n 2, 1) := by decide +kernel
theorem d_Mo_pack_142 : decode b_Mo_pack 142 = .ok (.invokevirtual 106, 3) := by decide +kernel
theorem d_Mo_pack_145 : decode b_Mo_pack 145 = .ok (.i2l, 1) := by decide +kernel
theorem d_Mo_pack_146 : decode b_Mo_pack 146 = .ok (.aload_n 0, 1) := by decide +kernel
theorem d_Mo_pack_147 : decode b_Mo_pack 147 = .ok (.iload_n 1, 1) := by decide +kernel
theorem d_Mo_pack_148 : decode b_Mo_pack 148 = .ok (.iconst 1, 1) := by decide +kernel
theorem d_Mo_pack_149 : decode b_Mo_pack 149 = .ok (.iload_n 2, 1) := by decide +kernel
theorem d_Mo_pack_150 : decode b_Mo_pack 150 = .ok (.invokevirtual 109, 3) := by decide +kernel
theorem d_Mo_pack_153 : decode b_Mo_pack 153 = .ok (.i2l, 1) := by decide +kernel
theorem d_Mo_pack_154 : decode b_Mo_pack 154 = .ok (.lmul, 1) := by decide +kernel
theorem d_Mo_pack_155 : decode b_Mo_pack 155 = .ok (.aload_n 0, 1) := by decide +kernel
theorem d_Mo_pack_156 : decode b_Mo_pack 156 = .ok (.iload_n 1, 1) := by decide +kernel
theorem d_Mo_pack_157 : decode b_Mo_pack 157 = .ok (.iconst 2, 1) := by decide +kernel
theorem d_Mo_pack_158 : decode b_Mo_pack 158 = .ok (.iload_n 2, 1) := by decide +kernel
theorem d_Mo_pack_159 : decode b_Mo_pack 159 = .ok (.invokevirtual 109, 3) := by decide +kernel
theorem d_Mo_pack_162 : decode b_Mo_pack 162 = .ok (.i2l, 1) := by decide +kernel
theorem d_Mo_pack_163 : decode b_Mo_pack 163 = .ok (.lmul, 1) := by decide +kernel
theorem d_Mo_pack_164 : decode b_Mo_pack 164 = .ok (.lstore 9, 2) := by decide +kernel
theorem d_Mo_pack_166 : decode b_Mo_pack 166 = .ok (.lload 5, 2) := by decide +kernel
theorem d_Mo_pack_168 : decode b_Mo_pack 168 = .ok (.lconst 0, 1) := by decide +kernel
theorem d_Mo_pack_169 : decode b_Mo_pack 169 = .ok (.lcmp, 1) := by decide +kernel
theorem d_Mo_pack_170 : decode b_Mo_pack 170 = .ok (.ifCond .lt 11, 3) := by decide +kernel
theorem d_Mo_pack_173 : decode b_Mo_pack 173 = .ok (.lload 9, 2) := by decide +kernel
theorem d_Mo_pack_175 : decode b_Mo_pack 175 = .ok (.lload 5, 2) := by decide +kernel
theorem d_Mo_pack_177 : decode b_Mo_pack 177 = .ok (.lcmp, 1) := by decide +kernel
theorem d_Mo_pack_178 : decode b_Mo_pack 178 = .ok (.ifCond .ge 8, 3) := by decide +kernel
theorem d_Mo_pack_181 : decode b_Mo_pack 181 = .ok (.iload 8, 2) := by decide +kernel
theorem d_Mo_pack_183 : decode b_Mo_pack 183 = .ok (.goto 5, 3) := by decide +kernel
theorem d_Mo_pack_186 : decode b_Mo_pack 186 = .ok (.iload 7, 2) := by decide +kernel
theorem d_Mo_pack_188 : decode b_Mo_pack 188 = .ok (.istore 7, 2) := by decide +kernel
theorem d_Mo_pack_190 : decode b_Mo_pack 190 = .ok (.lload 5, 2) := by decide +kernel
theorem d_Mo_pack_192 : decode b_Mo_pack 192 = .ok (.lconst 0, 1) := by decide +kernel
theorem d_Mo_pack_193 : decode b_Mo_pack 193 = .ok (.lcmp, 1) := by decide +kernel
theorem d_Mo_pack_194 : decode b_Mo_pack 194 = .ok (.ifCond .lt 11, 3) := by decide +kernel
theorem d_Mo_pack_197 : decode b_Mo_pack 197 = .ok (.lload 9, 2) := by decide +kernel
theorem d_Mo_pack_199 : decode b_Mo_pack 199 = .ok (.lload 5, 2) := by decide +kernel
theorem d_Mo_pack_201 : decode b_Mo_pack 201 = .ok (.lcmp, 1) := by decide +kernel
theorem d_Mo_pack_202 : decode b_Mo_pack 202 = .ok (.ifCond .ge 8, 3) := by decide +kernel
theorem d_Mo_pack_205 : decode b_Mo_pack 205 = .ok (.lload 9, 2) := by decide +kernel
theorem d_Mo_pack_207 : decode b_Mo_pack 207 = .ok (.goto 5, 3) := by decide +kernel
theorem d_Mo_pack_210 : decode b_Mo_pack 210 = .ok (.lload 5, 2) := by decide +kernel
theorem d_Mo_pack_212 : decode b_Mo_pack 212 = .ok (.lstore 5, 2) := by decide +kernel
theorem d_Mo_pack_214 : decode b_Mo_pack 214 = .ok (.iinc 8 1, 3) := by decide +kernel
theorem d_Mo_pack_217 : decode b_Mo_pack 217 = .ok (.goto (-99), 3) := by decide +kernel
theorem d_Mo_pack_220 : decode b_Mo_pack 220 = .ok (.lload 5, 2) := by decide +kernel
theorem d_Mo_pack_222 : decode b_Mo_pack 222 = .ok (.lconst 0, 1) := by decide +kernel
theorem d_Mo_pack_223 : decode b_Mo_pack 223 = .ok (.lcmp, 1) := by decide +kernel
theorem d_Mo_pack_224 : decode b_Mo_pack 224 = .ok (.ifCond .ge 5, 3) := by decide +kernel
theorem d_Mo_pack_227 : decode b_Mo_pack 227 = .ok (.iconst (-1), 1) := by decide +kernel
theorem d_Mo_pack_228 : decode b_Mo_pack 228 = .ok (.ireturn, 1) := by decide +kernel
theorem d_Mo_pack_229 : decode b_Mo_pack 229 = .ok (.aload_n 0, 1) := by decide +kernel
theorem d_Mo_pack_230 : decode b_Mo_pack 230 = .ok (.iload_n 1, 1) := by decide +kernel
theorem d_Mo_pack_231 : decode b_Mo_pack 231 = .ok (.iload 7, 2) := by decide +kernel
theorem d_Mo_pack_233 : decode b_Mo_pack 233 = .ok (.invokevirtual 99, 3) := by decide +kernel
theorem d_Mo_pack_236 : decode b_Mo_pack 236 = .ok (.aload_n 0, 1) := by decide +kernel
theorem d_Mo_pack_237 : decode b_Mo_pack 237 = .ok (.aload_n 0, 1) := by decide +kernel
theorem d_Mo_pack_238 : decode b_Mo_pack 238 = .ok (.iload_n 1, 1) := by decide +kernel
theorem d_Mo_pack_239 : decode b_Mo_pack 239 = .ok (.iload_n 2, 1) := by decide +kernel
theorem d_Mo_pack_240 : decode b_Mo_pack 240 = .ok (.invokevirtual 106, 3) := by decide +kernel
theorem d_Mo_pack_243 : decode b_Mo_pack 243 = .ok (.putfield 112, 3) := by decide +kernel
theorem d_Mo_pack_246 : decode b_Mo_pack 246 = .ok (.aload_n 0, 1) := by decide +kernel
theorem d_Mo_pack_247 : decode b_Mo_pack 247 = .ok (.aload_n 0, 1) := by decide +kernel
theorem d_Mo_pack_248 : decode b_Mo_pack 248 = .ok (.iload_n 1, 1) := by decide +kernel
theorem d_Mo_pack_249 : decode b_Mo_pack 249 = .ok (.iconst 1, 1) := by decide +kernel
theorem d_Mo_pack_250 : decode b_Mo_pack 250 = .ok (.iload_n 2, 1) := by decide +kernel
theorem d_Mo_pack_251 : decode b_Mo_pack 251 = .ok (.invokevirtual 109, 3) := by decide +kernel
theorem d_Mo_pack_254 : decode b_Mo_pack 254 = .ok (.putfield 115, 3) := by decide +kernel
theorem d_Mo_pack_257 : decode b_Mo_pack 257 = .ok (.aload_n 0, 1) := by decide +kernel
theorem d_Mo_pack_258 : decode b_Mo_pack 258 = .ok (.aload_n 0, 1) := by decide +kernel
theorem d_Mo_pack_259 : decode b_Mo_pack 259 = .ok (.iload_n 1, 1) := by decide +kernel
theorem d_Mo_pack_260 : decode b_Mo_pack 260 = .ok (.iconst 2, 1) := by decide +kernel
theorem d_Mo_pack_261 : decode b_Mo_pack 261 = .ok (.iload_n 2, 1) := by decide +kernel
theorem d_Mo_pack_262 : decode b_Mo_pack 262 = .ok (.invokevirtual 109, 3) := by decide +kernel
theorem d_Mo_pack_265 : decode b_Mo_pack 265 = .ok (.putfield 118, 3) := by decide +kernel
theorem d_Mo_pack_268 : decode b_Mo_pack 268 = .ok (.aload_n 0, 1) := by decide +kernel
theorem d_Mo_pack_269 : decode b_Mo_pack 269 = .ok (.iload_n 2, 1) := by decide +kernel
theorem d_Mo_pack_270 : decode b_Mo_pack 270 = .ok (.putfield 121, 3) := by decide +kernel
theorem d_Mo_pack_273 : decode b_Mo_pack 273 = .ok (.aload_n 0, 1) := by decide +kernel
theorem d_Mo_pack_274 : decode b_Mo_pack 274 = .ok (.iconst 1, 1) := by decide +kernel
theorem d_Mo_pack_275 : decode b_Mo_pack 275 = .ok (.putfield 124, 3) := by decide +kernel
theorem d_Mo_pack_278 : decode b_Mo_pack 278 = .ok (.iconst 0, 1) := by decide +kernel
theorem d_Mo_pack_279 : decode b_Mo_pack 279 = .ok (.istore 8, 2) := by decide +kernel
theorem d_Mo_pack_281 : decode b_Mo_pack 281 = .ok (.iload 8, 2) := by decide +kernel
theorem d_Mo_pack_283 : decode b_Mo_pack 283 = .ok (.bipush 6, 2) := by decide +kernel
theorem d_Mo_pack_285 : decode b_Mo_pack 285 = .ok (.if_icmp .ge 23, 3) := by decide +kernel
theorem d_Mo_pack_288 : decode b_Mo_pack 288 = .ok (.aload_n 0, 1) := by decide +kernel
theorem d_Mo_pack_289 : decode b_Mo_pack 289 = .ok (.getfield 35, 3) := by decide +kernel
theorem d_Mo_pack_292 : decode b_Mo_pack 292 = .ok (.iload 8, 2) := by decide +kernel
theorem d_Mo_pack_294 : decode b_Mo_pack 294 = .ok (.aload_n 0, 1) := by decide +kernel
theorem d_Mo_pack_295 : decode b_Mo_pack 295 = .ok (.getfield 38, 3) := by decide +kernel
theorem d_Mo_pack_298 : decode b_Mo_pack 298 = .ok (.iload 8, 2) := by decide +kernel
theorem d_Mo_pack_300 : decode b_Mo_pack 300 = .ok (.iaload, 1) := by decide +kernel
theorem d_Mo_pack_301 : decode b_Mo_pack 301 = .ok (.iastore, 1) := by decide +kernel
theorem d_Mo_pack_302 : decode b_Mo_pack 302 = .ok (.iinc 8 1, 3) := by decide +kernel
theorem d_Mo_pack_305 : decode b_Mo_pack 305 = .ok (.goto (-24), 3) := by decide +kernel
theorem d_Mo_pack_308 : decode b_Mo_pack 308 = .ok (.iload 4, 2) := by decide +kernel
theorem d_Mo_pack_310 : decode b_Mo_pack 310 = .ok (.ireturn, 1) := by decide +kernel
