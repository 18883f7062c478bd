theorem d_Cc_init_0 : decode b_Cc_init 0 = .ok (.aload_n 0, 1) := by decide +kernel
theorem d_Cc_init_1 : decode b_Cc_init 1 = .ok (.invokespecial 1, 3) := by decide +kernel
theorem d_Cc_init_4 : decode b_Cc_init 4 = .ok (.aload_n 0, 1) := by decide +kernel
theorem d_Cc_init_5 : decode b_Cc_init 5 = .ok (.new 7, 3) := by decide +kernel
theorem d_Cc_init_8 : decode b_Cc_init 8 = .ok (.dup, 1) := by decide +kernel
theorem d_Cc_init_9 : decode b_Cc_init 9 = .ok (.invokespecial 9, 3) := by decide +kernel
theorem d_Cc_init_12 : decode b_Cc_init 12 = .ok (.putfield 10, 3) := by decide +kernel
theorem d_Cc_init_15 : decode b_Cc_init 15 = .ok (.aload_n 0, 1) := by decide +kernel
theorem d_Cc_init_16 : decode b_Cc_init 16 = .ok (.new 16, 3) := by decide +kernel
theorem d_Cc_init_19 : decode b_Cc_init 19 = .ok (.dup, 1) := by decide +kernel
theorem d_Cc_init_20 : decode b_Cc_init 20 = .ok (.invokespecial 18, 3) := by decide +kernel
theorem d_Cc_init_23 : decode b_Cc_init 23 = .ok (.putfield 19, 3) := by decide +kernel
theorem d_Cc_init_26 : decode b_Cc_init 26 = .ok (.aload_n 0, 1) := by decide +kernel
theorem d_Cc_init_27 : decode b_Cc_init 27 = .ok (.new 23, 3) := by decide +kernel
theorem d_Cc_init_30 : decode b_Cc_init 30 = .ok (.dup, 1) := by decide +kernel
theorem d_Cc_init_31 : decode b_Cc_init 31 = .ok (.invokespecial 25, 3) := by decide +kernel
theorem d_Cc_init_34 : decode b_Cc_init 34 = .ok (.putfield 26, 3) := by decide +kernel
theorem d_Cc_init_37 : decode b_Cc_init 37 = .ok (.aload_n 0, 1) := by decide +kernel
theorem d_Cc_init_38 : decode b_Cc_init 38 = .ok (.new 30, 3) := by decide +kernel
theorem d_Cc_init_41 : decode b_Cc_init 41 = .ok (.dup, 1) := by decide +kernel
theorem d_Cc_init_42 : decode b_Cc_init 42 = .ok (.invokespecial 32, 3) := by decide +kernel
theorem d_Cc_init_45 : decode b_Cc_init 45 = .ok (.putfield 33, 3) := by decide +kernel
theorem d_Cc_init_48 : decode b_Cc_init 48 = .ok (.aload_n 0, 1) := by decide +kernel
theorem d_Cc_init_49 : decode b_Cc_init 49 = .ok (.new 37, 3) := by decide +kernel
theorem d_Cc_init_52 : decode b_Cc_init 52 = .ok (.dup, 1) := by decide +kernel
theorem d_Cc_init_53 : decode b_Cc_init 53 = .ok (.invokespecial 39, 3) := by decide +kernel
theorem d_Cc_init_56 : decode b_Cc_init 56 = .ok (.putfield 40, 3) := by decide +kernel
theorem d_Cc_init_59 : decode b_Cc_init 59 = .ok (.aload_n 0, 1) := by decide +kernel
theorem d_Cc_init_60 : decode b_Cc_init 60 = .ok (.new 44, 3) := by decide +kernel
theorem d_Cc_init_63 : decode b_Cc_init 63 = .ok (.dup, 1) := by decide +kernel
theorem d_Cc_init_64 : decode b_Cc_init 64 = .ok (.invokespecial 46, 3) := by decide +kernel
theorem d_Cc_init_67 : decode b_Cc_init 67 = .ok (.putfield 47, 3) := by decide +kernel
theorem d_Cc_init_70 : decode b_Cc_init 70 = .ok (.aload_n 0, 1) := by decide +kernel
theorem d_Cc_init_71 : decode b_Cc_init 71 = .ok (.new 51, 3) := by decide +kernel
theorem d_Cc_init_74 : decode b_Cc_init 74 = .ok (.dup, 1) := by decide +kernel
theorem d_Cc_init_75 : decode b_Cc_init 75 = .ok (.invokespecial 53, 3) := by decide +kernel
theorem d_Cc_init_78 : decode b_Cc_init 78 = .ok (.putfield 54, 3) := by decide +kernel
theorem d_Cc_init_81 : decode b_Cc_init 81 = .ok (.return_, 1) := by decide +kernel
theorem d_Go_init_0 : decode b_Go_init 0 = .ok (.aload_n 0, 1) := by decide +kernel
theorem d_Go_init_1 : decode b_Go_init 1 = .ok (.invokespecial 3, 3) := by decide +kernel
theorem d_Go_init_4 : decode b_Go_init 4 = .ok (.aload_n 0, 1) := by decide +kernel
theorem d_Go_init_5 : decode b_Go_init 5 = .ok (.bipush 18, 2) := by decide +kernel
theorem d_Go_init_7 : decode b_Go_init 7 = .ok (.newarray .int, 2) := by decide +kernel
theorem d_Go_init_9 : decode b_Go_init 9 = .ok (.putfield 9, 3) := by decide +kernel
theorem d_Go_init_12 : decode b_Go_init 12 = .ok (.aload_n 0, 1) := by decide +kernel
theorem d_Go_init_13 : decode b_Go_init 13 = .ok (.bipush 6, 2) := by decide +kernel
theorem d_Go_init_15 : decode b_Go_init 15 = .ok (.newarray .int, 2) := by decide +kernel
theorem d_Go_init_17 : decode b_Go_init 17 = .ok (.putfield 15, 3) := by decide +kernel
theorem d_Go_init_20 : decode b_Go_init 20 = .ok (.aload_n 0, 1) := by decide +kernel
theorem d_Go_init_21 : decode b_Go_init 21 = .ok (.bipush 6, 2) := by decide +kernel
theorem d_Go_init_23 : decode b_Go_init 23 = .ok (.newarray .int, 2) := by decide +kernel
theorem d_Go_init_25 : decode b_Go_init 25 = .ok (.putfield 18, 3) := by decide +kernel
theorem d_Go_init_28 : decode b_Go_init 28 = .ok (.aload_n 0, 1) := by decide +kernel
theorem d_Go_init_29 : decode b_Go_init 29 = .ok (.bipush 64, 2) := by decide +kernel
theorem d_Go_init_31 : decode b_Go_init 31 = .ok (.newarray .int, 2) := by decide +kernel
theorem d_Go_init_33 : decode b_Go_init 33 = .ok (.putfield 21, 3) := by decide +kernel
theorem d_Go_init_36 : decode b_Go_init 36 = .ok (.aload_n 0, 1) := by decide +kernel
theorem d_Go_init_37 : decode b_Go_init 37 = .ok (.bipush 64, 2) := by decide +kernel
theorem d_Go_init_39 : decode b_Go_init 39 = .ok (.newarray .int, 2) := by decide +kernel
theorem d_Go_init_41 : decode b_Go_init 41 = .ok (.putfield 24, 3) := by decide +kernel
theorem d_Go_init_44 : decode b_Go_init 44 = .ok (.aload_n 0, 1) := by decide +kernel
theorem d_Go_init_45 : decode b_Go_init 45 = .ok (.iconst 0, 1) := by decide +kernel
theorem d_Go_init_46 : decode b_Go_init 46 = .ok (.putfield 27, 3) := by decide +kernel
theorem d_Go_init_49 : decode b_Go_init 49 = .ok (.return_, 1) := by decide +kernel
theorem d_Fo_init_0 : decode b_Fo_init 0 = .ok (.aload_n 0, 1) := by decide +kernel
theorem d_Fo_init_1 : decode b_Fo_init 1 = .ok (.invokespecial 3, 3) := by decide +kernel
theorem d_Fo_init_4 : decode b_Fo_init 4 = .ok (.aload_n 0, 1) := by decide +kernel
theorem d_Fo_init_5 : decode b_Fo_init 5 = .ok (.iconst 4, 1) := by decide +kernel
theorem d_Fo_init_6 : decode b_Fo_init 6 = .ok (.newarray .int, 2) := by decide +kernel
theorem d_Fo_init_8 : decode b_Fo_init 8 = .ok (.putfield 9, 3) := by decide +kernel
theorem d_Fo_init_11 : decode b_Fo_init 11 = .ok (.aload_n 0, 1) := by decide +kernel
theorem d_Fo_init_12 : decode b_Fo_init 12 = .ok (.bipush 32, 2) := by decide +kernel
theorem d_Fo_init_14 : decode b_Fo_init 14 = .ok (.newarray .int, 2) := by decide +kernel
theorem d_Fo_init_16 : decode b_Fo_init 16 = .ok (.putfield 15, 3) := by decide +kernel
theorem d_Fo_init_19 : decode b_Fo_init 19 = .ok (.aload_n 0, 1) := by decide +kernel
theorem d_Fo_init_20 : decode b_Fo_init 20 = .ok (.bipush 32, 2) := by decide +kernel
theorem d_Fo_init_22 : decode b_Fo_init 22 = .ok (.newarray .int, 2) := by decide +kernel
theorem d_Fo_init_24 : decode b_Fo_init 24 = .ok (.putfield 18, 3) := by decide +kernel
theorem d_Fo_init_27 : decode b_Fo_init 27 = .ok (.aload_n 0, 1) := by decide +kernel
theorem d_Fo_init_28 : decode b_Fo_init 28 = .ok (.sipush 192, 3) := by decide +kernel
theorem d_Fo_init_31 : decode b_Fo_init 31 = .ok (.newarray .int, 2) := by decide +kernel
theorem d_Fo_init_33 : decode b_Fo_init 33 = .ok (.putfield 21, 3) := by decide +kernel
theorem d_Fo_init_36 : decode b_Fo_init 36 = .ok (.aload_n 0, 1) := by decide +kernel
theorem d_Fo_init_37 : decode b_Fo_init 37 = .ok (.sipush 192, 3) := by decide +kernel
theorem d_Fo_init_40 : decode b_Fo_init 40 = .ok (.newarray .int, 2) := by decide +kernel
theorem d_Fo_init_42 : decode b_Fo_init 42 = .ok (.putfield 24, 3) := by decide +kernel
theorem d_Fo_init_45 : decode b_Fo_init 45 = .ok (.return_, 1) := by decide +kernel
theorem d_Pk_init_0 : decode b_Pk_init 0 = .ok (.aload_n 0, 1) := by decide +kernel
theorem d_Pk_init_1 : decode b_Pk_init 1 = .ok (.invokespecial 3, 3) := by decide +kernel
theorem d_Pk_init_4 : decode b_Pk_init 4 = .ok (.aload_n 0, 1) := by decide +kernel
theorem d_Pk_init_5 : decode b_Pk_init 5 = .ok (.iconst 3, 1) := by decide +kernel
theorem d_Pk_init_6 : decode b_Pk_init 6 = .ok (.newarray .int, 2) := by decide +kernel
theorem d_Pk_init_8 : decode b_Pk_init 8 = .ok (.putfield 9, 3) := by decide +kernel
theorem d_Pk_init_11 : decode b_Pk_init 11 = .ok (.aload_n 0, 1) := by decide +kernel
theorem d_Pk_init_12 : decode b_Pk_init 12 = .ok (.bipush 6, 2) := by decide +kernel
theorem d_Pk_init_14 : decode b_Pk_init 14 = .ok (.newarray .int, 2) := by decide +kernel
theorem d_Pk_init_16 : decode b_Pk_init 16 = .ok (.putfield 15, 3) := by decide +kernel
theorem d_Pk_init_19 : decode b_Pk_init 19 = .ok (.aload_n 0, 1) := by decide +kernel
theorem d_Pk_init_20 : decode b_Pk_init 20 = .ok (.bipush 6, 2) := by decide +kernel
theorem d_Pk_init_22 : decode b_Pk_init 22 = .ok (.newarray .int, 2) := by decide +kernel
theorem d_Pk_init_24 : decode b_Pk_init 24 = .ok (.putfield 18, 3) := by decide +kernel
theorem d_Pk_init_27 : decode b_Pk_init 27 = .ok (.aload_n 0, 1) := by decide +kernel
theorem d_Pk_init_28 : decode b_Pk_init 28 = .ok (.bipush 6, 2) := by decide +kernel
theorem d_Pk_init_30 : decode b_Pk_init 30 = .ok (.newarray .int, 2) := by decide +kernel
theorem d_Pk_init_32 : decode b_Pk_init 32 = .ok (.putfield 21, 3) := by decide +kernel
theorem d_Pk_init_35 : decode b_Pk_init 35 = .ok (.aload_n 0, 1) := by decide +kernel
theorem d_Pk_init_36 : decode b_Pk_init 36 = .ok (.iconst 0, 1) := by decide +kernel
theorem d_Pk_init_37 : decode b_Pk_init 37 = .ok (.putfield 24, 3) := by decide +kernel
theorem d_Pk_init_40 : decode b_Pk_init 40 = .ok (.return_, 1) := by decide +kernel
theorem d_Sk_init_0 : decode b_Sk_init 0 = .ok (.aload_n 0, 1) := by decide +kernel
theorem d_Sk_init_1 : decode b_Sk_init 1 = .ok (.invokespecial 3, 3) := by decide +kernel
theorem d_Sk_init_4 : decode b_Sk_init 4 = .ok (.aload_n 0, 1) := by decide +kernel
theorem d_Sk_init_5 : decode b_Sk_init 5 = .ok (.bipush 10, 2) := by decide +kernel
theorem d_Sk_init_7 : decode b_Sk_init 7 = .ok (.newarray .int, 2) := by decide +kernel
theorem d_Sk_init_9 : decode b_Sk_init 9 = .ok (.putfield 9, 3) := by decide +kernel
theorem d_Sk_init_12 : decode b_Sk_init 12 = .ok (.aload_n 0, 1) := by decide +kernel
theorem d_Sk_init_13 : decode b_Sk_init 13 = .ok (.bipush 10, 2) := by decide +kernel
theorem d_Sk_init_15 : decode b_Sk_init 15 = .ok (.newarray .int, 2) := by decide +kernel
theorem d_Sk_init_17 : decode b_Sk_init 17 = .ok (.putfield 15, 3) := by decide +kernel
theorem d_Sk_init_20 : decode b_Sk_init 20 = .ok (.aload_n 0, 1) := by decide +kernel
theorem d_Sk_init_21 : decode b_Sk_init 21 = .ok (.bipush 10, 2) := by decide +kernel
theorem d_Sk_init_23 : decode b_Sk_init 23 = .ok (.newarray .int, 2) := by decide +kernel
theorem d_Sk_init_25 : decode b_Sk_init 25 = .ok (.putfield 18, 3) := by decide +kernel
theorem d_Sk_init_28 : decode b_Sk_init 28 = .ok (.aload_n 0, 1) := by decide +kernel
theorem d_Sk_init_29 : decode b_Sk_init 29 = .ok (.bipush 10, 2) := by decide +kernel
theorem d_Sk_init_31 : decode b_Sk_init 31 = .ok (.newarray .boolean, 2) := by decide +kernel
theorem d_Sk_init_33 : decode b_Sk_init 33 = .ok (.putfield 21, 3) := by decide +kernel
theorem d_Sk_init_36 : decode b_Sk_init 36 = .ok (.aload_n 0, 1) := by decide +kernel
theorem d_Sk_init_37 : decode b_Sk_init 37 = .ok (.iconst 0, 1) := by decide +kernel
theorem d_Sk_init_38 : decode b_Sk_init 38 = .ok (.putfield 25, 3) := by decide +kernel
theorem d_Sk_init_41 : decode b_Sk_init 41 = .ok (.return_, 1) := by decide +kernel
theorem d_Ai_init_0 : decode b_Ai_init 0 = .ok (.aload_n 0, 1) := by decide +kernel
theorem d_Ai_init_1 : decode b_Ai_init 1 = .ok (.invokespecial 3, 3) := by decide +kernel
theorem d_Ai_init_4 : decode b_Ai_init 4 = .ok (.aload_n 0, 1) := by decide +kernel
theorem d_Ai_init_5 : decode b_Ai_init 5 = .ok (.sipush 200, 3) := by decide +kernel
theorem d_Ai_init_8 : decode b_Ai_init 8 = .ok (.newarray .int, 2) := by decide +kernel
theorem d_Ai_init_10 : decode b_Ai_init 10 = .ok (.putfield 9, 3) := by decide +kernel
theorem d_Ai_init_13 : decode b_Ai_init 13 = .ok (.aload_n 0, 1) := by decide +kernel
theorem d_Ai_init_14 : decode b_Ai_init 14 = .ok (.iconst 0, 1) := by decide +kernel
theorem d_Ai_init_15 : decode b_Ai_init 15 = .ok (.putfield 15, 3) := by decide +kernel
theorem d_Ai_init_18 : decode b_Ai_init 18 = .ok (.aload_n 0, 1) := by decide +kernel
theorem d_Ai_init_19 : decode b_Ai_init 19 = .ok (.iconst 4, 1) := by decide +kernel
theorem d_Ai_init_20 : decode b_Ai_init 20 = .ok (.putfield 19, 3) := by decide +kernel
theorem d_Ai_init_23 : decode b_Ai_init 23 = .ok (.return_, 1) := by decide +kernel
theorem d_Sh_init_0 : decode b_Sh_init 0 = .ok (.aload_n 0, 1) := by decide +kernel
theorem d_Sh_init_1 : decode b_Sh_init 1 = .ok (.invokespecial 3, 3) := by decide +kernel
theorem d_Sh_init_4 : decode b_Sh_init 4 = .ok (.aload_n 0, 1) := by decide +kernel
theorem d_Sh_init_5 : decode b_Sh_init 5 = .ok (.sipush 10000, 3) := by decide +kernel
theorem d_Sh_init_8 : decode b_Sh_init 8 = .ok (.putfield 9, 3) := by decide +kernel
theorem d_Sh_init_11 : decode b_Sh_init 11 = .ok (.aload_n 0, 1) := by decide +kernel
theorem d_Sh_init_12 : decode b_Sh_init 12 = .ok (.sipush 10000, 3) := by decide +kernel
theorem d_Sh_init_15 : decode b_Sh_init 15 = .ok (.putfield 15, 3) := by decide +kernel
theorem d_Sh_init_18 : decode b_Sh_init 18 = .ok (.aload_n 0, 1) := by decide +kernel
theorem d_Sh_init_19 : decode b_Sh_init 19 = .ok (.iconst 0, 1) := by decide +kernel
theorem d_Sh_init_20 : decode b_Sh_init 20 = .ok (.putfield 18, 3) := by decide +kernel
theorem d_Sh_init_23 : decode b_Sh_init 23 = .ok (.aload_n 0, 1) := by decide +kernel
theorem d_Sh_init_24 : decode b_Sh_init 24 = .ok (.iconst 0, 1) := by decide +kernel
theorem d_Sh_init_25 : decode b_Sh_init 25 = .ok (.putfield 21, 3) := by decide +kernel
theorem d_Sh_init_28 : decode b_Sh_init 28 = .ok (.return_, 1) := by decide +kernel
theorem d_Jo_init_0 : decode b_Jo_init 0 = .ok (.aload_n 0, 1) := by decide +kernel
theorem d_Jo_init_1 : decode b_Jo_init 1 = .ok (.invokespecial 3, 3) := by decide +kernel
theorem d_Jo_init_4 : decode b_Jo_init 4 = .ok (.aload_n 0, 1) := by decide +kernel
theorem d_Jo_init_5 : decode b_Jo_init 5 = .ok (.bipush 50, 2) := by decide +kernel
theorem d_Jo_init_7 : decode b_Jo_init 7 = .ok (.newarray .int, 2) := by decide +kernel
theorem d_Jo_init_9 : decode b_Jo_init 9 = .ok (.putfield 9, 3) := by decide +kernel
theorem d_Jo_init_12 : decode b_Jo_init 12 = .ok (.aload_n 0, 1) := by decide +kernel
theorem d_Jo_init_13 : decode b_Jo_init 13 = .ok (.iconst 0, 1) := by decide +kernel
theorem d_Jo_init_14 : decode b_Jo_init 14 = .ok (.putfield 15, 3) := by decide +kernel
theorem d_Jo_init_17 : decode b_Jo_init 17 = .ok (.return_, 1) := by decide +kernel
theorem d_La_object_0 : decode b_La_object 0 = .ok (.aload 5, 2) := by decide +kernel
theorem d_La_object_2 : decode b_La_object 2 = .ok (.iconst 0, 1) := by decide +kernel
theorem d_La_object_3 : decode b_La_object 3 = .ok (.aload_n 0, 1) := by decide +kernel
theorem d_La_object_4 : decode b_La_object 4 = .ok (.iload_n 1, 1) := by decide +kernel
theorem d_La_object_5 : decode b_La_object 5 = .ok (.iload_n 2, 1) := by decide +kernel
theorem d_La_object_6 : decode b_La_object 6 = .ok (.iload_n 3, 1) := by decide +kernel
theorem d_La_object_7 : decode b_La_object 7 = .ok (.iload 4, 2) := by decide +kernel
theorem d_La_object_9 : decode b_La_object 9 = .ok (.invokevirtual 7, 3) := by decide +kernel
theorem d_La_object_12 : decode b_La_object 12 = .ok (.i2l, 1) := by decide +kernel
theorem d_La_object_13 : decode b_La_object 13 = .ok (.lastore, 1) := by decide +kernel
theorem d_La_object_14 : decode b_La_object 14 = .ok (.goto 11, 3) := by decide +kernel
theorem d_La_object_17 : decode b_La_object 17 = .ok (.astore 6, 2) := by decide +kernel
theorem d_La_object_19 : decode b_La_object 19 = .ok (.iconst 1, 1) := by decide +kernel
theorem d_La_object_20 : decode b_La_object 20 = .ok (.ireturn, 1) := by decide +kernel
theorem d_La_object_21 : decode b_La_object 21 = .ok (.astore 6, 2) := by decide +kernel
theorem d_La_object_23 : decode b_La_object 23 = .ok (.iconst 2, 1) := by decide +kernel
theorem d_La_object_24 : decode b_La_object 24 = .ok (.ireturn, 1) := by decide +kernel
theorem d_La_object_25 : decode b_La_object 25 = .ok (.iconst 0, 1) := by decide +kernel
theorem d_La_object_26 : decode b_La_object 26 = .ok (.ireturn, 1) := by decide +kernel
theorem d_Cc_object_0 : decode b_Cc_object 0 = .ok (.aload_n 0, 1) := by decide +kernel
theorem d_Cc_object_1 : decode b_Cc_object 1 = .ok (.getfield 10, 3) := by decide +kernel
theorem d_Cc_object_4 : decode b_Cc_object 4 = .ok (.iload_n 1, 1) := by decide +kernel
theorem d_Cc_object_5 : decode b_Cc_object 5 = .ok (.iload_n 2, 1) := by decide +kernel
theorem d_Cc_object_6 : decode b_Cc_object 6 = .ok (.iload_n 3, 1) := by decide +kernel
theorem d_Cc_object_7 : decode b_Cc_object 7 = .ok (.iload 4, 2) := by decide +kernel
theorem d_Cc_object_9 : decode b_Cc_object 9 = .ok (.invokevirtual 58, 3) := by decide +kernel
theorem d_Cc_object_12 : decode b_Cc_object 12 = .ok (.ireturn, 1) := by decide +kernel
theorem d_Go_add_0 : decode b_Go_add 0 = .ok (.aload_n 0, 1) := by decide +kernel
theorem d_Go_add_1 : decode b_Go_add 1 = .ok (.getfield 27, 3) := by decide +kernel
theorem d_Go_add_4 : decode b_Go_add 4 = .ok (.bipush 6, 2) := by decide +kernel
theorem d_Go_add_6 : decode b_Go_add 6 = .ok (.invokestatic 31, 3) := by decide +kernel
theorem d_Go_add_9 : decode b_Go_add 9 = .ok (.iload_n 1, 1) := by decide +kernel
theorem d_Go_add_10 : decode b_Go_add 10 = .ok (.iconst 1, 1) := by decide +kernel
theorem d_Go_add_11 : decode b_Go_add 11 = .ok (.sipush 200, 3) := by decide +kernel
theorem d_Go_add_14 : decode b_Go_add 14 = .ok (.invokestatic 35, 3) := by decide +kernel
theorem d_Go_add_17 : decode b_Go_add 17 = .ok (.iload_n 2, 1) := by decide +kernel
theorem d_Go_add_18 : decode b_Go_add 18 = .ok (.iconst 1, 1) := by decide +kernel
theorem d_Go_add_19 : decode b_Go_add 19 = .ok (.sipush 200, 3) := by decide +kernel
theorem d_Go_add_22 : decode b_Go_add 22 = .ok (.invokestatic 35, 3) := by decide +kernel
theorem d_Go_add_25 : decode b_Go_add 25 = .ok (.iload_n 3, 1) := by decide +kernel
theorem d_Go_add_26 : decode b_Go_add 26 = .ok (.iconst 1, 1) := by decide +kernel
theorem d_Go_add_27 : decode b_Go_add 27 = .ok (.sipush 200, 3) := by decide +kernel
theorem d_Go_add_30 : decode b_Go_add 30 = .ok (.invokestatic 35, 3) := by decide +kernel
theorem d_Go_add_33 : decode b_Go_add 33 = .ok (.iload 4, 2) := by decide +kernel
theorem d_Go_add_35 : decode b_Go_add 35 = .ok (.iconst 1, 1) := by decide +kernel
theorem d_Go_add_36 : decode b_Go_add 36 = .ok (.ldc 39, 2) := by decide +kernel
theorem d_Go_add_38 : decode b_Go_add 38 = .ok (.invokestatic 35, 3) := by decide +kernel
theorem d_Go_add_41 : decode b_Go_add 41 = .ok (.aload_n 0, 1) := by decide +kernel
theorem d_Go_add_42 : decode b_Go_add 42 = .ok (.getfield 27, 3) := by decide +kernel
theorem d_Go_add_45 : decode b_Go_add 45 = .ok (.iconst 3, 1) := by decide +kernel
theorem d_Go_add_46 : decode b_Go_add 46 = .ok (.imul, 1) := by decide +kernel
theorem d_Go_add_47 : decode b_Go_add 47 = .ok (.istore 5, 2) := by decide +kernel
theorem d_Go_add_49 : decode b_Go_add 49 = .ok (.aload_n 0, 1) := by decide +kernel
theorem d_Go_add_50 : decode b_Go_add 50 = .ok (.getfield 9, 3) := by decide +kernel
theorem d_Go_add_53 : decode b_Go_add 53 = .ok (.iload 5, 2) := by decide +kernel
theorem d_Go_add_55 : decode b_Go_add 55 = .ok (.iload_n 1, 1) := by decide +kernel
theorem d_Go_add_56 : decode b_Go_add 56 = .ok (.iastore, 1) := by decide +kernel
theorem d_Go_add_57 : decode b_Go_add 57 = .ok (.aload_n 0, 1) := by decide +kernel
theorem d_Go_add_58 : decode b_Go_add 58 = .ok (.getfield 9, 3) := by decide +kernel
theorem d_Go_add_61 : decode b_Go_add 61 = .ok (.iload 5, 2) := by decide +kernel
theorem d_Go_add_63 : decode b_Go_add 63 = .ok (.iconst 1, 1) := by decide +kernel
theorem d_Go_add_64 : decode b_Go_add 64 = .ok (.iadd, 1) := by decide +kernel
theorem d_Go_add_65 : decode b_Go_add 65 = .ok (.iload_n 2, 1) := by decide +kernel
theorem d_Go_add_66 : decode b_Go_add 66 = .ok (.iastore, 1) := by decide +kernel
theorem d_Go_add_67 : decode b_Go_add 67 = .ok (.aload_n 0, 1) := by decide +kernel
theorem d_Go_add_68 : decode b_Go_add 68 = .ok (.getfield 9, 3) := by decide +kernel
theorem d_Go_add_71 : decode b_Go_add 71 = .ok (.iload 5, 2) := by decide +kernel
theorem d_Go_add_73 : decode b_Go_add 73 = .ok (.iconst 2, 1) := by decide +kernel
theorem d_Go_add_74 : decode b_Go_add 74 = .ok (.iadd, 1) := by decide +kernel
theorem d_Go_add_75 : decode b_Go_add 75 = .ok (.iload_n 3, 1) := by decide +kernel
theorem d_Go_add_76 : decode b_Go_add 76 = .ok (.iastore, 1) := by decide +kernel
theorem d_Go_add_77 : decode b_Go_add 77 = .ok (.aload_n 0, 1) := by decide +kernel
theorem d_Go_add_78 : decode b_Go_add 78 = .ok (.getfield 15, 3) := by decide +kernel
theorem d_Go_add_81 : decode b_Go_add 81 = .ok (.aload_n 0, 1) := by decide +kernel
theorem d_Go_add_82 : decode b_Go_add 82 = .ok (.getfield 27, 3) := by decide +kernel
theorem d_Go_add_85 : decode b_Go_add 85 = .ok (.iload 4, 2) := by decide +kernel
theorem d_Go_add_87 : decode b_Go_add 87 = .ok (.iastore, 1) := by decide +kernel
theorem d_Go_add_88 : decode b_Go_add 88 = .ok (.aload_n 0, 1) := by decide +kernel
theorem d_Go_add_89 : decode b_Go_add 89 = .ok (.dup, 1) := by decide +kernel
theorem d_Go_add_90 : decode b_Go_add 90 = .ok (.getfield 27, 3) := by decide +kernel
theorem d_Go_add_93 : decode b_Go_add 93 = .ok (.iconst 1, 1) := by decide +kernel
theorem d_Go_add_94 : decode b_Go_add 94 = .ok (.iadd, 1) := by decide +kernel
theorem d_Go_add_95 : decode b_Go_add 95 = .ok (.putfield 27, 3) := by decide +kernel
theorem d_Go_add_98 : decode b_Go_add 98 = .ok (.aload_n 0, 1) := by decide +kernel
theorem d_Go_add_99 : decode b_Go_add 99 = .ok (.getfield 27, 3) := by decide +kernel
theorem d_Go_add_102 : decode b_Go_add 102 = .ok (.iconst 1, 1) := by decide +kernel
theorem d_Go_add_103 : decode b_Go_add 103 = .ok (.isub, 1) := by decide +kernel
theorem d_Go_add_104 : decode b_Go_add 104 = .ok (.ireturn, 1) := by decide +kernel
theorem d_Cc_requireRoom_0 : decode b_Cc_requireRoom 0 = .ok (.iload_n 0, 1) := by decide +kernel
theorem d_Cc_requireRoom_1 : decode b_Cc_requireRoom 1 = .ok (.iload_n 1, 1) := by decide +kernel
theorem d_Cc_requireRoom_2 : decode b_Cc_requireRoom 2 = .ok (.if_icmp .lt 13, 3) := by decide +kernel
theorem d_Cc_requireRoom_5 : decode b_Cc_requireRoom 5 = .ok (.new 161, 3) := by decide +kernel
theorem d_Cc_requireRoom_8 : decode b_Cc_requireRoom 8 = .ok (.dup, 1) := by decide +kernel
theorem d_Cc_requireRoom_9 : decode b_Cc_requireRoom 9 = .ok (.ldc 163, 2) := by decide +kernel
theorem d_Cc_requireRoom_11 : decode b_Cc_requireRoom 11 = .ok (.invokespecial 165, 3) := by decide +kernel
theorem d_Cc_requireRoom_14 : decode b_Cc_requireRoom 14 = .ok (.athrow, 1) := by decide +kernel
theorem d_Cc_requireRoom_15 : decode b_Cc_requireRoom 15 = .ok (.return_, 1) := by decide +kernel
theorem d_Cc_requireRange_0 : decode b_Cc_requireRange 0 = .ok (.iload_n 0, 1) := by decide +kernel
theorem d_Cc_requireRange_1 : decode b_Cc_requireRange 1 = .ok (.iload_n 1, 1) := by decide +kernel
theorem d_Cc_requireRange_2 : decode b_Cc_requireRange 2 = .ok (.if_icmp .lt 8, 3) := by decide +kernel
theorem d_Cc_requireRange_5 : decode b_Cc_requireRange 5 = .ok (.iload_n 0, 1) := by decide +kernel
theorem d_Cc_requireRange_6 : decode b_Cc_requireRange 6 = .ok (.iload_n 2, 1) := by decide +kernel
theorem d_Cc_requireRange_7 : decode b_Cc_requireRange 7 = .ok (.if_icmp .le 13, 3) := by decide +kernel
theorem d_Cc_requireRange_10 : decode b_Cc_requireRange 10 = .ok (.new 156, 3) := by decide +kernel
theorem d_Cc_requireRange_13 : decode b_Cc_requireRange 13 = .ok (.dup, 1) := by decide +kernel
theorem d_Cc_requireRange_14 : decode b_Cc_requireRange 14 = .ok (.ldc 158, 2) := by decide +kernel
theorem d_Cc_requireRange_16 : decode b_Cc_requireRange 16 = .ok (.invokespecial 160, 3) := by decide +kernel
theorem d_Cc_requireRange_19 : decode b_Cc_requireRange 19 = .ok (.athrow, 1) := by decide +kernel
theorem d_Cc_requireRange_20 : decode b_Cc_requireRange 20 = .ok (.return_, 1) := by decide +kernel
theorem d_La_weak_0 : decode b_La_weak 0 = .ok (.aload 4, 2) := by decide +kernel
theorem d_La_weak_2 : decode b_La_weak 2 = .ok (.iconst 0, 1) := by decide +kernel
theorem d_La_weak_3 : decode b_La_weak 3 = .ok (.aload_n 0, 1) := by decide +kernel
theorem d_La_weak_4 : decode b_La_weak 4 = .ok (.iload_n 1, 1) := by decide +kernel
theorem d_La_weak_5 : decode b_La_weak 5 = .ok (.iload_n 2, 1) := by decide +kernel
theorem d_La_weak_6 : decode b_La_weak 6 = .ok (.iload_n 3, 1) := by decide +kernel
theorem d_La_weak_7 : decode b_La_weak 7 = .ok (.invokevirtual 17, 3) := by decide +kernel
theorem d_La_weak_10 : decode b_La_weak 10 = .ok (.ifCond .eq 7, 3) := by decide +kernel
theorem d_La_weak_13 : decode b_La_weak 13 = .ok (.lconst 1, 1) := by decide +kernel
theorem d_La_weak_14 : decode b_La_weak 14 = .ok (.goto 4, 3) := by decide +kernel
theorem d_La_weak_17 : decode b_La_weak 17 = .ok (.lconst 0, 1) := by decide +kernel
theorem d_La_weak_18 : decode b_La_weak 18 = .ok (.lastore, 1) := by decide +kernel
theorem d_La_weak_19 : decode b_La_weak 19 = .ok (.goto 7, 3) := by decide +kernel
theorem d_La_weak_22 : decode b_La_weak 22 = .ok (.astore 5, 2) := by decide +kernel
theorem d_La_weak_24 : decode b_La_weak 24 = .ok (.iconst 1, 1) := by decide +kernel
theorem d_La_weak_25 : decode b_La_weak 25 = .ok (.ireturn, 1) := by decide +kernel
theorem d_La_weak_26 : decode b_La_weak 26 = .ok (.iconst 0, 1) := by decide +kernel
theorem d_La_weak_27 : decode b_La_weak 27 = .ok (.ireturn, 1) := by decide +kernel
theorem d_Cc_weak_0 : decode b_Cc_weak 0 = .ok (.aload_n 0, 1) := by decide +kernel
theorem d_Cc_weak_1 : decode b_Cc_weak 1 = .ok (.getfield 10, 3) := by decide +kernel
theorem d_Cc_weak_4 : decode b_Cc_weak 4 = .ok (.iload_n 1, 1) := by decide +kernel
theorem d_Cc_weak_5 : decode b_Cc_weak 5 = .ok (.iload_n 2, 1) := by decide +kernel
theorem d_Cc_weak_6 : decode b_Cc_weak 6 = .ok (.iload_n 3, 1) := by decide +kernel
theorem d_Cc_weak_7 : decode b_Cc_weak 7 = .ok (.invokevirtual 62, 3) := by decide +kernel
theorem d_Cc_weak_10 : decode b_Cc_weak 10 = .ok (.ireturn, 1) := by decide +kernel
theorem d_Go_setWeak_0 : decode b_Go_setWeak 0 = .ok (.iload_n 1, 1) := by decide +kernel
theorem d_Go_setWeak_1 : decode b_Go_setWeak 1 = .ok (.aload_n 0, 1) := by decide +kernel
theorem d_Go_setWeak_2 : decode b_Go_setWeak 2 = .ok (.getfield 27, 3) := by decide +kernel
theorem d_Go_setWeak_5 : decode b_Go_setWeak 5 = .ok (.invokestatic 40, 3) := by decide +kernel
theorem d_Go_setWeak_8 : decode b_Go_setWeak 8 = .ok (.iload_n 2, 1) := by decide +kernel
theorem d_Go_setWeak_9 : decode b_Go_setWeak 9 = .ok (.bipush 6, 2) := by decide +kernel
theorem d_Go_setWeak_11 : decode b_Go_setWeak 11 = .ok (.invokestatic 40, 3) := by decide +kernel
theorem d_Go_setWeak_14 : decode b_Go_setWeak 14 = .ok (.iconst 1, 1) := by decide +kernel
theorem d_Go_setWeak_15 : decode b_Go_setWeak 15 = .ok (.iload_n 2, 1) := by decide +kernel
theorem d_Go_setWeak_16 : decode b_Go_setWeak 16 = .ok (.ishl, 1) := by decide +kernel
theorem d_Go_setWeak_17 : decode b_Go_setWeak 17 = .ok (.istore 4, 2) := by decide +kernel
theorem d_Go_setWeak_19 : decode b_Go_setWeak 19 = .ok (.aload_n 0, 1) := by decide +kernel
theorem d_Go_setWeak_20 : decode b_Go_setWeak 20 = .ok (.getfield 18, 3) := by decide +kernel
theorem d_Go_setWeak_23 : decode b_Go_setWeak 23 = .ok (.iload_n 1, 1) := by decide +kernel
theorem d_Go_setWeak_24 : decode b_Go_setWeak 24 = .ok (.iaload, 1) := by decide +kernel
theorem d_Go_setWeak_25 : decode b_Go_setWeak 25 = .ok (.iload 4, 2) := by decide +kernel
theorem d_Go_setWeak_27 : decode b_Go_setWeak 27 = .ok (.iand, 1) := by decide +kernel
theorem d_Go_setWeak_28 : decode b_Go_setWeak 28 = .ok (.ifCond .eq 7, 3) := by decide +kernel
theorem d_Go_setWeak_31 : decode b_Go_setWeak 31 = .ok (.iconst 1, 1) := by decide +kernel
theorem d_Go_setWeak_32 : decode b_Go_setWeak 32 = .ok (.goto 4, 3) := by decide +kernel
theorem d_Go_setWeak_35 : decode b_Go_setWeak 35 = .ok (.iconst 0, 1) := by decide +kernel
theorem d_Go_setWeak_36 : decode b_Go_setWeak 36 = .ok (.istore 5, 2) := by decide +kernel
theorem d_Go_setWeak_38 : decode b_Go_setWeak 38 = .ok (.aload_n 0, 1) := by decide +kernel
theorem d_Go_setWeak_39 : decode b_Go_setWeak 39 = .ok (.getfield 18, 3) := by decide +kernel
theorem d_Go_setWeak_42 : decode b_Go_setWeak 42 = .ok (.iload_n 1, 1) := by decide +kernel
theorem d_Go_setWeak_43 : decode b_Go_setWeak 43 = .ok (.iload_n 3, 1) := by decide +kernel
theorem d_Go_setWeak_44 : decode b_Go_setWeak 44 = .ok (.ifCond .eq 15, 3) := by decide +kernel
theorem d_Go_setWeak_47 : decode b_Go_setWeak 47 = .ok (.aload_n 0, 1) := by decide +kernel
theorem d_Go_setWeak_48 : decode b_Go_setWeak 48 = .ok (.getfield 18, 3) := by decide +kernel
theorem d_Go_setWeak_51 : decode b_Go_setWeak 51 = .ok (.iload_n 1, 1) := by decide +kernel
theorem d_Go_setWeak_52 : decode b_Go_setWeak 52 = .ok (.iaload, 1) := by decide +kernel
theorem d_Go_setWeak_53 : decode b_Go_setWeak 53 = .ok (.iload 4, 2) := by decide +kernel
theorem d_Go_setWeak_55 : decode b_Go_setWeak 55 = .ok (.ior, 1) := by decide +kernel
theorem d_Go_setWeak_56 : decode b_Go_setWeak 56 = .ok (.goto 14, 3) := by decide +kernel
theorem d_Go_setWeak_59 : decode b_Go_setWeak 59 = .ok (.aload_n 0, 1) := by decide +kernel
theorem d_Go_setWeak_60 : decode b_Go_setWeak 60 = .ok (.getfield 18, 3) := by decide +kernel
theorem d_Go_setWeak_63 : decode b_Go_setWeak 63 = .ok (.iload_n 1, 1) := by decide +kernel
theorem d_Go_setWeak_64 : decode b_Go_setWeak 64 = .ok (.iaload, 1) := by decide +kernel
theorem d_Go_setWeak_65 : decode b_Go_setWeak 65 = .ok (.iload 4, 2) := by decide +kernel
theorem d_Go_setWeak_67 : decode b_Go_setWeak 67 = .ok (.iconst (-1), 1) := by decide +kernel
theorem d_Go_setWeak_68 : decode b_Go_setWeak 68 = .ok (.ixor, 1) := by decide +kernel
theorem d_Go_setWeak_69 : decode b_Go_setWeak 69 = .ok (.iand, 1) := by decide +kernel
theorem d_Go_setWeak_70 : decode b_Go_setWeak 70 = .ok (.iastore, 1) := by decide +kernel
theorem d_Go_setWeak_71 : decode b_Go_setWeak 71 = .ok (.iload 5, 2) := by decide +kernel
theorem d_Go_setWeak_73 : decode b_Go_setWeak 73 = .ok (.iload_n 3, 1) := by decide +kernel
theorem d_Go_setWeak_74 : decode b_Go_setWeak 74 = .ok (.if_icmp .eq 7, 3) := by decide +kernel
theorem d_Go_setWeak_77 : decode b_Go_setWeak 77 = .ok (.iconst 1, 1) := by decide +kernel
theorem d_Go_setWeak_78 : decode b_Go_setWeak 78 = .ok (.goto 4, 3) := by decide +kernel
theorem d_Go_setWeak_81 : decode b_Go_setWeak 81 = .ok (.iconst 0, 1) := by decide +kernel
theorem d_Go_setWeak_82 : decode b_Go_setWeak 82 = .ok (.ireturn, 1) := by decide +kernel
theorem d_Cc_requireIndex_0 : decode b_Cc_requireIndex 0 = .ok (.iload_n 0, 1) := by decide +kernel
theorem d_Cc_requireIndex_1 : decode b_Cc_requireIndex 1 = .ok (.ifCond .lt 8, 3) := by decide +kernel
theorem d_Cc_requireIndex_4 : decode b_Cc_requireIndex 4 = .ok (.iload_n 0, 1) := by decide +kernel
theorem d_Cc_requireIndex_5 : decode b_Cc_requireIndex 5 = .ok (.iload_n 1, 1) := by decide +kernel
theorem d_Cc_requireIndex_6 : decode b_Cc_requireIndex 6 = .ok (.if_icmp .lt 13, 3) := by decide +kernel
theorem d_Cc_requireIndex_9 : decode b_Cc_requireIndex 9 = .ok (.new 147, 3) := by decide +kernel
theorem d_Cc_requireIndex_12 : decode b_Cc_requireIndex 12 = .ok (.dup, 1) := by decide +kernel
theorem d_Cc_requireIndex_13 : decode b_Cc_requireIndex 13 = .ok (.ldc 154, 2) := by decide +kernel
theorem d_Cc_requireIndex_15 : decode b_Cc_requireIndex 15 = .ok (.invokespecial 151, 3) := by decide +kernel
theorem d_Cc_requireIndex_18 : decode b_Cc_requireIndex 18 = .ok (.athrow, 1) := by decide +kernel
theorem d_Cc_requireIndex_19 : decode b_Cc_requireIndex 19 = .ok (.return_, 1) := by decide +kernel
theorem d_La_foam_0 : decode b_La_foam 0 = .ok (.aload_n 3, 1) := by decide +kernel
theorem d_La_foam_1 : decode b_La_foam 1 = .ok (.iconst 0, 1) := by decide +kernel
theorem d_La_foam_2 : decode b_La_foam 2 = .ok (.aload_n 0, 1) := by decide +kernel
theorem d_La_foam_3 : decode b_La_foam 3 = .ok (.iload_n 1, 1) := by decide +kernel
theorem d_La_foam_4 : decode b_La_foam 4 = .ok (.iload_n 2, 1) := by decide +kernel
theorem d_La_foam_5 : decode b_La_foam 5 = .ok (.invokevirtual 23, 3) := by decide +kernel
theorem d_La_foam_8 : decode b_La_foam 8 = .ok (.i2l, 1) := by decide +kernel
theorem d_La_foam_9 : decode b_La_foam 9 = .ok (.lastore, 1) := by decide +kernel
theorem d_La_foam_10 : decode b_La_foam 10 = .ok (.goto 15, 3) := by decide +kernel
theorem d_La_foam_13 : decode b_La_foam 13 = .ok (.astore 4, 2) := by decide +kernel
theorem d_La_foam_15 : decode b_La_foam 15 = .ok (.iconst 1, 1) := by decide +kernel
theorem d_La_foam_16 : decode b_La_foam 16 = .ok (.ireturn, 1) := by decide +kernel
theorem d_La_foam_17 : decode b_La_foam 17 = .ok (.astore 4, 2) := by decide +kernel
theorem d_La_foam_19 : decode b_La_foam 19 = .ok (.iconst 2, 1) := by decide +kernel
theorem d_La_foam_20 : decode b_La_foam 20 = .ok (.ireturn, 1) := by decide +kernel
theorem d_La_foam_21 : decode b_La_foam 21 = .ok (.astore 4, 2) := by decide +kernel
theorem d_La_foam_23 : decode b_La_foam 23 = .ok (.iconst 3, 1) := by decide +kernel
theorem d_La_foam_24 : decode b_La_foam 24 = .ok (.ireturn, 1) := by decide +kernel
theorem d_La_foam_25 : decode b_La_foam 25 = .ok (.iconst 0, 1) := by decide +kernel
theorem d_La_foam_26 : decode b_La_foam 26 = .ok (.ireturn, 1) := by decide +kernel
theorem d_Cc_foam_0 : decode b_Cc_foam 0 = .ok (.aload_n 0, 1) := by decide +kernel
theorem d_Cc_foam_1 : decode b_Cc_foam 1 = .ok (.getfield 19, 3) := by decide +kernel
theorem d_Cc_foam_4 : decode b_Cc_foam 4 = .ok (.iload_n 1, 1) := by decide +kernel
theorem d_Cc_foam_5 : decode b_Cc_foam 5 = .ok (.iload_n 2, 1) := by decide +kernel
theorem d_Cc_foam_6 : decode b_Cc_foam 6 = .ok (.invokevirtual 66, 3) := by decide +kernel
theorem d_Cc_foam_9 : decode b_Cc_foam 9 = .ok (.ireturn, 1) := by decide +kernel
theorem d_Fo_addRow_0 : decode b_Fo_addRow 0 = .ok (.iload_n 1, 1) := by decide +kernel
theorem d_Fo_addRow_1 : decode b_Fo_addRow 1 = .ok (.iconst 4, 1) := by decide +kernel
theorem d_Fo_addRow_2 : decode b_Fo_addRow 2 = .ok (.invokestatic 27, 3) := by decide +kernel
theorem d_Fo_addRow_5 : decode b_Fo_addRow 5 = .ok (.aload_n 0, 1) := by decide +kernel
theorem d_Fo_addRow_6 : decode b_Fo_addRow 6 = .ok (.getfield 9, 3) := by decide +kernel
theorem d_Fo_addRow_9 : decode b_Fo_addRow 9 = .ok (.iload_n 1, 1) := by decide +kernel
theorem d_Fo_addRow_10 : decode b_Fo_addRow 10 = .ok (.iaload, 1) := by decide +kernel
theorem d_Fo_addRow_11 : decode b_Fo_addRow 11 = .ok (.istore_n 3, 1) := by decide +kernel
theorem d_Fo_addRow_12 : decode b_Fo_addRow 12 = .ok (.iload_n 3, 1) := by decide +kernel
theorem d_Fo_addRow_13 : decode b_Fo_addRow 13 = .ok (.bipush 8, 2) := by decide +kernel
theorem d_Fo_addRow_15 : decode b_Fo_addRow 15 = .ok (.invokestatic 31, 3) := by decide +kernel
theorem d_Fo_addRow_18 : decode b_Fo_addRow 18 = .ok (.iload_n 1, 1) := by decide +kernel
theorem d_Fo_addRow_19 : decode b_Fo_addRow 19 = .ok (.bipush 8, 2) := by decide +kernel
theorem d_Fo_addRow_21 : decode b_Fo_addRow 21 = .ok (.imul, 1) := by decide +kernel
theorem d_Fo_addRow_22 : decode b_Fo_addRow 22 = .ok (.iload_n 3, 1) := by decide +kernel
theorem d_Fo_addRow_23 : decode b_Fo_addRow 23 = .ok (.iadd, 1) := by decide +kernel
theorem d_Fo_addRow_24 : decode b_Fo_addRow 24 = .ok (.istore 4, 2) := by decide +kernel
theorem d_Fo_addRow_26 : decode b_Fo_addRow 26 = .ok (.iload_n 3, 1) := by decide +kernel
theorem d_Fo_addRow_27 : decode b_Fo_addRow 27 = .ok (.ifCond .ne 7, 3) := by decide +kernel
theorem d_Fo_addRow_30 : decode b_Fo_addRow 30 = .ok (.iconst 0, 1) := by decide +kernel
theorem d_Fo_addRow_31 : decode b_Fo_addRow 31 = .ok (.goto 12, 3) := by decide +kernel
theorem d_Fo_addRow_34 : decode b_Fo_addRow 34 = .ok (.aload_n 0, 1) := by decide +kernel
theorem d_Fo_addRow_35 : decode b_Fo_addRow 35 = .ok (.getfield 15, 3) := by decide +kernel
theorem d_Fo_addRow_38 : decode b_Fo_addRow 38 = .ok (.iload 4, 2) := by decide +kernel
theorem d_Fo_addRow_40 : decode b_Fo_addRow 40 = .ok (.iconst 1, 1) := by decide +kernel
theorem d_Fo_addRow_41 : decode b_Fo_addRow 41 = .ok (.isub, 1) := by decide +kernel
theorem d_Fo_addRow_42 : decode b_Fo_addRow 42 = .ok (.iaload, 1) := by decide +kernel
theorem d_Fo_addRow_43 : decode b_Fo_addRow 43 = .ok (.istore 5, 2) := by decide +kernel
theorem d_Fo_addRow_45 : decode b_Fo_addRow 45 = .ok (.iload_n 2, 1) := by decide +kernel
theorem d_Fo_addRow_46 : decode b_Fo_addRow 46 = .ok (.iload 5, 2) := by decide +kernel
theorem d_Fo_addRow_48 : decode b_Fo_addRow 48 = .ok (.iconst 1, 1) := by decide +kernel
theorem d_Fo_addRow_49 : decode b_Fo_addRow 49 = .ok (.iadd, 1) := by decide +kernel
theorem d_Fo_addRow_50 : decode b_Fo_addRow 50 = .ok (.sipush 500, 3) := by decide +kernel
theorem d_Fo_addRow_53 : decode b_Fo_addRow 53 = .ok (.invokestatic 34, 3) := by decide +kernel
theorem d_Fo_addRow_56 : decode b_Fo_addRow 56 = .ok (.aload_n 0, 1) := by decide +kernel
theorem d_Fo_addRow_57 : decode b_Fo_addRow 57 = .ok (.getfield 15, 3) := by decide +kernel
theorem d_Fo_addRow_60 : decode b_Fo_addRow 60 = .ok (.iload 4, 2) := by decide +kernel
theorem d_Fo_addRow_62 : decode b_Fo_addRow 62 = .ok (.iload_n 2, 1) := by decide +kernel
theorem d_Fo_addRow_63 : decode b_Fo_addRow 63 = .ok (.iastore, 1) := by decide +kernel
theorem d_Fo_addRow_64 : decode b_Fo_addRow 64 = .ok (.aload_n 0, 1) := by decide +kernel
theorem d_Fo_addRow_65 : decode b_Fo_addRow 65 = .ok (.getfield 9, 3) := by decide +kernel
theorem d_Fo_addRow_68 : decode b_Fo_addRow 68 = .ok (.iload_n 1, 1) := by decide +kernel
theorem d_Fo_addRow_69 : decode b_Fo_addRow 69 = .ok (.iload_n 3, 1) := by decide +kernel
theorem d_Fo_addRow_70 : decode b_Fo_addRow 70 = .ok (.iconst 1, 1) := by decide +kernel
theorem d_Fo_addRow_71 : decode b_Fo_addRow 71 = .ok (.iadd, 1) := by decide +kernel
theorem d_Fo_addRow_72 : decode b_Fo_addRow 72 = .ok (.iastore, 1) := by decide +kernel
theorem d_Fo_addRow_73 : decode b_Fo_addRow 73 = .ok (.iload_n 3, 1) := by decide +kernel
theorem d_Fo_addRow_74 : decode b_Fo_addRow 74 = .ok (.ireturn, 1) := by decide +kernel
theorem d_La_point_0 : decode b_La_point 0 = .ok (.aload 5, 2) := by decide +kernel
theorem d_La_point_2 : decode b_La_point 2 = .ok (.iconst 0, 1) := by decide +kernel
theorem d_La_point_3 : decode b_La_point 3 = .ok (.aload_n 0, 1) := by decide +kernel
theorem d_La_point_4 : decode b_La_point 4 = .ok (.iload_n 1, 1) := by decide +kernel
theorem d_La_point_5 : decode b_La_point 5 = .ok (.iload_n 2, 1) := by decide +kernel
theorem d_La_point_6 : decode b_La_point 6 = .ok (.iload_n 3, 1) := by decide +kernel
theorem d_La_point_7 : decode b_La_point 7 = .ok (.iload 4, 2) := by decide +kernel
theorem d_La_point_9 : decode b_La_point 9 = .ok (.invokevirtual 27, 3) := by decide +kernel
theorem d_La_point_12 : decode b_La_point 12 = .ok (.i2l, 1) := by decide +kernel
theorem d_La_point_13 : decode b_La_point 13 = .ok (.lastore, 1) := by decide +kernel
theorem d_La_point_14 : decode b_La_point 14 = .ok (.goto 15, 3) := by decide +kernel
theorem d_La_point_17 : decode b_La_point 17 = .ok (.astore 6, 2) := by decide +kernel
theorem d_La_point_19 : decode b_La_point 19 = .ok (.iconst 1, 1) := by decide +kernel
theorem d_La_point_20 : decode b_La_point 20 = .ok (.ireturn, 1) := by decide +kernel
theorem d_La_point_21 : decode b_La_point 21 = .ok (.astore 6, 2) := by decide +kernel
theorem d_La_point_23 : decode b_La_point 23 = .ok (.iconst 2, 1) := by decide +kernel
theorem d_La_point_24 : decode b_La_point 24 = .ok (.ireturn, 1) := by decide +kernel
theorem d_La_point_25 : decode b_La_point 25 = .ok (.astore 6, 2) := by decide +kernel
theorem d_La_point_27 : decode b_La_point 27 = .ok (.iconst 3, 1) := by decide +kernel
theorem d_La_point_28 : decode b_La_point 28 = .ok (.ireturn, 1) := by decide +kernel
theorem d_La_point_29 : decode b_La_point 29 = .ok (.iconst 0, 1) := by decide +kernel
theorem d_La_point_30 : decode b_La_point 30 = .ok (.ireturn, 1) := by decide +kernel
theorem d_Cc_point_0 : decode b_Cc_point 0 = .ok (.aload_n 0, 1) := by decide +kernel
theorem d_Cc_point_1 : decode b_Cc_point 1 = .ok (.getfield 19, 3) := by decide +kernel
theorem d_Cc_point_4 : decode b_Cc_point 4 = .ok (.iload_n 1, 1) := by decide +kernel
theorem d_Cc_point_5 : decode b_Cc_point 5 = .ok (.iload_n 2, 1) := by decide +kernel
theorem d_Cc_point_6 : decode b_Cc_point 6 = .ok (.iload_n 3, 1) := by decide +kernel
theorem d_Cc_point_7 : decode b_Cc_point 7 = .ok (.iload 4, 2) := by decide +kernel
theorem d_Cc_point_9 : decode b_Cc_point 9 = .ok (.invokevirtual 70, 3) := by decide +kernel
theorem d_Cc_point_12 : decode b_Cc_point 12 = .ok (.ireturn, 1) := by decide +kernel
theorem d_Fo_addPoint_0 : decode b_Fo_addPoint 0 = .ok (.aload_n 0, 1) := by decide +kernel
theorem d_Fo_addPoint_1 : decode b_Fo_addPoint 1 = .ok (.iload_n 1, 1) := by decide +kernel
theorem d_Fo_addPoint_2 : decode b_Fo_addPoint 2 = .ok (.iload_n 2, 1) := by decide +kernel
theorem d_Fo_addPoint_3 : decode b_Fo_addPoint 3 = .ok (.invokevirtual 38, 3) := by decide +kernel
theorem d_Fo_addPoint_6 : decode b_Fo_addPoint 6 = .ok (.istore 5, 2) := by decide +kernel
theorem d_Fo_addPoint_8 : decode b_Fo_addPoint 8 = .ok (.aload_n 0, 1) := by decide +kernel
theorem d_Fo_addPoint_9 : decode b_Fo_addPoint 9 = .ok (.getfield 18, 3) := by decide +kernel
theorem d_Fo_addPoint_12 : decode b_Fo_addPoint 12 = .ok (.iload 5, 2) := by decide +kernel
theorem d_Fo_addPoint_14 : decode b_Fo_addPoint 14 = .ok (.iaload, 1) := by decide +kernel
theorem d_Fo_addPoint_15 : decode b_Fo_addPoint 15 = .ok (.istore 6, 2) := by decide +kernel
theorem d_Fo_addPoint_17 : decode b_Fo_addPoint 17 = .ok (.iload 6, 2) := by decide +kernel
theorem d_Fo_addPoint_19 : decode b_Fo_addPoint 19 = .ok (.bipush 6, 2) := by decide +kernel
theorem d_Fo_addPoint_21 : decode b_Fo_addPoint 21 = .ok (.invokestatic 31, 3) := by decide +kernel
theorem d_Fo_addPoint_24 : decode b_Fo_addPoint 24 = .ok (.iload 5, 2) := by decide +kernel
theorem d_Fo_addPoint_26 : decode b_Fo_addPoint 26 = .ok (.bipush 6, 2) := by decide +kernel
theorem d_Fo_addPoint_28 : decode b_Fo_addPoint 28 = .ok (.imul, 1) := by decide +kernel
theorem d_Fo_addPoint_29 : decode b_Fo_addPoint 29 = .ok (.iload 6, 2) := by decide +kernel
theorem d_Fo_addPoint_31 : decode b_Fo_addPoint 31 = .ok (.iadd, 1) := by decide +kernel
theorem d_Fo_addPoint_32 : decode b_Fo_addPoint 32 = .ok (.istore 7, 2) := by decide +kernel
theorem d_Fo_addPoint_34 : decode b_Fo_addPoint 34 = .ok (.iload 6, 2) := by decide +kernel
theorem d_Fo_addPoint_36 : decode b_Fo_addPoint 36 = .ok (.ifCond .ne 7, 3) := by decide +kernel
theorem d_Fo_addPoint_39 : decode b_Fo_addPoint 39 = .ok (.iconst (-1), 1) := by decide +kernel
theorem d_Fo_addPoint_40 : decode b_Fo_addPoint 40 = .ok (.goto 12, 3) := by decide +kernel
theorem d_Fo_addPoint_43 : decode b_Fo_addPoint 43 = .ok (.aload_n 0, 1) := by decide +kernel
theorem d_Fo_addPoint_44 : decode b_Fo_addPoint 44 = .ok (.getfield 21, 3) := by decide +kernel
theorem d_Fo_addPoint_47 : decode b_Fo_addPoint 47 = .ok (.iload 7, 2) := by decide +kernel
theorem d_Fo_addPoint_49 : decode b_Fo_addPoint 49 = .ok (.iconst 1, 1) := by decide +kernel
theorem d_Fo_addPoint_50 : decode b_Fo_addPoint 50 = .ok (.isub, 1) := by decide +kernel
theorem d_Fo_addPoint_51 : decode b_Fo_addPoint 51 = .ok (.iaload, 1) := by decide +kernel
theorem d_Fo_addPoint_52 : decode b_Fo_addPoint 52 = .ok (.istore 8, 2) := by decide +kernel
theorem d_Fo_addPoint_54 : decode b_Fo_addPoint 54 = .ok (.iload_n 3, 1) := by decide +kernel
theorem d_Fo_addPoint_55 : decode b_Fo_addPoint 55 = .ok (.iload 8, 2) := by decide +kernel
theorem d_Fo_addPoint_57 : decode b_Fo_addPoint 57 = .ok (.iconst 1, 1) := by decide +kernel
theorem d_Fo_addPoint_58 : decode b_Fo_addPoint 58 = .ok (.iadd, 1) := by decide +kernel
theorem d_Fo_addPoint_59 : decode b_Fo_addPoint 59 = .ok (.sipush 10000, 3) := by decide +kernel
theorem d_Fo_addPoint_62 : decode b_Fo_addPoint 62 = .ok (.invokestatic 34, 3) := by decide +kernel
theorem d_Fo_addPoint_65 : decode b_Fo_addPoint 65 = .ok (.iload 4, 2) := by decide +kernel
theorem d_Fo_addPoint_67 : decode b_Fo_addPoint 67 = .ok (.iconst 1, 1) := by decide +kernel
theorem d_Fo_addPoint_68 : decode b_Fo_addPoint 68 = .ok (.sipush 1000, 3) := by decide +kernel
theorem d_Fo_addPoint_71 : decode b_Fo_addPoint 71 = .ok (.invokestatic 34, 3) := by decide +kernel
theorem d_Fo_addPoint_74 : decode b_Fo_addPoint 74 = .ok (.aload_n 0, 1) := by decide +kernel
theorem d_Fo_addPoint_75 : decode b_Fo_addPoint 75 = .ok (.getfield 21, 3) := by decide +kernel
theorem d_Fo_addPoint_78 : decode b_Fo_addPoint 78 = .ok (.iload 7, 2) := by decide +kernel
theorem d_Fo_addPoint_80 : decode b_Fo_addPoint 80 = .ok (.iload_n 3, 1) := by decide +kernel
theorem d_Fo_addPoint_81 : decode b_Fo_addPoint 81 = .ok (.iastore, 1) := by decide +kernel
theorem d_Fo_addPoint_82 : decode b_Fo_addPoint 82 = .ok (.aload_n 0, 1) := by decide +kernel
theorem d_Fo_addPoint_83 : decode b_Fo_addPoint 83 = .ok (.getfield 24, 3) := by decide +kernel
theorem d_Fo_addPoint_86 : decode b_Fo_addPoint 86 = .ok (.iload 7, 2) := by decide +kernel
theorem d_Fo_addPoint_88 : decode b_Fo_addPoint 88 = .ok (.iload 4, 2) := by decide +kernel
theorem d_Fo_addPoint_90 : decode b_Fo_addPoint 90 = .ok (.iastore, 1) := by decide +kernel
theorem d_Fo_addPoint_91 : decode b_Fo_addPoint 91 = .ok (.aload_n 0, 1) := by decide +kernel
theorem d_Fo_addPoint_92 : decode b_Fo_addPoint 92 = .ok (.getfield 18, 3) := by decide +kernel
theorem d_Fo_addPoint_95 : decode b_Fo_addPoint 95 = .ok (.iload 5, 2) := by decide +kernel
theorem d_Fo_addPoint_97 : decode b_Fo_addPoint 97 = .ok (.iload 6, 2) := by decide +kernel
theorem d_Fo_addPoint_99 : decode b_Fo_addPoint 99 = .ok (.iconst 1, 1) := by decide +kernel
theorem d_Fo_addPoint_100 : decode b_Fo_addPoint 100 = .ok (.iadd, 1) := by decide +kernel
theorem d_Fo_addPoint_101 : decode b_Fo_addPoint 101 = .ok (.iastore, 1) := by decide +kernel
theorem d_Fo_addPoint_102 : decode b_Fo_addPoint 102 = .ok (.iload 6, 2) := by decide +kernel
theorem d_Fo_addPoint_104 : decode b_Fo_addPoint 104 = .ok (.iconst 1, 1) := by decide +kernel
theorem d_Fo_addPoint_105 : decode b_Fo_addPoint 105 = .ok (.iadd, 1) := by decide +kernel
theorem d_Fo_addPoint_106 : decode b_Fo_addPoint 106 = .ok (.ireturn, 1) := by decide +kernel
theorem d_Fo_placeOf_0 : decode b_Fo_placeOf 0 = .ok (.iload_n 1, 1) := by decide +kernel
theorem d_Fo_placeOf_1 : decode b_Fo_placeOf 1 = .ok (.iconst 4, 1) := by decide +kernel
theorem d_Fo_placeOf_2 : decode b_Fo_placeOf 2 = .ok (.invokestatic 27, 3) := by decide +kernel
theorem d_Fo_placeOf_5 : decode b_Fo_placeOf 5 = .ok (.iload_n 2, 1) := by decide +kernel
theorem d_Fo_placeOf_6 : decode b_Fo_placeOf 6 = .ok (.aload_n 0, 1) := by decide +kernel
theorem d_Fo_placeOf_7 : decode b_Fo_placeOf 7 = .ok (.getfield 9, 3) := by decide +kernel
theorem d_Fo_placeOf_10 : decode b_Fo_placeOf 10 = .ok (.iload_n 1, 1) := by decide +kernel
theorem d_Fo_placeOf_11 : decode b_Fo_placeOf 11 = .ok (.iaload, 1) := by decide +kernel
theorem d_Fo_placeOf_12 : decode b_Fo_placeOf 12 = .ok (.invokestatic 27, 3) := by decide +kernel
theorem d_Fo_placeOf_15 : decode b_Fo_placeOf 15 = .ok (.iload_n 1, 1) := by decide +kernel
theorem d_Fo_placeOf_16 : decode b_Fo_placeOf 16 = .ok (.bipush 8, 2) := by decide +kernel
theorem d_Fo_placeOf_18 : decode b_Fo_placeOf 18 = .ok (.imul, 1) := by decide +kernel
theorem d_Fo_placeOf_19 : decode b_Fo_placeOf 19 = .ok (.iload_n 2, 1) := by decide +kernel
theorem d_Fo_placeOf_20 : decode b_Fo_placeOf 20 = .ok (.iadd, 1) := by decide +kernel
theorem d_Fo_placeOf_21 : decode b_Fo_placeOf 21 = .ok (.ireturn, 1) := by decide +kernel
theorem d_La_value_0 : decode b_La_value 0 = .ok (.aload 4, 2) := by decide +kernel
theorem d_La_value_2 : decode b_La_value 2 = .ok (.iconst 0, 1) := by decide +kernel
theorem d_La_value_3 : decode b_La_value 3 = .ok (.aload_n 0, 1) := by decide +kernel
theorem d_La_value_4 : decode b_La_value 4 = .ok (.iload_n 1, 1) := by decide +kernel
theorem d_La_value_5 : decode b_La_value 5 = .ok (.iload_n 2, 1) := by decide +kernel
theorem d_La_value_6 : decode b_La_value 6 = .ok (.iload_n 3, 1) := by decide +kernel
theorem d_La_value_7 : decode b_La_value 7 = .ok (.invokevirtual 30, 3) := by decide +kernel
theorem d_La_value_10 : decode b_La_value 10 = .ok (.i2l, 1) := by decide +kernel
theorem d_La_value_11 : decode b_La_value 11 = .ok (.lastore, 1) := by decide +kernel
theorem d_La_value_12 : decode b_La_value 12 = .ok (.goto 7, 3) := by decide +kernel
theorem d_La_value_15 : decode b_La_value 15 = .ok (.astore 5, 2) := by decide +kernel
theorem d_La_value_17 : decode b_La_value 17 = .ok (.iconst 1, 1) := by decide +kernel
theorem d_La_value_18 : decode b_La_value 18 = .ok (.ireturn, 1) := by decide +kernel
theorem d_La_value_19 : decode b_La_value 19 = .ok (.iconst 0, 1) := by decide +kernel
theorem d_La_value_20 : decode b_La_value 20 = .ok (.ireturn, 1) := by decide +kernel
theorem d_Cc_value_0 : decode b_Cc_value 0 = .ok (.aload_n 0, 1) := by decide +kernel
theorem d_Cc_value_1 : decode b_Cc_value 1 = .ok (.getfield 19, 3) := by decide +kernel
theorem d_Cc_value_4 : decode b_Cc_value 4 = .ok (.iload_n 1, 1) := by decide +kernel
theorem d_Cc_value_5 : decode b_Cc_value 5 = .ok (.iload_n 2, 1) := by decide +kernel
theorem d_Cc_value_6 : decode b_Cc_value 6 = .ok (.iload_n 3, 1) := by decide +kernel
theorem d_Cc_value_7 : decode b_Cc_value 7 = .ok (.invokevirtual 73, 3) := by decide +kernel
theorem d_Cc_value_10 : decode b_Cc_value 10 = .ok (.ireturn, 1) := by decide +kernel
theorem d_Fo_valueAt_0 : decode b_Fo_valueAt 0 = .ok (.aload_n 0, 1) := by decide +kernel
theorem d_Fo_valueAt_1 : decode b_Fo_valueAt 1 = .ok (.iload_n 1, 1) := by decide +kernel
theorem d_Fo_valueAt_2 : decode b_Fo_valueAt 2 = .ok (.iload_n 2, 1) := by decide +kernel
theorem d_Fo_valueAt_3 : decode b_Fo_valueAt 3 = .ok (.invokevirtual 38, 3) := by decide +kernel
theorem d_Fo_valueAt_6 : decode b_Fo_valueAt 6 = .ok (.istore 4, 2) := by decide +kernel
theorem d_Fo_valueAt_8 : decode b_Fo_valueAt 8 = .ok (.iload 4, 2) := by decide +kernel
theorem d_Fo_valueAt_10 : decode b_Fo_valueAt 10 = .ok (.bipush 6, 2) := by decide +kernel
theorem d_Fo_valueAt_12 : decode b_Fo_valueAt 12 = .ok (.imul, 1) := by decide +kernel
theorem d_Fo_valueAt_13 : decode b_Fo_valueAt 13 = .ok (.istore 5, 2) := by decide +kernel
theorem d_Fo_valueAt_15 : decode b_Fo_valueAt 15 = .ok (.iload 5, 2) := by decide +kernel
theorem d_Fo_valueAt_17 : decode b_Fo_valueAt 17 = .ok (.aload_n 0, 1) := by decide +kernel
theorem d_Fo_valueAt_18 : decode b_Fo_valueAt 18 = .ok (.getfield 18, 3) := by decide +kernel
theorem d_Fo_valueAt_21 : decode b_Fo_valueAt 21 = .ok (.iload 4, 2) := by decide +kernel
theorem d_Fo_valueAt_23 : decode b_Fo_valueAt 23 = .ok (.iaload, 1) := by decide +kernel
theorem d_Fo_valueAt_24 : decode b_Fo_valueAt 24 = .ok (.iadd, 1) := by decide +kernel
theorem d_Fo_valueAt_25 : decode b_Fo_valueAt 25 = .ok (.istore 6, 2) := by decide +kernel
theorem d_Fo_valueAt_27 : decode b_Fo_valueAt 27 = .ok (.iload 5, 2) := by decide +kernel
theorem d_Fo_valueAt_29 : decode b_Fo_valueAt 29 = .ok (.istore 7, 2) := by decide +kernel
theorem d_Fo_valueAt_31 : decode b_Fo_valueAt 31 = .ok (.iload 7, 2) := by decide +kernel
theorem d_Fo_valueAt_33 : decode b_Fo_valueAt 33 = .ok (.iload 6, 2) := by decide +kernel
theorem d_Fo_valueAt_35 : decode b_Fo_valueAt 35 = .ok (.if_icmp .ge 62, 3) := by decide +kernel
theorem d_Fo_valueAt_38 : decode b_Fo_valueAt 38 = .ok (.aload_n 0, 1) := by decide +kernel
theorem d_Fo_valueAt_39 : decode b_Fo_valueAt 39 = .ok (.getfield 21, 3) := by decide +kernel
theorem d_Fo_valueAt_42 : decode b_Fo_valueAt 42 = .ok (.iload 7, 2) := by decide +kernel
theorem d_Fo_valueAt_44 : decode b_Fo_valueAt 44 = .ok (.iaload, 1) := by decide +kernel
theorem d_Fo_valueAt_45 : decode b_Fo_valueAt 45 = .ok (.iload_n 3, 1) := by decide +kernel
theorem d_Fo_valueAt_46 : decode b_Fo_valueAt 46 = .ok (.if_icmp .ne 11, 3) := by decide +kernel
theorem d_Fo_valueAt_49 : decode b_Fo_valueAt 49 = .ok (.aload_n 0, 1) := by decide +kernel
theorem d_Fo_valueAt_50 : decode b_Fo_valueAt 50 = .ok (.getfield 24, 3) := by decide +kernel
theorem d_Fo_valueAt_53 : decode b_Fo_valueAt 53 = .ok (.iload 7, 2) := by decide +kernel
theorem d_Fo_valueAt_55 : decode b_Fo_valueAt 55 = .ok (.iaload, 1) := by decide +kernel
theorem d_Fo_valueAt_56 : decode b_Fo_valueAt 56 = .ok (.ireturn, 1) := by decide +kernel
theorem d_Fo_valueAt_57 : decode b_Fo_valueAt 57 = .ok (.aload_n 0, 1) := by decide +kernel
theorem d_Fo_valueAt_58 : decode b_Fo_valueAt 58 = .ok (.getfield 21, 3) := by decide +kernel
theorem d_Fo_valueAt_61 : decode b_Fo_valueAt 61 = .ok (.iload 7, 2) := by decide +kernel
theorem d_Fo_valueAt_63 : decode b_Fo_valueAt 63 = .ok (.iaload, 1) := by decide +kernel
theorem d_Fo_valueAt_64 : decode b_Fo_valueAt 64 = .ok (.iload_n 3, 1) := by decide +kernel
theorem d_Fo_valueAt_65 : decode b_Fo_valueAt 65 = .ok (.if_icmp .le 26, 3) := by decide +kernel
theorem d_Fo_valueAt_68 : decode b_Fo_valueAt 68 = .ok (.iload 7, 2) := by decide +kernel
theorem d_Fo_valueAt_70 : decode b_Fo_valueAt 70 = .ok (.iload 5, 2) := by decide +kernel
theorem d_Fo_valueAt_72 : decode b_Fo_valueAt 72 = .ok (.if_icmp .ne 7, 3) := by decide +kernel
theorem d_Fo_valueAt_75 : decode b_Fo_valueAt 75 = .ok (.iconst (-1), 1) := by decide +kernel
theorem d_Fo_valueAt_76 : decode b_Fo_valueAt 76 = .ok (.goto 14, 3) := by decide +kernel
theorem d_Fo_valueAt_79 : decode b_Fo_valueAt 79 = .ok (.aload_n 0, 1) := by decide +kernel
theorem d_Fo_valueAt_80 : decode b_Fo_valueAt 80 = .ok (.iload 7, 2) := by decide +kernel
theorem d_Fo_valueAt_82 : decode b_Fo_valueAt 82 = .ok (.iconst 1, 1) := by decide +kernel
theorem d_Fo_valueAt_83 : decode b_Fo_valueAt 83 = .ok (.isub, 1) := by decide +kernel
theorem d_Fo_valueAt_84 : decode b_Fo_valueAt 84 = .ok (.iload 7, 2) := by decide +kernel
theorem d_Fo_valueAt_86 : decode b_Fo_valueAt 86 = .ok (.iload_n 3, 1) := by decide +kernel
theorem d_Fo_valueAt_87 : decode b_Fo_valueAt 87 = .ok (.invokevirtual 42, 3) := by decide +kernel
theorem d_Fo_valueAt_90 : decode b_Fo_valueAt 90 = .ok (.ireturn, 1) := by decide +kernel
theorem d_Fo_valueAt_91 : decode b_Fo_valueAt 91 = .ok (.iinc 7 1, 3) := by decide +kernel
theorem d_Fo_valueAt_94 : decode b_Fo_valueAt 94 = .ok (.goto (-63), 3) := by decide +kernel
theorem d_Fo_valueAt_97 : decode b_Fo_valueAt 97 = .ok (.iconst (-1), 1) := by decide +kernel
theorem d_Fo_valueAt_98 : decode b_Fo_valueAt 98 = .ok (.ireturn, 1) := by decide +kernel
theorem d_Fo_valueBetween_0 : decode b_Fo_valueBetween 0 = .ok (.aload_n 0, 1) := by decide +kernel
theorem d_Fo_valueBetween_1 : decode b_Fo_valueBetween 1 = .ok (.getfield 21, 3) := by decide +kernel
theorem d_Fo_valueBetween_4 : decode b_Fo_valueBetween 4 = .ok (.iload_n 2, 1) := by decide +kernel
theorem d_Fo_valueBetween_5 : decode b_Fo_valueBetween 5 = .ok (.iaload, 1) := by decide +kernel
theorem d_Fo_valueBetween_6 : decode b_Fo_valueBetween 6 = .ok (.aload_n 0, 1) := by decide +kernel
theorem d_Fo_valueBetween_7 : decode b_Fo_valueBetween 7 = .ok (.getfield 21, 3) := by decide +kernel
theorem d_Fo_valueBetween_10 : decode b_Fo_valueBetween 10 = .ok (.iload_n 1, 1) := by decide +kernel
theorem d_Fo_valueBetween_11 : decode b_Fo_valueBetween 11 = .ok (.iaload, 1) := by decide +kernel
theorem d_Fo_valueBetween_12 : decode b_Fo_valueBetween 12 = .ok (.isub, 1) := by decide +kernel
theorem d_Fo_valueBetween_13 : decode b_Fo_valueBetween 13 = .ok (.istore 4, 2) := by decide +kernel
theorem d_Fo_valueBetween_15 : decode b_Fo_valueBetween 15 = .ok (.iload 4, 2) := by decide +kernel
theorem d_Fo_valueBetween_17 : decode b_Fo_valueBetween 17 = .ok (.iconst 1, 1) := by decide +kernel
theorem d_Fo_valueBetween_18 : decode b_Fo_valueBetween 18 = .ok (.if_icmp .ge 10, 3) := by decide +kernel
theorem d_Fo_valueBetween_21 : decode b_Fo_valueBetween 21 = .ok (.aload_n 0, 1) := by decide +kernel
theorem d_Fo_valueBetween_22 : decode b_Fo_valueBetween 22 = .ok (.getfield 24, 3) := by decide +kernel
theorem d_Fo_valueBetween_25 : decode b_Fo_valueBetween 25 = .ok (.iload_n 2, 1) := by decide +kernel
theorem d_Fo_valueBetween_26 : decode b_Fo_valueBetween 26 = .ok (.iaload, 1) := by decide +kernel
theorem d_Fo_valueBetween_27 : decode b_Fo_valueBetween 27 = .ok (.ireturn, 1) := by decide +kernel
theorem d_Fo_valueBetween_28 : decode b_Fo_valueBetween 28 = .ok (.aload_n 0, 1) := by decide +kernel
theorem d_Fo_valueBetween_29 : decode b_Fo_valueBetween 29 = .ok (.getfield 24, 3) := by decide +kernel
theorem d_Fo_valueBetween_32 : decode b_Fo_valueBetween 32 = .ok (.iload_n 1, 1) := by decide +kernel
theorem d_Fo_valueBetween_33 : decode b_Fo_valueBetween 33 = .ok (.iaload, 1) := by decide +kernel
theorem d_Fo_valueBetween_34 : decode b_Fo_valueBetween 34 = .ok (.aload_n 0, 1) := by decide +kernel
theorem d_Fo_valueBetween_35 : decode b_Fo_valueBetween 35 = .ok (.getfield 24, 3) := by decide +kernel
theorem d_Fo_valueBetween_38 : decode b_Fo_valueBetween 38 = .ok (.iload_n 2, 1) := by decide +kernel
theorem d_Fo_valueBetween_39 : decode b_Fo_valueBetween 39 = .ok (.iaload, 1) := by decide +kernel
theorem d_Fo_valueBetween_40 : decode b_Fo_valueBetween 40 = .ok (.isub, 1) := by decide +kernel
theorem d_Fo_valueBetween_41 : decode b_Fo_valueBetween 41 = .ok (.istore 5, 2) := by decide +kernel
theorem d_Fo_valueBetween_43 : decode b_Fo_valueBetween 43 = .ok (.aload_n 0, 1) := by decide +kernel
theorem d_Fo_valueBetween_44 : decode b_Fo_valueBetween 44 = .ok (.getfield 24, 3) := by decide +kernel
theorem d_Fo_valueBetween_47 : decode b_Fo_valueBetween 47 = .ok (.iload_n 1, 1) := by decide +kernel
theorem d_Fo_valueBetween_48 : decode b_Fo_valueBetween 48 = .ok (.iaload, 1) := by decide +kernel
theorem d_Fo_valueBetween_49 : decode b_Fo_valueBetween 49 = .ok (.iload 5, 2) := by decide +kernel
theorem d_Fo_valueBetween_51 : decode b_Fo_valueBetween 51 = .ok (.iload_n 3, 1) := by decide +kernel
theorem d_Fo_valueBetween_52 : decode b_Fo_valueBetween 52 = .ok (.aload_n 0, 1) := by decide +kernel
theorem d_Fo_valueBetween_53 : decode b_Fo_valueBetween 53 = .ok (.getfield 21, 3) := by decide +kernel
theorem d_Fo_valueBetween_56 : decode b_Fo_valueBetween 56 = .ok (.iload_n 1, 1) := by decide +kernel
theorem d_Fo_valueBetween_57 : decode b_Fo_valueBetween 57 = .ok (.iaload, 1) := by decide +kernel
theorem d_Fo_valueBetween_58 : decode b_Fo_valueBetween 58 = .ok (.isub, 1) := by decide +kernel
theorem d_Fo_valueBetween_59 : decode b_Fo_valueBetween 59 = .ok (.imul, 1) := by decide +kernel
theorem d_Fo_valueBetween_60 : decode b_Fo_valueBetween 60 = .ok (.iload 4, 2) := by decide +kernel
theorem d_Fo_valueBetween_62 : decode b_Fo_valueBetween 62 = .ok (.invokestatic 49, 3) := by decide +kernel
theorem d_Fo_valueBetween_65 : decode b_Fo_valueBetween 65 = .ok (.isub, 1) := by decide +kernel
theorem d_Fo_valueBetween_66 : decode b_Fo_valueBetween 66 = .ok (.ireturn, 1) := by decide +kernel
theorem d_Ma_floorDiv_0 : decode b_Ma_floorDiv 0 = .ok (.iload_n 0, 1) := by decide +kernel
theorem d_Ma_floorDiv_1 : decode b_Ma_floorDiv 1 = .ok (.iload_n 1, 1) := by decide +kernel
theorem d_Ma_floorDiv_2 : decode b_Ma_floorDiv 2 = .ok (.idiv, 1) := by decide +kernel
theorem d_Ma_floorDiv_3 : decode b_Ma_floorDiv 3 = .ok (.istore_n 2, 1) := by decide +kernel
theorem d_Ma_floorDiv_4 : decode b_Ma_floorDiv 4 = .ok (.iload_n 0, 1) := by decide +kernel
theorem d_Ma_floorDiv_5 : decode b_Ma_floorDiv 5 = .ok (.iload_n 1, 1) := by decide +kernel
theorem d_Ma_floorDiv_6 : decode b_Ma_floorDiv 6 = .ok (.ixor, 1) := by decide +kernel
theorem d_Ma_floorDiv_7 : decode b_Ma_floorDiv 7 = .ok (.ifCond .ge 14, 3) := by decide +kernel
theorem d_Ma_floorDiv_10 : decode b_Ma_floorDiv 10 = .ok (.iload_n 2, 1) := by decide +kernel
theorem d_Ma_floorDiv_11 : decode b_Ma_floorDiv 11 = .ok (.iload_n 1, 1) := by decide +kernel
theorem d_Ma_floorDiv_12 : decode b_Ma_floorDiv 12 = .ok (.imul, 1) := by decide +kernel
theorem d_Ma_floorDiv_13 : decode b_Ma_floorDiv 13 = .ok (.iload_n 0, 1) := by decide +kernel
theorem d_Ma_floorDiv_14 : decode b_Ma_floorDiv 14 = .ok (.if_icmp .eq 7, 3) := by decide +kernel
theorem d_Ma_floorDiv_17 : decode b_Ma_floorDiv 17 = .ok (.iload_n 2, 1) := by decide +kernel
theorem d_Ma_floorDiv_18 : decode b_Ma_floorDiv 18 = .ok (.iconst 1, 1) := by decide +kernel
theorem d_Ma_floorDiv_19 : decode b_Ma_floorDiv 19 = .ok (.isub, 1) := by decide +kernel
theorem d_Ma_floorDiv_20 : decode b_Ma_floorDiv 20 = .ok (.ireturn, 1) := by decide +kernel
theorem d_Ma_floorDiv_21 : decode b_Ma_floorDiv 21 = .ok (.iload_n 2, 1) := by decide +kernel
theorem d_Ma_floorDiv_22 : decode b_Ma_floorDiv 22 = .ok (.ireturn, 1) := by decide +kernel
theorem d_La_thickness_0 : decode b_La_thickness 0 = .ok (.aload 4, 2) := by decide +kernel
theorem d_La_thickness_2 : decode b_La_thickness 2 = .ok (.iconst 0, 1) := by decide +kernel
theorem d_La_thickness_3 : decode b_La_thickness 3 = .ok (.aload_n 0, 1) := by decide +kernel
theorem d_La_thickness_4 : decode b_La_thickness 4 = .ok (.iload_n 1, 1) := by decide +kernel
theorem d_La_thickness_5 : decode b_La_thickness 5 = .ok (.iload_n 2, 1) := by decide +kernel
theorem d_La_thickness_6 : decode b_La_thickness 6 = .ok (.iload_n 3, 1) := by decide +kernel
theorem d_La_thickness_7 : decode b_La_thickness 7 = .ok (.invokevirtual 34, 3) := by decide +kernel
theorem d_La_thickness_10 : decode b_La_thickness 10 = .ok (.i2l, 1) := by decide +kernel
theorem d_La_thickness_11 : decode b_La_thickness 11 = .ok (.lastore, 1) := by decide +kernel
theorem d_La_thickness_12 : decode b_La_thickness 12 = .ok (.goto 7, 3) := by decide +kernel
theorem d_La_thickness_15 : decode b_La_thickness 15 = .ok (.astore 5, 2) := by decide +kernel
theorem d_La_thickness_17 : decode b_La_thickness 17 = .ok (.iconst 1, 1) := by decide +kernel
theorem d_La_thickness_18 : decode b_La_thickness 18 = .ok (.ireturn, 1) := by decide +kernel
theorem d_La_thickness_19 : decode b_La_thickness 19 = .ok (.iconst 0, 1) := by decide +kernel
theorem d_La_thickness_20 : decode b_La_thickness 20 = .ok (.ireturn, 1) := by decide +kernel
theorem d_Cc_thickness_0 : decode b_Cc_thickness 0 = .ok (.aload_n 0, 1) := by decide +kernel
theorem d_Cc_thickness_1 : decode b_Cc_thickness 1 = .ok (.getfield 19, 3) := by decide +kernel
theorem d_Cc_thickness_4 : decode b_Cc_thickness 4 = .ok (.iload_n 1, 1) := by decide +kernel
theorem d_Cc_thickness_5 : decode b_Cc_thickness 5 = .ok (.iload_n 2, 1) := by decide +kernel
theorem d_Cc_thickness_6 : decode b_Cc_thickness 6 = .ok (.iload_n 3, 1) := by decide +kernel
theorem d_Cc_thickness_7 : decode b_Cc_thickness 7 = .ok (.invokevirtual 77, 3) := by decide +kernel
theorem d_Cc_thickness_10 : decode b_Cc_thickness 10 = .ok (.ireturn, 1) := by decide +kernel
theorem d_Fo_leastThickness_0 : decode b_Fo_leastThickness 0 = .ok (.iload_n 1, 1) := by decide +kernel
theorem d_Fo_leastThickness_1 : decode b_Fo_leastThickness 1 = .ok (.iconst 4, 1) := by decide +kernel
theorem d_Fo_leastThickness_2 : decode b_Fo_leastThickness 2 = .ok (.invokestatic 27, 3) := by decide +kernel
theorem d_Fo_leastThickness_5 : decode b_Fo_leastThickness 5 = .ok (.aload_n 0, 1) := by decide +kernel
theorem d_Fo_leastThickness_6 : decode b_Fo_leastThickness 6 = .ok (.getfield 9, 3) := by decide +kernel
theorem d_Fo_leastThickness_9 : decode b_Fo_leastThickness 9 = .ok (.iload_n 1, 1) := by decide +kernel
theorem d_Fo_leastThickness_10 : decode b_Fo_leastThickness 10 = .ok (.iaload, 1) := by decide +kernel
theorem d_Fo_leastThickness_11 : decode b_Fo_leastThickness 11 = .ok (.istore 4, 2) := by decide +kernel
theorem d_Fo_leastThickness_13 : decode b_Fo_leastThickness 13 = .ok (.iconst 0, 1) := by decide +kernel
theorem d_Fo_leastThickness_14 : decode b_Fo_leastThickness 14 = .ok (.istore 5, 2) := by decide +kernel
theorem d_Fo_leastThickness_16 : decode b_Fo_leastThickness 16 = .ok (.iload 4, 2) := by decide +kernel
theorem d_Fo_leastThickness_18 : decode b_Fo_leastThickness 18 = .ok (.istore 6, 2) := by decide +kernel
theorem d_Fo_leastThickness_20 : decode b_Fo_leastThickness 20 = .ok (.iload 5, 2) := by decide +kernel
theorem d_Fo_leastThickness_22 : decode b_Fo_leastThickness 22 = .ok (.iload 6, 2) := by decide +kernel
theorem d_Fo_leastThickness_24 : decode b_Fo_leastThickness 24 = .ok (.if_icmp .ge 50, 3) := by decide +kernel
theorem d_Fo_leastThickness_27 : decode b_Fo_leastThickness 27 = .ok (.iload 5, 2) := by decide +kernel
theorem d_Fo_leastThickness_29 : decode b_Fo_leastThickness 29 = .ok (.iload 6, 2) := by decide +kernel
theorem d_Fo_leastThickness_31 : decode b_Fo_leastThickness 31 = .ok (.iadd, 1) := by decide +kernel
theorem d_Fo_leastThickness_32 : decode b_Fo_leastThickness 32 = .ok (.iconst 2, 1) := by decide +kernel
theorem d_Fo_leastThickness_33 : decode b_Fo_leastThickness 33 = .ok (.idiv, 1) := by decide +kernel
theorem d_Fo_leastThickness_34 : decode b_Fo_leastThickness 34 = .ok (.istore 7, 2) := by decide +kernel
theorem d_Fo_leastThickness_36 : decode b_Fo_leastThickness 36 = .ok (.aload_n 0, 1) := by decide +kernel
theorem d_Fo_leastThickness_37 : decode b_Fo_leastThickness 37 = .ok (.iload_n 1, 1) := by decide +kernel
theorem d_Fo_leastThickness_38 : decode b_Fo_leastThickness 38 = .ok (.iload 7, 2) := by decide +kernel
theorem d_Fo_leastThickness_40 : decode b_Fo_leastThickness 40 = .ok (.iload_n 2, 1) := by decide +kernel
theorem d_Fo_leastThickness_41 : decode b_Fo_leastThickness 41 = .ok (.invokevirtual 46, 3) := by decide +kernel
theorem d_Fo_leastThickness_44 : decode b_Fo_leastThickness 44 = .ok (.istore 8, 2) := by decide +kernel
theorem d_Fo_leastThickness_46 : decode b_Fo_leastThickness 46 = .ok (.iload 8, 2) := by decide +kernel
theorem d_Fo_leastThickness_48 : decode b_Fo_leastThickness 48 = .ok (.iconst (-1), 1) := by decide +kernel
theorem d_Fo_leastThickness_49 : decode b_Fo_leastThickness 49 = .ok (.if_icmp .eq 16, 3) := by decide +kernel
theorem d_Fo_leastThickness_52 : decode b_Fo_leastThickness 52 = .ok (.iload 8, 2) := by decide +kernel
theorem d_Fo_leastThickness_54 : decode b_Fo_leastThickness 54 = .ok (.iload_n 3, 1) := by decide +kernel
theorem d_Fo_leastThickness_55 : decode b_Fo_leastThickness 55 = .ok (.if_icmp .gt 10, 3) := by decide +kernel
theorem d_Fo_leastThickness_58 : decode b_Fo_leastThickness 58 = .ok (.iload 7, 2) := by decide +kernel
theorem d_Fo_leastThickness_60 : decode b_Fo_leastThickness 60 = .ok (.istore 6, 2) := by decide +kernel
theorem d_Fo_leastThickness_62 : decode b_Fo_leastThickness 62 = .ok (.goto 9, 3) := by decide +kernel
theorem d_Fo_leastThickness_65 : decode b_Fo_leastThickness 65 = .ok (.iload 7, 2) := by decide +kernel
theorem d_Fo_leastThickness_67 : decode b_Fo_leastThickness 67 = .ok (.iconst 1, 1) := by decide +kernel
theorem d_Fo_leastThickness_68 : decode b_Fo_leastThickness 68 = .ok (.iadd, 1) := by decide +kernel
theorem d_Fo_leastThickness_69 : decode b_Fo_leastThickness 69 = .ok (.istore 5, 2) := by decide +kernel
theorem d_Fo_leastThickness_71 : decode b_Fo_leastThickness 71 = .ok (.goto (-51), 3) := by decide +kernel
theorem d_Fo_leastThickness_74 : decode b_Fo_leastThickness 74 = .ok (.iload 5, 2) := by decide +kernel
theorem d_Fo_leastThickness_76 : decode b_Fo_leastThickness 76 = .ok (.iload 4, 2) := by decide +kernel
theorem d_Fo_leastThickness_78 : decode b_Fo_leastThickness 78 = .ok (.if_icmp .ge 18, 3) := by decide +kernel
theorem d_Fo_leastThickness_81 : decode b_Fo_leastThickness 81 = .ok (.aload_n 0, 1) := by decide +kernel
theorem d_Fo_leastThickness_82 : decode b_Fo_leastThickness 82 = .ok (.getfield 15, 3) := by decide +kernel
theorem d_Fo_leastThickness_85 : decode b_Fo_leastThickness 85 = .ok (.iload_n 1, 1) := by decide +kernel
theorem d_Fo_leastThickness_86 : decode b_Fo_leastThickness 86 = .ok (.bipush 8, 2) := by decide +kernel
theorem d_Fo_leastThickness_88 : decode b_Fo_leastThickness 88 = .ok (.imul, 1) := by decide +kernel
theorem d_Fo_leastThickness_89 : decode b_Fo_leastThickness 89 = .ok (.iload 5, 2) := by decide +kernel
theorem d_Fo_leastThickness_91 : decode b_Fo_leastThickness 91 = .ok (.iadd, 1) := by decide +kernel
theorem d_Fo_leastThickness_92 : decode b_Fo_leastThickness 92 = .ok (.iaload, 1) := by decide +kernel
theorem d_Fo_leastThickness_93 : decode b_Fo_leastThickness 93 = .ok (.goto 4, 3) := by decide +kernel
theorem d_Fo_leastThickness_96 : decode b_Fo_leastThickness 96 = .ok (.iconst (-1), 1) := by decide +kernel
theorem d_Fo_leastThickness_97 : decode b_Fo_leastThickness 97 = .ok (.ireturn, 1) := by decide +kernel
theorem d_La_pack_0 : decode b_La_pack 0 = .ok (.aload_n 3, 1) := by decide +kernel
theorem d_La_pack_1 : decode b_La_pack 1 = .ok (.iconst 0, 1) := by decide +kernel
theorem d_La_pack_2 : decode b_La_pack 2 = .ok (.aload_n 0, 1) := by decide +kernel
theorem d_La_pack_3 : decode b_La_pack 3 = .ok (.iload_n 1, 1) := by decide +kernel
theorem d_La_pack_4 : decode b_La_pack 4 = .ok (.iload_n 2, 1) := by decide +kernel
theorem d_La_pack_5 : decode b_La_pack 5 = .ok (.invokevirtual 37, 3) := by decide +kernel
theorem d_La_pack_8 : decode b_La_pack 8 = .ok (.i2l, 1) := by decide +kernel
theorem d_La_pack_9 : decode b_La_pack 9 = .ok (.lastore, 1) := by decide +kernel
theorem d_La_pack_10 : decode b_La_pack 10 = .ok (.goto 11, 3) := by decide +kernel
theorem d_La_pack_13 : decode b_La_pack 13 = .ok (.astore 4, 2) := by decide +kernel
theorem d_La_pack_15 : decode b_La_pack 15 = .ok (.iconst 1, 1) := by decide +kernel
theorem d_La_pack_16 : decode b_La_pack 16 = .ok (.ireturn, 1) := by decide +kernel
theorem d_La_pack_17 : decode b_La_pack 17 = .ok (.astore 4, 2) := by decide +kernel
theorem d_La_pack_19 : decode b_La_pack 19 = .ok (.iconst 2, 1) := by decide +kernel
theorem d_La_pack_20 : decode b_La_pack 20 = .ok (.ireturn, 1) := by decide +kernel
theorem d_La_pack_21 : decode b_La_pack 21 = .ok (.iconst 0, 1) := by decide +kernel
theorem d_La_pack_22 : decode b_La_pack 22 = .ok (.ireturn, 1) := by decide +kernel
theorem d_Cc_pack_0 : decode b_Cc_pack 0 = .ok (.aload_n 0, 1) := by decide +kernel
theorem d_Cc_pack_1 : decode b_Cc_pack 1 = .ok (.getfield 26, 3) := by decide +kernel
theorem d_Cc_pack_4 : decode b_Cc_pack 4 = .ok (.aload_n 0, 1) := by decide +kernel
theorem d_Cc_pack_5 : decode b_Cc_pack 5 = .ok (.getfield 10, 3) := by decide +kernel
theorem d_Cc_pack_8 : decode b_Cc_pack 8 = .ok (.iload_n 1, 1) := by decide +kernel
theorem d_Cc_pack_9 : decode b_Cc_pack 9 = .ok (.iload_n 2, 1) := by decide +kernel
theorem d_Cc_pack_10 : decode b_Cc_pack 10 = .ok (.invokevirtual 80, 3) := by decide +kernel
theorem d_Cc_pack_13 : decode b_Cc_pack 13 = .ok (.ireturn, 1) := by decide +kernel
theorem d_Pk_packSet_0 : decode b_Pk_packSet 0 = .ok (.iload_n 2, 1) := by decide +kernel
theorem d_Pk_packSet_1 : decode b_Pk_packSet 1 = .ok (.aload_n 1, 1) := by decide +kernel
theorem d_Pk_packSet_2 : decode b_Pk_packSet 2 = .ok (.getfield 28, 3) := by decide +kernel
theorem d_Pk_packSet_5 : decode b_Pk_packSet 5 = .ok (.ishr, 1) := by decide +kernel
theorem d_Pk_packSet_6 : decode b_Pk_packSet 6 = .ok (.ifCond .eq 13, 3) := by decide +kernel
theorem d_Pk_packSet_9 : decode b_Pk_packSet 9 = .ok (.new 34, 3) := by decide +kernel
theorem d_Pk_packSet_12 : decode b_Pk_packSet 12 = .ok (.dup, 1) := by decide +kernel
theorem d_Pk_packSet_13 : decode b_Pk_packSet 13 = .ok (.ldc 36, 2) := by decide +kernel
theorem d_Pk_packSet_15 : decode b_Pk_packSet 15 = .ok (.invokespecial 38, 3) := by decide +kernel
theorem d_Pk_packSet_18 : decode b_Pk_packSet 18 = .ok (.athrow, 1) := by decide +kernel
theorem d_Pk_packSet_19 : decode b_Pk_packSet 19 = .ok (.iload_n 2, 1) := by decide +kernel
theorem d_Pk_packSet_20 : decode b_Pk_packSet 20 = .ok (.ifCond .ne 13, 3) := by decide +kernel
theorem d_Pk_packSet_23 : decode b_Pk_packSet 23 = .ok (.new 41, 3) := by decide +kernel
theorem d_Pk_packSet_26 : decode b_Pk_packSet 26 = .ok (.dup, 1) := by decide +kernel
theorem d_Pk_packSet_27 : decode b_Pk_packSet 27 = .ok (.ldc 43, 2) := by decide +kernel
theorem d_Pk_packSet_29 : decode b_Pk_packSet 29 = .ok (.invokespecial 45, 3) := by decide +kernel
theorem d_Pk_packSet_32 : decode b_Pk_packSet 32 = .ok (.athrow, 1) := by decide +kernel
theorem d_Pk_packSet_33 : decode b_Pk_packSet 33 = .ok (.iload_n 3, 1) := by decide +kernel
theorem d_Pk_packSet_34 : decode b_Pk_packSet 34 = .ok (.iconst 0, 1) := by decide +kernel
theorem d_Pk_packSet_35 : decode b_Pk_packSet 35 = .ok (.bipush 20, 2) := by decide +kernel
theorem d_Pk_packSet_37 : decode b_Pk_packSet 37 = .ok (.invokestatic 46, 3) := by decide +kernel
theorem d_Pk_packSet_40 : decode b_Pk_packSet 40 = .ok (.iconst 0, 1) := by decide +kernel
theorem d_Pk_packSet_41 : decode b_Pk_packSet 41 = .ok (.istore 4, 2) := by decide +kernel
theorem d_Pk_packSet_43 : decode b_Pk_packSet 43 = .ok (.iload 4, 2) := by decide +kernel
theorem d_Pk_packSet_45 : decode b_Pk_packSet 45 = .ok (.aload_n 1, 1) := by decide +kernel
theorem d_Pk_packSet_46 : decode b_Pk_packSet 46 = .ok (.getfield 28, 3) := by decide +kernel
theorem d_Pk_packSet_49 : decode b_Pk_packSet 49 = .ok (.if_icmp .ge 29, 3) := by decide +kernel
theorem d_Pk_packSet_52 : decode b_Pk_packSet 52 = .ok (.iload_n 2, 1) := by decide +kernel
theorem d_Pk_packSet_53 : decode b_Pk_packSet 53 = .ok (.iload 4, 2) := by decide +kernel
theorem d_Pk_packSet_55 : decode b_Pk_packSet 55 = .ok (.invokestatic 50, 3) := by decide +kernel
theorem d_Pk_packSet_58 : decode b_Pk_packSet 58 = .ok (.ifCond .eq 14, 3) := by decide +kernel
theorem d_Pk_packSet_61 : decode b_Pk_packSet 61 = .ok (.aload_n 1, 1) := by decide +kernel
theorem d_Pk_packSet_62 : decode b_Pk_packSet 62 = .ok (.iload 4, 2) := by decide +kernel
theorem d_Pk_packSet_64 : decode b_Pk_packSet 64 = .ok (.invokevirtual 54, 3) := by decide +kernel
theorem d_Pk_packSet_67 : decode b_Pk_packSet 67 = .ok (.ifCond .ne 5, 3) := by decide +kernel
theorem d_Pk_packSet_70 : decode b_Pk_packSet 70 = .ok (.iconst (-1), 1) := by decide +kernel
theorem d_Pk_packSet_71 : decode b_Pk_packSet 71 = .ok (.ireturn, 1) := by decide +kernel
theorem d_Pk_packSet_72 : decode b_Pk_packSet 72 = .ok (.iinc 4 1, 3) := by decide +kernel
theorem d_Pk_packSet_75 : decode b_Pk_packSet 75 = .ok (.goto (-32), 3) := by decide +kernel
theorem d_Pk_packSet_78 : decode b_Pk_packSet 78 = .ok (.aload_n 0, 1) := by decide +kernel
theorem d_Pk_packSet_79 : decode b_Pk_packSet 79 = .ok (.iload_n 2, 1) := by decide +kernel
theorem d_Pk_packSet_80 : decode b_Pk_packSet 80 = .ok (.putfield 58, 3) := by decide +kernel
theorem d_Pk_packSet_83 : decode b_Pk_packSet 83 = .ok (.aload_n 0, 1) := by decide +kernel
theorem d_Pk_packSet_84 : decode b_Pk_packSet 84 = .ok (.iload_n 3, 1) := by decide +kernel
theorem d_Pk_packSet_85 : decode b_Pk_packSet 85 = .ok (.putfield 61, 3) := by decide +kernel
theorem d_Pk_packSet_88 : decode b_Pk_packSet 88 = .ok (.aload_n 0, 1) := by decide +kernel
theorem d_Pk_packSet_89 : decode b_Pk_packSet 89 = .ok (.aload_n 1, 1) := by decide +kernel
theorem d_Pk_packSet_90 : decode b_Pk_packSet 90 = .ok (.invokevirtual 64, 3) := by decide +kernel
theorem d_Pk_packSet_93 : decode b_Pk_packSet 93 = .ok (.aload_n 0, 1) := by decide +kernel
theorem d_Pk_packSet_94 : decode b_Pk_packSet 94 = .ok (.aload_n 1, 1) := by decide +kernel
theorem d_Pk_packSet_95 : decode b_Pk_packSet 95 = .ok (.invokevirtual 68, 3) := by decide +kernel
theorem d_Pk_packSet_98 : decode b_Pk_packSet 98 = .ok (.aload_n 0, 1) := by decide +kernel
theorem d_Pk_packSet_99 : decode b_Pk_packSet 99 = .ok (.iconst 1, 1) := by decide +kernel
theorem d_Pk_packSet_100 : decode b_Pk_packSet 100 = .ok (.putfield 24, 3) := by decide +kernel
theorem d_Pk_packSet_103 : decode b_Pk_packSet 103 = .ok (.iload_n 2, 1) := by decide +kernel
theorem d_Pk_packSet_104 : decode b_Pk_packSet 104 = .ok (.invokestatic 71, 3) := by decide +kernel
theorem d_Pk_packSet_107 : decode b_Pk_packSet 107 = .ok (.ireturn, 1) := by decide +kernel
theorem d_Pk_isIn_0 : decode b_Pk_isIn 0 = .ok (.iload_n 0, 1) := by decide +kernel
theorem d_Pk_isIn_1 : decode b_Pk_isIn 1 = .ok (.iload_n 1, 1) := by decide +kernel
theorem d_Pk_isIn_2 : decode b_Pk_isIn 2 = .ok (.ishr, 1) := by decide +kernel
theorem d_Pk_isIn_3 : decode b_Pk_isIn 3 = .ok (.iconst 1, 1) := by decide +kernel
theorem d_Pk_isIn_4 : decode b_Pk_isIn 4 = .ok (.iand, 1) := by decide +kernel
theorem d_Pk_isIn_5 : decode b_Pk_isIn 5 = .ok (.ifCond .eq 7, 3) := by decide +kernel
theorem d_Pk_isIn_8 : decode b_Pk_isIn 8 = .ok (.iconst 1, 1) := by decide +kernel
theorem d_Pk_isIn_9 : decode b_Pk_isIn 9 = .ok (.goto 4, 3) := by decide +kernel
theorem d_Pk_isIn_12 : decode b_Pk_isIn 12 = .ok (.iconst 0, 1) := by decide +kernel
theorem d_Pk_isIn_13 : decode b_Pk_isIn 13 = .ok (.ireturn, 1) := by decide +kernel
theorem d_Go_mayStandAnyhow_0 : decode b_Go_mayStandAnyhow 0 = .ok (.aload_n 0, 1) := by decide +kernel
theorem d_Go_mayStandAnyhow_1 : decode b_Go_mayStandAnyhow 1 = .ok (.getfield 18, 3) := by decide +kernel
theorem d_Go_mayStandAnyhow_4 : decode b_Go_mayStandAnyhow 4 = .ok (.iload_n 1, 1) := by decide +kernel
theorem d_Go_mayStandAnyhow_5 : decode b_Go_mayStandAnyhow 5 = .ok (.iaload, 1) := by decide +kernel
theorem d_Go_mayStandAnyhow_6 : decode b_Go_mayStandAnyhow 6 = .ok (.bipush 63, 2) := by decide +kernel
theorem d_Go_mayStandAnyhow_8 : decode b_Go_mayStandAnyhow 8 = .ok (.if_icmp .eq 7, 3) := by decide +kernel
theorem d_Go_mayStandAnyhow_11 : decode b_Go_mayStandAnyhow 11 = .ok (.iconst 1, 1) := by decide +kernel
theorem d_Go_mayStandAnyhow_12 : decode b_Go_mayStandAnyhow 12 = .ok (.goto 4, 3) := by decide +kernel
theorem d_Go_mayStandAnyhow_15 : decode b_Go_mayStandAnyhow 15 = .ok (.iconst 0, 1) := by decide +kernel
theorem d_Go_mayStandAnyhow_16 : decode b_Go_mayStandAnyhow 16 = .ok (.ireturn, 1) := by decide +kernel
theorem d_Pk_findLeast_0 : decode b_Pk_findLeast 0 = .ok (.aload_n 0, 1) := by decide +kernel
theorem d_Pk_findLeast_1 : decode b_Pk_findLeast 1 = .ok (.ldc2_w 93, 3) := by decide +kernel
theorem d_Pk_findLeast_4 : decode b_Pk_findLeast 4 = .ok (.putfield 95, 3) := by decide +kernel
theorem d_Pk_findLeast_7 : decode b_Pk_findLeast 7 = .ok (.aload_n 1, 1) := by decide +kernel
theorem d_Pk_findLeast_8 : decode b_Pk_findLeast 8 = .ok (.getfield 28, 3) := by decide +kernel
theorem d_Pk_findLeast_11 : decode b_Pk_findLeast 11 = .ok (.iconst 3, 1) := by decide +kernel
theorem d_Pk_findLeast_12 : decode b_Pk_findLeast 12 = .ok (.imul, 1) := by decide +kernel
theorem d_Pk_findLeast_13 : decode b_Pk_findLeast 13 = .ok (.istore_n 2, 1) := by decide +kernel
theorem d_Pk_findLeast_14 : decode b_Pk_findLeast 14 = .ok (.iconst 0, 1) := by decide +kernel
theorem d_Pk_findLeast_15 : decode b_Pk_findLeast 15 = .ok (.istore_n 3, 1) := by decide +kernel
theorem d_Pk_findLeast_16 : decode b_Pk_findLeast 16 = .ok (.iload_n 3, 1) := by decide +kernel
theorem d_Pk_findLeast_17 : decode b_Pk_findLeast 17 = .ok (.iload_n 2, 1) := by decide +kernel
theorem d_Pk_findLeast_18 : decode b_Pk_findLeast 18 = .ok (.if_icmp .ge 69, 3) := by decide +kernel
theorem d_Pk_findLeast_21 : decode b_Pk_findLeast 21 = .ok (.iconst 0, 1) := by decide +kernel
theorem d_Pk_findLeast_22 : decode b_Pk_findLeast 22 = .ok (.istore 4, 2) := by decide +kernel
theorem d_Pk_findLeast_24 : decode b_Pk_findLeast 24 = .ok (.iload 4, 2) := by decide +kernel
theorem d_Pk_findLeast_26 : decode b_Pk_findLeast 26 = .ok (.iload_n 2, 1) := by decide +kernel
theorem d_Pk_findLeast_27 : decode b_Pk_findLeast 27 = .ok (.if_icmp .ge 54, 3) := by decide +kernel
theorem d_Pk_findLeast_30 : decode b_Pk_findLeast 30 = .ok (.aload_n 0, 1) := by decide +kernel
theorem d_Pk_findLeast_31 : decode b_Pk_findLeast 31 = .ok (.getfield 58, 3) := by decide +kernel
theorem d_Pk_findLeast_34 : decode b_Pk_findLeast 34 = .ok (.iload_n 3, 1) := by decide +kernel
theorem d_Pk_findLeast_35 : decode b_Pk_findLeast 35 = .ok (.iconst 3, 1) := by decide +kernel
theorem d_Pk_findLeast_36 : decode b_Pk_findLeast 36 = .ok (.idiv, 1) := by decide +kernel
theorem d_Pk_findLeast_37 : decode b_Pk_findLeast 37 = .ok (.invokestatic 50, 3) := by decide +kernel
theorem d_Pk_findLeast_40 : decode b_Pk_findLeast 40 = .ok (.ifCond .eq 35, 3) := by decide +kernel
theorem d_Pk_findLeast_43 : decode b_Pk_findLeast 43 = .ok (.aload_n 0, 1) := by decide +kernel
theorem d_Pk_findLeast_44 : decode b_Pk_findLeast 44 = .ok (.getfield 58, 3) := by decide +kernel
theorem d_Pk_findLeast_47 : decode b_Pk_findLeast 47 = .ok (.iload 4, 2) := by decide +kernel
theorem d_Pk_findLeast_49 : decode b_Pk_findLeast 49 = .ok (.iconst 3, 1) := by decide +kernel
theorem d_Pk_findLeast_50 : decode b_Pk_findLeast 50 = .ok (.idiv, 1) := by decide +kernel
theorem d_Pk_findLeast_51 : decode b_Pk_findLeast 51 = .ok (.invokestatic 50, 3) := by decide +kernel
theorem d_Pk_findLeast_54 : decode b_Pk_findLeast 54 = .ok (.ifCond .eq 21, 3) := by decide +kernel
theorem d_Pk_findLeast_57 : decode b_Pk_findLeast 57 = .ok (.aload_n 0, 1) := by decide +kernel
theorem d_Pk_findLeast_58 : decode b_Pk_findLeast 58 = .ok (.aload_n 1, 1) := by decide +kernel
theorem d_Pk_findLeast_59 : decode b_Pk_findLeast 59 = .ok (.aload_n 1, 1) := by decide +kernel
theorem d_Pk_findLeast_60 : decode b_Pk_findLeast 60 = .ok (.getfield 99, 3) := by decide +kernel
theorem d_Pk_findLeast_63 : decode b_Pk_findLeast 63 = .ok (.iload_n 3, 1) := by decide +kernel
theorem d_Pk_findLeast_64 : decode b_Pk_findLeast 64 = .ok (.iaload, 1) := by decide +kernel
theorem d_Pk_findLeast_65 : decode b_Pk_findLeast 65 = .ok (.aload_n 1, 1) := by decide +kernel
theorem d_Pk_findLeast_66 : decode b_Pk_findLeast 66 = .ok (.getfield 99, 3) := by decide +kernel
theorem d_Pk_findLeast_69 : decode b_Pk_findLeast 69 = .ok (.iload 4, 2) := by decide +kernel
theorem d_Pk_findLeast_71 : decode b_Pk_findLeast 71 = .ok (.iaload, 1) := by decide +kernel
theorem d_Pk_findLeast_72 : decode b_Pk_findLeast 72 = .ok (.invokevirtual 100, 3) := by decide +kernel
theorem d_Pk_findLeast_75 : decode b_Pk_findLeast 75 = .ok (.iinc 4 1, 3) := by decide +kernel
theorem d_Pk_findLeast_78 : decode b_Pk_findLeast 78 = .ok (.goto (-54), 3) := by decide +kernel
theorem d_Pk_findLeast_81 : decode b_Pk_findLeast 81 = .ok (.iinc 3 1, 3) := by decide +kernel
theorem d_Pk_findLeast_84 : decode b_Pk_findLeast 84 = .ok (.goto (-68), 3) := by decide +kernel
theorem d_Pk_findLeast_87 : decode b_Pk_findLeast 87 = .ok (.return_, 1) := by decide +kernel
theorem d_Pk_tryWithin_0 : decode b_Pk_tryWithin 0 = .ok (.aload_n 0, 1) := by decide +kernel
theorem d_Pk_tryWithin_1 : decode b_Pk_tryWithin 1 = .ok (.getfield 61, 3) := by decide +kernel
theorem d_Pk_tryWithin_4 : decode b_Pk_tryWithin 4 = .ok (.istore 4, 2) := by decide +kernel
theorem d_Pk_tryWithin_6 : decode b_Pk_tryWithin 6 = .ok (.iconst 0, 1) := by decide +kernel
theorem d_Pk_tryWithin_7 : decode b_Pk_tryWithin 7 = .ok (.istore 5, 2) := by decide +kernel
theorem d_Pk_tryWithin_9 : decode b_Pk_tryWithin 9 = .ok (.iload 5, 2) := by decide +kernel
theorem d_Pk_tryWithin_11 : decode b_Pk_tryWithin 11 = .ok (.bipush 6, 2) := by decide +kernel
theorem d_Pk_tryWithin_13 : decode b_Pk_tryWithin 13 = .ok (.if_icmp .ge 74, 3) := by decide +kernel
theorem d_Pk_tryWithin_16 : decode b_Pk_tryWithin 16 = .ok (.aload_n 0, 1) := by decide +kernel
theorem d_Pk_tryWithin_17 : decode b_Pk_tryWithin 17 = .ok (.getfield 21, 3) := by decide +kernel
theorem d_Pk_tryWithin_20 : decode b_Pk_tryWithin 20 = .ok (.iload 5, 2) := by decide +kernel
theorem d_Pk_tryWithin_22 : decode b_Pk_tryWithin 22 = .ok (.iconst (-1), 1) := by decide +kernel
theorem d_Pk_tryWithin_23 : decode b_Pk_tryWithin 23 = .ok (.iastore, 1) := by decide +kernel
theorem d_Pk_tryWithin_24 : decode b_Pk_tryWithin 24 = .ok (.aload_n 0, 1) := by decide +kernel
theorem d_Pk_tryWithin_25 : decode b_Pk_tryWithin 25 = .ok (.getfield 58, 3) := by decide +kernel
theorem d_Pk_tryWithin_28 : decode b_Pk_tryWithin 28 = .ok (.iload 5, 2) := by decide +kernel
theorem d_Pk_tryWithin_30 : decode b_Pk_tryWithin 30 = .ok (.invokestatic 50, 3) := by decide +kernel
theorem d_Pk_tryWithin_33 : decode b_Pk_tryWithin 33 = .ok (.ifCond .eq 48, 3) := by decide +kernel
theorem d_Pk_tryWithin_36 : decode b_Pk_tryWithin 36 = .ok (.aload_n 1, 1) := by decide +kernel
theorem d_Pk_tryWithin_37 : decode b_Pk_tryWithin 37 = .ok (.iload 5, 2) := by decide +kernel
theorem d_Pk_tryWithin_39 : decode b_Pk_tryWithin 39 = .ok (.iload_n 2, 1) := by decide +kernel
theorem d_Pk_tryWithin_40 : decode b_Pk_tryWithin 40 = .ok (.iload_n 3, 1) := by decide +kernel
theorem d_Pk_tryWithin_41 : decode b_Pk_tryWithin 41 = .ok (.invokevirtual 104, 3) := by decide +kernel
theorem d_Pk_tryWithin_44 : decode b_Pk_tryWithin 44 = .ok (.istore 6, 2) := by decide +kernel
theorem d_Pk_tryWithin_46 : decode b_Pk_tryWithin 46 = .ok (.iload 6, 2) := by decide +kernel
theorem d_Pk_tryWithin_48 : decode b_Pk_tryWithin 48 = .ok (.iconst (-1), 1) := by decide +kernel
theorem d_Pk_tryWithin_49 : decode b_Pk_tryWithin 49 = .ok (.if_icmp .ne 4, 3) := by decide +kernel
theorem d_Pk_tryWithin_52 : decode b_Pk_tryWithin 52 = .ok (.return_, 1) := by decide +kernel
theorem d_Pk_tryWithin_53 : decode b_Pk_tryWithin 53 = .ok (.aload_n 0, 1) := by decide +kernel
theorem d_Pk_tryWithin_54 : decode b_Pk_tryWithin 54 = .ok (.getfield 21, 3) := by decide +kernel
theorem d_Pk_tryWithin_57 : decode b_Pk_tryWithin 57 = .ok (.iload 5, 2) := by decide +kernel
theorem d_Pk_tryWithin_59 : decode b_Pk_tryWithin 59 = .ok (.iload 6, 2) := by decide +kernel
theorem d_Pk_tryWithin_61 : decode b_Pk_tryWithin 61 = .ok (.iastore, 1) := by decide +kernel
theorem d_Pk_tryWithin_62 : decode b_Pk_tryWithin 62 = .ok (.iload 4, 2) := by decide +kernel
theorem d_Pk_tryWithin_64 : decode b_Pk_tryWithin 64 = .ok (.aload_n 1, 1) := by decide +kernel
theorem d_Pk_tryWithin_65 : decode b_Pk_tryWithin 65 = .ok (.iload 5, 2) := by decide +kernel
theorem d_Pk_tryWithin_67 : decode b_Pk_tryWithin 67 = .ok (.iload 6, 2) := by decide +kernel
theorem d_Pk_tryWithin_69 : decode b_Pk_tryWithin 69 = .ok (.iconst 0, 1) := by decide +kernel
theorem d_Pk_tryWithin_70 : decode b_Pk_tryWithin 70 = .ok (.invokevirtual 108, 3) := by decide +kernel
theorem d_Pk_tryWithin_73 : decode b_Pk_tryWithin 73 = .ok (.aload_n 0, 1) := by decide +kernel
theorem d_Pk_tryWithin_74 : decode b_Pk_tryWithin 74 = .ok (.getfield 61, 3) := by decide +kernel
theorem d_Pk_tryWithin_77 : decode b_Pk_tryWithin 77 = .ok (.iadd, 1) := by decide +kernel
theorem d_Pk_tryWithin_78 : decode b_Pk_tryWithin 78 = .ok (.iadd, 1) := by decide +kernel
theorem d_Pk_tryWithin_79 : decode b_Pk_tryWithin 79 = .ok (.istore 4, 2) := by decide +kernel
theorem d_Pk_tryWithin_81 : decode b_Pk_tryWithin 81 = .ok (.iinc 5 1, 3) := by decide +kernel
theorem d_Pk_tryWithin_84 : decode b_Pk_tryWithin 84 = .ok (.goto (-75), 3) := by decide +kernel
theorem d_Pk_tryWithin_87 : decode b_Pk_tryWithin 87 = .ok (.iload 4, 2) := by decide +kernel
theorem d_Pk_tryWithin_89 : decode b_Pk_tryWithin 89 = .ok (.i2l, 1) := by decide +kernel
theorem d_Pk_tryWithin_90 : decode b_Pk_tryWithin 90 = .ok (.iload_n 2, 1) := by decide +kernel
theorem d_Pk_tryWithin_91 : decode b_Pk_tryWithin 91 = .ok (.iconst 2, 1) := by decide +kernel
theorem d_Pk_tryWithin_92 : decode b_Pk_tryWithin 92 = .ok (.aload_n 0, 1) := by decide +kernel
theorem d_Pk_tryWithin_93 : decode b_Pk_tryWithin 93 = .ok (.getfield 61, 3) := by decide +kernel
theorem d_Pk_tryWithin_96 : decode b_Pk_tryWithin 96 = .ok (.imul, 1) := by decide +kernel
theorem d_Pk_tryWithin_97 : decode b_Pk_tryWithin 97 = .ok (.iadd, 1) := by decide +kernel
theorem d_Pk_tryWithin_98 : decode b_Pk_tryWithin 98 = .ok (.i2l, 1) := by decide +kernel
theorem d_Pk_tryWithin_99 : decode b_Pk_tryWithin 99 = .ok (.lmul, 1) := by decide +kernel
theorem d_Pk_tryWithin_100 : decode b_Pk_tryWithin 100 = .ok (.iload_n 3, 1) := by decide +kernel
theorem d_Pk_tryWithin_101 : decode b_Pk_tryWithin 101 = .ok (.iconst 2, 1) := by decide +kernel
theorem d_Pk_tryWithin_102 : decode b_Pk_tryWithin 102 = .ok (.aload_n 0, 1) := by decide +kernel
theorem d_Pk_tryWithin_103 : decode b_Pk_tryWithin 103 = .ok (.getfield 61, 3) := by decide +kernel
theorem d_Pk_tryWithin_106 : decode b_Pk_tryWithin 106 = .ok (.imul, 1) := by decide +kernel
theorem d_Pk_tryWithin_107 : decode b_Pk_tryWithin 107 = .ok (.iadd, 1) := by decide +kernel
theorem d_Pk_tryWithin_108 : decode b_Pk_tryWithin 108 = .ok (.i2l, 1) := by decide +kernel
theorem d_Pk_tryWithin_109 : decode b_Pk_tryWithin 109 = .ok (.lmul, 1) := by decide +kernel
theorem d_Pk_tryWithin_110 : decode b_Pk_tryWithin 110 = .ok (.lstore 5, 2) := by decide +kernel
theorem d_Pk_tryWithin_112 : decode b_Pk_tryWithin 112 = .ok (.lload 5, 2) := by decide +kernel
theorem d_Pk_tryWithin_114 : decode b_Pk_tryWithin 114 = .ok (.aload_n 0, 1) := by decide +kernel
theorem d_Pk_tryWithin_115 : decode b_Pk_tryWithin 115 = .ok (.getfield 95, 3) := by decide +kernel
theorem d_Pk_tryWithin_118 : decode b_Pk_tryWithin 118 = .ok (.lcmp, 1) := by decide +kernel
theorem d_Pk_tryWithin_119 : decode b_Pk_tryWithin 119 = .ok (.ifCond .lt 20, 3) := by decide +kernel
theorem d_Pk_tryWithin_122 : decode b_Pk_tryWithin 122 = .ok (.lload 5, 2) := by decide +kernel
theorem d_Pk_tryWithin_124 : decode b_Pk_tryWithin 124 = .ok (.aload_n 0, 1) := by decide +kernel
theorem d_Pk_tryWithin_125 : decode b_Pk_tryWithin 125 = .ok (.getfield 95, 3) := by decide +kernel
theorem d_Pk_tryWithin_128 : decode b_Pk_tryWithin 128 = .ok (.lcmp, 1) := by decide +kernel
theorem d_Pk_tryWithin_129 : decode b_Pk_tryWithin 129 = .ok (.ifCond .ne 38, 3) := by decide +kernel
theorem d_Pk_tryWithin_132 : decode b_Pk_tryWithin 132 = .ok (.aload_n 0, 1) := by decide +kernel
theorem d_Pk_tryWithin_133 : decode b_Pk_tryWithin 133 = .ok (.invokevirtual 111, 3) := by decide +kernel
theorem d_Pk_tryWithin_136 : decode b_Pk_tryWithin 136 = .ok (.ifCond .eq 31, 3) := by decide +kernel
theorem d_Pk_tryWithin_139 : decode b_Pk_tryWithin 139 = .ok (.aload_n 0, 1) := by decide +kernel
theorem d_Pk_tryWithin_140 : decode b_Pk_tryWithin 140 = .ok (.lload 5, 2) := by decide +kernel
theorem d_Pk_tryWithin_142 : decode b_Pk_tryWithin 142 = .ok (.putfield 95, 3) := by decide +kernel
theorem d_Pk_tryWithin_145 : decode b_Pk_tryWithin 145 = .ok (.aload_n 0, 1) := by decide +kernel
theorem d_Pk_tryWithin_146 : decode b_Pk_tryWithin 146 = .ok (.iload 4, 2) := by decide +kernel
theorem d_Pk_tryWithin_148 : decode b_Pk_tryWithin 148 = .ok (.iload_n 2, 1) := by decide +kernel
theorem d_Pk_tryWithin_149 : decode b_Pk_tryWithin 149 = .ok (.iconst 2, 1) := by decide +kernel
theorem d_Pk_tryWithin_150 : decode b_Pk_tryWithin 150 = .ok (.aload_n 0, 1) := by decide +kernel
theorem d_Pk_tryWithin_151 : decode b_Pk_tryWithin 151 = .ok (.getfield 61, 3) := by decide +kernel
theorem d_Pk_tryWithin_154 : decode b_Pk_tryWithin 154 = .ok (.imul, 1) := by decide +kernel
theorem d_Pk_tryWithin_155 : decode b_Pk_tryWithin 155 = .ok (.iadd, 1) := by decide +kernel
