theorem dX_init_0 : decode bX_init 0 = .ok (.aload_n 0, 1) := by decide +kernel
theorem dX_init_1 : decode bX_init 1 = .ok (.invokespecial 1, 3) := by decide +kernel
theorem dX_init_4 : decode bX_init 4 = .ok (.aload_n 0, 1) := by decide +kernel
theorem dX_init_5 : decode bX_init 5 = .ok (.iconst 0, 1) := by decide +kernel
theorem dX_init_6 : decode bX_init 6 = .ok (.putfield 7, 3) := by decide +kernel
theorem dX_init_9 : decode bX_init 9 = .ok (.aload_n 0, 1) := by decide +kernel
theorem dX_init_10 : decode bX_init 10 = .ok (.iconst 1, 1) := by decide +kernel
theorem dX_init_11 : decode bX_init 11 = .ok (.putfield 13, 3) := by decide +kernel
theorem dX_init_14 : decode bX_init 14 = .ok (.aload_n 0, 1) := by decide +kernel
theorem dX_init_15 : decode bX_init 15 = .ok (.iconst 0, 1) := by decide +kernel
theorem dX_init_16 : decode bX_init 16 = .ok (.putfield 16, 3) := by decide +kernel
theorem dX_init_19 : decode bX_init 19 = .ok (.aload_n 0, 1) := by decide +kernel
theorem dX_init_20 : decode bX_init 20 = .ok (.bipush 8, 2) := by decide +kernel
theorem dX_init_22 : decode bX_init 22 = .ok (.newarray .int, 2) := by decide +kernel
theorem dX_init_24 : decode bX_init 24 = .ok (.putfield 19, 3) := by decide +kernel
theorem dX_init_27 : decode bX_init 27 = .ok (.aload_n 0, 1) := by decide +kernel
theorem dX_init_28 : decode bX_init 28 = .ok (.bipush 8, 2) := by decide +kernel
theorem dX_init_30 : decode bX_init 30 = .ok (.newarray .long, 2) := by decide +kernel
theorem dX_init_32 : decode bX_init 32 = .ok (.putfield 23, 3) := by decide +kernel
theorem dX_init_35 : decode bX_init 35 = .ok (.aload_n 0, 1) := by decide +kernel
theorem dX_init_36 : decode bX_init 36 = .ok (.sipush 1000, 3) := by decide +kernel
theorem dX_init_39 : decode bX_init 39 = .ok (.newarray .int, 2) := by decide +kernel
theorem dX_init_41 : decode bX_init 41 = .ok (.putfield 27, 3) := by decide +kernel
theorem dX_init_44 : decode bX_init 44 = .ok (.aload_n 0, 1) := by decide +kernel
theorem dX_init_45 : decode bX_init 45 = .ok (.sipush 8000, 3) := by decide +kernel
theorem dX_init_48 : decode bX_init 48 = .ok (.newarray .int, 2) := by decide +kernel
theorem dX_init_50 : decode bX_init 50 = .ok (.putfield 30, 3) := by decide +kernel
theorem dX_init_53 : decode bX_init 53 = .ok (.aload_n 0, 1) := by decide +kernel
theorem dX_init_54 : decode bX_init 54 = .ok (.sipush 1000, 3) := by decide +kernel
theorem dX_init_57 : decode bX_init 57 = .ok (.newarray .long, 2) := by decide +kernel
theorem dX_init_59 : decode bX_init 59 = .ok (.putfield 33, 3) := by decide +kernel
theorem dX_init_62 : decode bX_init 62 = .ok (.aload_n 0, 1) := by decide +kernel
theorem dX_init_63 : decode bX_init 63 = .ok (.sipush 8000, 3) := by decide +kernel
theorem dX_init_66 : decode bX_init 66 = .ok (.newarray .long, 2) := by decide +kernel
theorem dX_init_68 : decode bX_init 68 = .ok (.putfield 36, 3) := by decide +kernel
theorem dX_init_71 : decode bX_init 71 = .ok (.aload_n 0, 1) := by decide +kernel
theorem dX_init_72 : decode bX_init 72 = .ok (.sipush 8000, 3) := by decide +kernel
theorem dX_init_75 : decode bX_init 75 = .ok (.newarray .long, 2) := by decide +kernel
theorem dX_init_77 : decode bX_init 77 = .ok (.putfield 39, 3) := by decide +kernel
theorem dX_init_80 : decode bX_init 80 = .ok (.aload_n 0, 1) := by decide +kernel
theorem dX_init_81 : decode bX_init 81 = .ok (.sipush 8000, 3) := by decide +kernel
theorem dX_init_84 : decode bX_init 84 = .ok (.newarray .long, 2) := by decide +kernel
theorem dX_init_86 : decode bX_init 86 = .ok (.putfield 42, 3) := by decide +kernel
theorem dX_init_89 : decode bX_init 89 = .ok (.iconst 0, 1) := by decide +kernel
theorem dX_init_90 : decode bX_init 90 = .ok (.istore_n 1, 1) := by decide +kernel
theorem dX_init_91 : decode bX_init 91 = .ok (.iload_n 1, 1) := by decide +kernel
theorem dX_init_92 : decode bX_init 92 = .ok (.sipush 1000, 3) := by decide +kernel
theorem dX_init_95 : decode bX_init 95 = .ok (.if_icmp .ge 16, 3) := by decide +kernel
theorem dX_init_98 : decode bX_init 98 = .ok (.aload_n 0, 1) := by decide +kernel
theorem dX_init_99 : decode bX_init 99 = .ok (.getfield 27, 3) := by decide +kernel
theorem dX_init_102 : decode bX_init 102 = .ok (.iload_n 1, 1) := by decide +kernel
theorem dX_init_103 : decode bX_init 103 = .ok (.iload_n 1, 1) := by decide +kernel
theorem dX_init_104 : decode bX_init 104 = .ok (.iastore, 1) := by decide +kernel
theorem dX_init_105 : decode bX_init 105 = .ok (.iinc 1 1, 3) := by decide +kernel
theorem dX_init_108 : decode bX_init 108 = .ok (.goto (-17), 3) := by decide +kernel
theorem dX_init_111 : decode bX_init 111 = .ok (.return_, 1) := by decide +kernel
theorem dX_rows_0 : decode bX_rows 0 = .ok (.aload_n 0, 1) := by decide +kernel
theorem dX_rows_1 : decode bX_rows 1 = .ok (.getfield 16, 3) := by decide +kernel
theorem dX_rows_4 : decode bX_rows 4 = .ok (.ireturn, 1) := by decide +kernel
theorem dX_find_0 : decode bX_find 0 = .ok (.aload_n 0, 1) := by decide +kernel
theorem dX_find_1 : decode bX_find 1 = .ok (.aload_n 0, 1) := by decide +kernel
theorem dX_find_2 : decode bX_find 2 = .ok (.getfield 19, 3) := by decide +kernel
theorem dX_find_5 : decode bX_find 5 = .ok (.iconst 0, 1) := by decide +kernel
theorem dX_find_6 : decode bX_find 6 = .ok (.aload_n 0, 1) := by decide +kernel
theorem dX_find_7 : decode bX_find 7 = .ok (.getfield 16, 3) := by decide +kernel
theorem dX_find_10 : decode bX_find 10 = .ok (.invokevirtual 91, 3) := by decide +kernel
theorem dX_find_13 : decode bX_find 13 = .ok (.istore_n 1, 1) := by decide +kernel
theorem dX_find_14 : decode bX_find 14 = .ok (.aload_n 0, 1) := by decide +kernel
theorem dX_find_15 : decode bX_find 15 = .ok (.iload_n 1, 1) := by decide +kernel
theorem dX_find_16 : decode bX_find 16 = .ok (.aload_n 0, 1) := by decide +kernel
theorem dX_find_17 : decode bX_find 17 = .ok (.getfield 19, 3) := by decide +kernel
theorem dX_find_20 : decode bX_find 20 = .ok (.iconst 0, 1) := by decide +kernel
theorem dX_find_21 : decode bX_find 21 = .ok (.aload_n 0, 1) := by decide +kernel
theorem dX_find_22 : decode bX_find 22 = .ok (.getfield 16, 3) := by decide +kernel
theorem dX_find_25 : decode bX_find 25 = .ok (.invokevirtual 95, 3) := by decide +kernel
theorem dX_find_28 : decode bX_find 28 = .ok (.ifCond .eq 7, 3) := by decide +kernel
theorem dX_find_31 : decode bX_find 31 = .ok (.iload_n 1, 1) := by decide +kernel
theorem dX_find_32 : decode bX_find 32 = .ok (.goto 4, 3) := by decide +kernel
theorem dX_find_35 : decode bX_find 35 = .ok (.iconst (-1), 1) := by decide +kernel
theorem dX_find_36 : decode bX_find 36 = .ok (.ireturn, 1) := by decide +kernel
theorem dX_lowerPlace_0 : decode bX_lowerPlace 0 = .ok (.iconst 0, 1) := by decide +kernel
theorem dX_lowerPlace_1 : decode bX_lowerPlace 1 = .ok (.istore 4, 2) := by decide +kernel
theorem dX_lowerPlace_3 : decode bX_lowerPlace 3 = .ok (.sipush 512, 3) := by decide +kernel
theorem dX_lowerPlace_6 : decode bX_lowerPlace 6 = .ok (.istore 5, 2) := by decide +kernel
theorem dX_lowerPlace_8 : decode bX_lowerPlace 8 = .ok (.iload 5, 2) := by decide +kernel
theorem dX_lowerPlace_10 : decode bX_lowerPlace 10 = .ok (.ifCond .le 47, 3) := by decide +kernel
theorem dX_lowerPlace_13 : decode bX_lowerPlace 13 = .ok (.iload 4, 2) := by decide +kernel
theorem dX_lowerPlace_15 : decode bX_lowerPlace 15 = .ok (.iload 5, 2) := by decide +kernel
theorem dX_lowerPlace_17 : decode bX_lowerPlace 17 = .ok (.iadd, 1) := by decide +kernel
theorem dX_lowerPlace_18 : decode bX_lowerPlace 18 = .ok (.istore 6, 2) := by decide +kernel
theorem dX_lowerPlace_20 : decode bX_lowerPlace 20 = .ok (.iload 6, 2) := by decide +kernel
theorem dX_lowerPlace_22 : decode bX_lowerPlace 22 = .ok (.iload_n 3, 1) := by decide +kernel
theorem dX_lowerPlace_23 : decode bX_lowerPlace 23 = .ok (.if_icmp .gt 25, 3) := by decide +kernel
theorem dX_lowerPlace_26 : decode bX_lowerPlace 26 = .ok (.aload_n 0, 1) := by decide +kernel
theorem dX_lowerPlace_27 : decode bX_lowerPlace 27 = .ok (.aload_n 0, 1) := by decide +kernel
theorem dX_lowerPlace_28 : decode bX_lowerPlace 28 = .ok (.getfield 27, 3) := by decide +kernel
theorem dX_lowerPlace_31 : decode bX_lowerPlace 31 = .ok (.iload 6, 2) := by decide +kernel
theorem dX_lowerPlace_33 : decode bX_lowerPlace 33 = .ok (.iconst 1, 1) := by decide +kernel
theorem dX_lowerPlace_34 : decode bX_lowerPlace 34 = .ok (.isub, 1) := by decide +kernel
theorem dX_lowerPlace_35 : decode bX_lowerPlace 35 = .ok (.iaload, 1) := by decide +kernel
theorem dX_lowerPlace_36 : decode bX_lowerPlace 36 = .ok (.aload_n 1, 1) := by decide +kernel
theorem dX_lowerPlace_37 : decode bX_lowerPlace 37 = .ok (.iload_n 2, 1) := by decide +kernel
theorem dX_lowerPlace_38 : decode bX_lowerPlace 38 = .ok (.invokevirtual 135, 3) := by decide +kernel
theorem dX_lowerPlace_41 : decode bX_lowerPlace 41 = .ok (.ifCond .ge 7, 3) := by decide +kernel
theorem dX_lowerPlace_44 : decode bX_lowerPlace 44 = .ok (.iload 6, 2) := by decide +kernel
theorem dX_lowerPlace_46 : decode bX_lowerPlace 46 = .ok (.istore 4, 2) := by decide +kernel
theorem dX_lowerPlace_48 : decode bX_lowerPlace 48 = .ok (.iload 5, 2) := by decide +kernel
theorem dX_lowerPlace_50 : decode bX_lowerPlace 50 = .ok (.iconst 2, 1) := by decide +kernel
theorem dX_lowerPlace_51 : decode bX_lowerPlace 51 = .ok (.idiv, 1) := by decide +kernel
theorem dX_lowerPlace_52 : decode bX_lowerPlace 52 = .ok (.istore 5, 2) := by decide +kernel
theorem dX_lowerPlace_54 : decode bX_lowerPlace 54 = .ok (.goto (-46), 3) := by decide +kernel
theorem dX_lowerPlace_57 : decode bX_lowerPlace 57 = .ok (.iload 4, 2) := by decide +kernel
theorem dX_lowerPlace_59 : decode bX_lowerPlace 59 = .ok (.ireturn, 1) := by decide +kernel
theorem dX_compareKey_0 : decode bX_compareKey 0 = .ok (.iload_n 1, 1) := by decide +kernel
theorem dX_compareKey_1 : decode bX_compareKey 1 = .ok (.bipush 8, 2) := by decide +kernel
theorem dX_compareKey_3 : decode bX_compareKey 3 = .ok (.imul, 1) := by decide +kernel
theorem dX_compareKey_4 : decode bX_compareKey 4 = .ok (.istore 4, 2) := by decide +kernel
theorem dX_compareKey_6 : decode bX_compareKey 6 = .ok (.iconst 0, 1) := by decide +kernel
theorem dX_compareKey_7 : decode bX_compareKey 7 = .ok (.istore 5, 2) := by decide +kernel
theorem dX_compareKey_9 : decode bX_compareKey 9 = .ok (.iload 5, 2) := by decide +kernel
theorem dX_compareKey_11 : decode bX_compareKey 11 = .ok (.aload_n 0, 1) := by decide +kernel
theorem dX_compareKey_12 : decode bX_compareKey 12 = .ok (.getfield 7, 3) := by decide +kernel
theorem dX_compareKey_15 : decode bX_compareKey 15 = .ok (.if_icmp .ge 38, 3) := by decide +kernel
theorem dX_compareKey_18 : decode bX_compareKey 18 = .ok (.aload_n 0, 1) := by decide +kernel
theorem dX_compareKey_19 : decode bX_compareKey 19 = .ok (.getfield 30, 3) := by decide +kernel
theorem dX_compareKey_22 : decode bX_compareKey 22 = .ok (.iload 4, 2) := by decide +kernel
theorem dX_compareKey_24 : decode bX_compareKey 24 = .ok (.iload 5, 2) := by decide +kernel
theorem dX_compareKey_26 : decode bX_compareKey 26 = .ok (.iadd, 1) := by decide +kernel
theorem dX_compareKey_27 : decode bX_compareKey 27 = .ok (.iaload, 1) := by decide +kernel
theorem dX_compareKey_28 : decode bX_compareKey 28 = .ok (.aload_n 2, 1) := by decide +kernel
theorem dX_compareKey_29 : decode bX_compareKey 29 = .ok (.iload_n 3, 1) := by decide +kernel
theorem dX_compareKey_30 : decode bX_compareKey 30 = .ok (.iload 5, 2) := by decide +kernel
theorem dX_compareKey_32 : decode bX_compareKey 32 = .ok (.iadd, 1) := by decide +kernel
theorem dX_compareKey_33 : decode bX_compareKey 33 = .ok (.iaload, 1) := by decide +kernel
theorem dX_compareKey_34 : decode bX_compareKey 34 = .ok (.invokestatic 139, 3) := by decide +kernel
theorem dX_compareKey_37 : decode bX_compareKey 37 = .ok (.istore 6, 2) := by decide +kernel
theorem dX_compareKey_39 : decode bX_compareKey 39 = .ok (.iload 6, 2) := by decide +kernel
theorem dX_compareKey_41 : decode bX_compareKey 41 = .ok (.ifCond .eq 6, 3) := by decide +kernel
theorem dX_compareKey_44 : decode bX_compareKey 44 = .ok (.iload 6, 2) := by decide +kernel
theorem dX_compareKey_46 : decode bX_compareKey 46 = .ok (.ireturn, 1) := by decide +kernel
theorem dX_compareKey_47 : decode bX_compareKey 47 = .ok (.iinc 5 1, 3) := by decide +kernel
theorem dX_compareKey_50 : decode bX_compareKey 50 = .ok (.goto (-41), 3) := by decide +kernel
theorem dX_compareKey_53 : decode bX_compareKey 53 = .ok (.iconst 0, 1) := by decide +kernel
theorem dX_compareKey_54 : decode bX_compareKey 54 = .ok (.ireturn, 1) := by decide +kernel
theorem dX_isKeyAt_0 : decode bX_isKeyAt 0 = .ok (.iload_n 1, 1) := by decide +kernel
theorem dX_isKeyAt_1 : decode bX_isKeyAt 1 = .ok (.iload 4, 2) := by decide +kernel
theorem dX_isKeyAt_3 : decode bX_isKeyAt 3 = .ok (.if_icmp .ge 22, 3) := by decide +kernel
theorem dX_isKeyAt_6 : decode bX_isKeyAt 6 = .ok (.aload_n 0, 1) := by decide +kernel
theorem dX_isKeyAt_7 : decode bX_isKeyAt 7 = .ok (.aload_n 0, 1) := by decide +kernel
theorem dX_isKeyAt_8 : decode bX_isKeyAt 8 = .ok (.getfield 27, 3) := by decide +kernel
theorem dX_isKeyAt_11 : decode bX_isKeyAt 11 = .ok (.iload_n 1, 1) := by decide +kernel
theorem dX_isKeyAt_12 : decode bX_isKeyAt 12 = .ok (.iaload, 1) := by decide +kernel
theorem dX_isKeyAt_13 : decode bX_isKeyAt 13 = .ok (.aload_n 2, 1) := by decide +kernel
theorem dX_isKeyAt_14 : decode bX_isKeyAt 14 = .ok (.iload_n 3, 1) := by decide +kernel
theorem dX_isKeyAt_15 : decode bX_isKeyAt 15 = .ok (.invokevirtual 135, 3) := by decide +kernel
theorem dX_isKeyAt_18 : decode bX_isKeyAt 18 = .ok (.ifCond .ne 7, 3) := by decide +kernel
theorem dX_isKeyAt_21 : decode bX_isKeyAt 21 = .ok (.iconst 1, 1) := by decide +kernel
theorem dX_isKeyAt_22 : decode bX_isKeyAt 22 = .ok (.goto 4, 3) := by decide +kernel
theorem dX_isKeyAt_25 : decode bX_isKeyAt 25 = .ok (.iconst 0, 1) := by decide +kernel
theorem dX_isKeyAt_26 : decode bX_isKeyAt 26 = .ok (.ireturn, 1) := by decide +kernel
theorem dX_begin_0 : decode bX_begin 0 = .ok (.iload_n 1, 1) := by decide +kernel
theorem dX_begin_1 : decode bX_begin 1 = .ok (.ifCond .lt 9, 3) := by decide +kernel
theorem dX_begin_4 : decode bX_begin 4 = .ok (.iload_n 1, 1) := by decide +kernel
theorem dX_begin_5 : decode bX_begin 5 = .ok (.bipush 8, 2) := by decide +kernel
theorem dX_begin_7 : decode bX_begin 7 = .ok (.if_icmp .le 13, 3) := by decide +kernel
theorem dX_begin_10 : decode bX_begin 10 = .ok (.new 45, 3) := by decide +kernel
theorem dX_begin_13 : decode bX_begin 13 = .ok (.dup, 1) := by decide +kernel
theorem dX_begin_14 : decode bX_begin 14 = .ok (.ldc 47, 2) := by decide +kernel
theorem dX_begin_16 : decode bX_begin 16 = .ok (.invokespecial 49, 3) := by decide +kernel
theorem dX_begin_19 : decode bX_begin 19 = .ok (.athrow, 1) := by decide +kernel
theorem dX_begin_20 : decode bX_begin 20 = .ok (.iload_n 2, 1) := by decide +kernel
theorem dX_begin_21 : decode bX_begin 21 = .ok (.iconst 1, 1) := by decide +kernel
theorem dX_begin_22 : decode bX_begin 22 = .ok (.if_icmp .lt 9, 3) := by decide +kernel
theorem dX_begin_25 : decode bX_begin 25 = .ok (.iload_n 2, 1) := by decide +kernel
theorem dX_begin_26 : decode bX_begin 26 = .ok (.bipush 8, 2) := by decide +kernel
theorem dX_begin_28 : decode bX_begin 28 = .ok (.if_icmp .le 13, 3) := by decide +kernel
theorem dX_begin_31 : decode bX_begin 31 = .ok (.new 45, 3) := by decide +kernel
theorem dX_begin_34 : decode bX_begin 34 = .ok (.dup, 1) := by decide +kernel
theorem dX_begin_35 : decode bX_begin 35 = .ok (.ldc 52, 2) := by decide +kernel
theorem dX_begin_37 : decode bX_begin 37 = .ok (.invokespecial 49, 3) := by decide +kernel
theorem dX_begin_40 : decode bX_begin 40 = .ok (.athrow, 1) := by decide +kernel
theorem dX_begin_41 : decode bX_begin 41 = .ok (.aload_n 0, 1) := by decide +kernel
theorem dX_begin_42 : decode bX_begin 42 = .ok (.iload_n 1, 1) := by decide +kernel
theorem dX_begin_43 : decode bX_begin 43 = .ok (.putfield 7, 3) := by decide +kernel
theorem dX_begin_46 : decode bX_begin 46 = .ok (.aload_n 0, 1) := by decide +kernel
theorem dX_begin_47 : decode bX_begin 47 = .ok (.iload_n 2, 1) := by decide +kernel
theorem dX_begin_48 : decode bX_begin 48 = .ok (.putfield 13, 3) := by decide +kernel
theorem dX_begin_51 : decode bX_begin 51 = .ok (.aload_n 0, 1) := by decide +kernel
theorem dX_begin_52 : decode bX_begin 52 = .ok (.iconst 0, 1) := by decide +kernel
theorem dX_begin_53 : decode bX_begin 53 = .ok (.putfield 16, 3) := by decide +kernel
theorem dX_begin_56 : decode bX_begin 56 = .ok (.aload_n 0, 1) := by decide +kernel
theorem dX_begin_57 : decode bX_begin 57 = .ok (.getfield 19, 3) := by decide +kernel
theorem dX_begin_60 : decode bX_begin 60 = .ok (.iconst 0, 1) := by decide +kernel
theorem dX_begin_61 : decode bX_begin 61 = .ok (.invokestatic 54, 3) := by decide +kernel
theorem dX_begin_64 : decode bX_begin 64 = .ok (.aload_n 0, 1) := by decide +kernel
theorem dX_begin_65 : decode bX_begin 65 = .ok (.getfield 23, 3) := by decide +kernel
theorem dX_begin_68 : decode bX_begin 68 = .ok (.lconst 0, 1) := by decide +kernel
theorem dX_begin_69 : decode bX_begin 69 = .ok (.invokestatic 60, 3) := by decide +kernel
theorem dX_begin_72 : decode bX_begin 72 = .ok (.return_, 1) := by decide +kernel
theorem dX_key_0 : decode bX_key 0 = .ok (.aload_n 0, 1) := by decide +kernel
theorem dX_key_1 : decode bX_key 1 = .ok (.iload_n 1, 1) := by decide +kernel
theorem dX_key_2 : decode bX_key 2 = .ok (.invokevirtual 63, 3) := by decide +kernel
theorem dX_key_5 : decode bX_key 5 = .ok (.ifCond .ne 13, 3) := by decide +kernel
theorem dX_key_8 : decode bX_key 8 = .ok (.new 45, 3) := by decide +kernel
theorem dX_key_11 : decode bX_key 11 = .ok (.dup, 1) := by decide +kernel
theorem dX_key_12 : decode bX_key 12 = .ok (.ldc 67, 2) := by decide +kernel
theorem dX_key_14 : decode bX_key 14 = .ok (.invokespecial 49, 3) := by decide +kernel
theorem dX_key_17 : decode bX_key 17 = .ok (.athrow, 1) := by decide +kernel
theorem dX_key_18 : decode bX_key 18 = .ok (.aload_n 0, 1) := by decide +kernel
theorem dX_key_19 : decode bX_key 19 = .ok (.getfield 19, 3) := by decide +kernel
theorem dX_key_22 : decode bX_key 22 = .ok (.iload_n 1, 1) := by decide +kernel
theorem dX_key_23 : decode bX_key 23 = .ok (.iaload, 1) := by decide +kernel
theorem dX_key_24 : decode bX_key 24 = .ok (.istore_n 3, 1) := by decide +kernel
theorem dX_key_25 : decode bX_key 25 = .ok (.aload_n 0, 1) := by decide +kernel
theorem dX_key_26 : decode bX_key 26 = .ok (.getfield 19, 3) := by decide +kernel
theorem dX_key_29 : decode bX_key 29 = .ok (.iload_n 1, 1) := by decide +kernel
theorem dX_key_30 : decode bX_key 30 = .ok (.iload_n 2, 1) := by decide +kernel
theorem dX_key_31 : decode bX_key 31 = .ok (.iastore, 1) := by decide +kernel
theorem dX_key_32 : decode bX_key 32 = .ok (.iload_n 3, 1) := by decide +kernel
theorem dX_key_33 : decode bX_key 33 = .ok (.ireturn, 1) := by decide +kernel
theorem dX_isPart_0 : decode bX_isPart 0 = .ok (.iload_n 1, 1) := by decide +kernel
theorem dX_isPart_1 : decode bX_isPart 1 = .ok (.ifCond .lt 15, 3) := by decide +kernel
theorem dX_isPart_4 : decode bX_isPart 4 = .ok (.iload_n 1, 1) := by decide +kernel
theorem dX_isPart_5 : decode bX_isPart 5 = .ok (.aload_n 0, 1) := by decide +kernel
theorem dX_isPart_6 : decode bX_isPart 6 = .ok (.getfield 7, 3) := by decide +kernel
theorem dX_isPart_9 : decode bX_isPart 9 = .ok (.if_icmp .ge 7, 3) := by decide +kernel
theorem dX_isPart_12 : decode bX_isPart 12 = .ok (.iconst 1, 1) := by decide +kernel
theorem dX_isPart_13 : decode bX_isPart 13 = .ok (.goto 4, 3) := by decide +kernel
theorem dX_isPart_16 : decode bX_isPart 16 = .ok (.iconst 0, 1) := by decide +kernel
theorem dX_isPart_17 : decode bX_isPart 17 = .ok (.ireturn, 1) := by decide +kernel
theorem dX_amount_0 : decode bX_amount 0 = .ok (.aload_n 0, 1) := by decide +kernel
theorem dX_amount_1 : decode bX_amount 1 = .ok (.iload_n 1, 1) := by decide +kernel
theorem dX_amount_2 : decode bX_amount 2 = .ok (.invokevirtual 69, 3) := by decide +kernel
theorem dX_amount_5 : decode bX_amount 5 = .ok (.ifCond .ne 13, 3) := by decide +kernel
theorem dX_amount_8 : decode bX_amount 8 = .ok (.new 45, 3) := by decide +kernel
theorem dX_amount_11 : decode bX_amount 11 = .ok (.dup, 1) := by decide +kernel
theorem dX_amount_12 : decode bX_amount 12 = .ok (.ldc 72, 2) := by decide +kernel
theorem dX_amount_14 : decode bX_amount 14 = .ok (.invokespecial 49, 3) := by decide +kernel
theorem dX_amount_17 : decode bX_amount 17 = .ok (.athrow, 1) := by decide +kernel
theorem dX_amount_18 : decode bX_amount 18 = .ok (.aload_n 0, 1) := by decide +kernel
theorem dX_amount_19 : decode bX_amount 19 = .ok (.getfield 23, 3) := by decide +kernel
theorem dX_amount_22 : decode bX_amount 22 = .ok (.iload_n 1, 1) := by decide +kernel
theorem dX_amount_23 : decode bX_amount 23 = .ok (.laload, 1) := by decide +kernel
theorem dX_amount_24 : decode bX_amount 24 = .ok (.lstore 4, 2) := by decide +kernel
theorem dX_amount_26 : decode bX_amount 26 = .ok (.aload_n 0, 1) := by decide +kernel
theorem dX_amount_27 : decode bX_amount 27 = .ok (.getfield 23, 3) := by decide +kernel
theorem dX_amount_30 : decode bX_amount 30 = .ok (.iload_n 1, 1) := by decide +kernel
theorem dX_amount_31 : decode bX_amount 31 = .ok (.lload_n 2, 1) := by decide +kernel
theorem dX_amount_32 : decode bX_amount 32 = .ok (.lastore, 1) := by decide +kernel
theorem dX_amount_33 : decode bX_amount 33 = .ok (.lload 4, 2) := by decide +kernel
theorem dX_amount_35 : decode bX_amount 35 = .ok (.lreturn, 1) := by decide +kernel
theorem dX_isMeasure_0 : decode bX_isMeasure 0 = .ok (.iload_n 1, 1) := by decide +kernel
theorem dX_isMeasure_1 : decode bX_isMeasure 1 = .ok (.ifCond .lt 15, 3) := by decide +kernel
theorem dX_isMeasure_4 : decode bX_isMeasure 4 = .ok (.iload_n 1, 1) := by decide +kernel
theorem dX_isMeasure_5 : decode bX_isMeasure 5 = .ok (.aload_n 0, 1) := by decide +kernel
theorem dX_isMeasure_6 : decode bX_isMeasure 6 = .ok (.getfield 13, 3) := by decide +kernel
theorem dX_isMeasure_9 : decode bX_isMeasure 9 = .ok (.if_icmp .ge 7, 3) := by decide +kernel
theorem dX_isMeasure_12 : decode bX_isMeasure 12 = .ok (.iconst 1, 1) := by decide +kernel
theorem dX_isMeasure_13 : decode bX_isMeasure 13 = .ok (.goto 4, 3) := by decide +kernel
theorem dX_isMeasure_16 : decode bX_isMeasure 16 = .ok (.iconst 0, 1) := by decide +kernel
theorem dX_isMeasure_17 : decode bX_isMeasure 17 = .ok (.ireturn, 1) := by decide +kernel
theorem dX_add_0 : decode bX_add 0 = .ok (.iload_n 1, 1) := by decide +kernel
theorem dX_add_1 : decode bX_add 1 = .ok (.iconst 1, 1) := by decide +kernel
theorem dX_add_2 : decode bX_add 2 = .ok (.if_icmp .lt 9, 3) := by decide +kernel
theorem dX_add_5 : decode bX_add 5 = .ok (.iload_n 1, 1) := by decide +kernel
theorem dX_add_6 : decode bX_add 6 = .ok (.ldc 74, 2) := by decide +kernel
theorem dX_add_8 : decode bX_add 8 = .ok (.if_icmp .le 13, 3) := by decide +kernel
theorem dX_add_11 : decode bX_add 11 = .ok (.new 45, 3) := by decide +kernel
theorem dX_add_14 : decode bX_add 14 = .ok (.dup, 1) := by decide +kernel
theorem dX_add_15 : decode bX_add 15 = .ok (.ldc 75, 2) := by decide +kernel
theorem dX_add_17 : decode bX_add 17 = .ok (.invokespecial 49, 3) := by decide +kernel
theorem dX_add_20 : decode bX_add 20 = .ok (.athrow, 1) := by decide +kernel
theorem dX_add_21 : decode bX_add 21 = .ok (.aload_n 0, 1) := by decide +kernel
theorem dX_add_22 : decode bX_add 22 = .ok (.iload_n 1, 1) := by decide +kernel
theorem dX_add_23 : decode bX_add 23 = .ok (.invokevirtual 77, 3) := by decide +kernel
theorem dX_add_26 : decode bX_add 26 = .ok (.ifCond .eq 10, 3) := by decide +kernel
theorem dX_add_29 : decode bX_add 29 = .ok (.aload_n 0, 1) := by decide +kernel
theorem dX_add_30 : decode bX_add 30 = .ok (.getfield 16, 3) := by decide +kernel
theorem dX_add_33 : decode bX_add 33 = .ok (.goto 5, 3) := by decide +kernel
theorem dX_add_36 : decode bX_add 36 = .ok (.bipush (-2), 2) := by decide +kernel
theorem dX_add_38 : decode bX_add 38 = .ok (.ireturn, 1) := by decide +kernel
theorem dX_takeFact_0 : decode bX_takeFact 0 = .ok (.aload_n 0, 1) := by decide +kernel
theorem dX_takeFact_1 : decode bX_takeFact 1 = .ok (.aload_n 0, 1) := by decide +kernel
theorem dX_takeFact_2 : decode bX_takeFact 2 = .ok (.getfield 19, 3) := by decide +kernel
theorem dX_takeFact_5 : decode bX_takeFact 5 = .ok (.iconst 0, 1) := by decide +kernel
theorem dX_takeFact_6 : decode bX_takeFact 6 = .ok (.aload_n 0, 1) := by decide +kernel
theorem dX_takeFact_7 : decode bX_takeFact 7 = .ok (.getfield 16, 3) := by decide +kernel
theorem dX_takeFact_10 : decode bX_takeFact 10 = .ok (.invokevirtual 91, 3) := by decide +kernel
theorem dX_takeFact_13 : decode bX_takeFact 13 = .ok (.istore_n 2, 1) := by decide +kernel
theorem dX_takeFact_14 : decode bX_takeFact 14 = .ok (.aload_n 0, 1) := by decide +kernel
theorem dX_takeFact_15 : decode bX_takeFact 15 = .ok (.iload_n 2, 1) := by decide +kernel
theorem dX_takeFact_16 : decode bX_takeFact 16 = .ok (.aload_n 0, 1) := by decide +kernel
theorem dX_takeFact_17 : decode bX_takeFact 17 = .ok (.getfield 19, 3) := by decide +kernel
theorem dX_takeFact_20 : decode bX_takeFact 20 = .ok (.iconst 0, 1) := by decide +kernel
theorem dX_takeFact_21 : decode bX_takeFact 21 = .ok (.aload_n 0, 1) := by decide +kernel
theorem dX_takeFact_22 : decode bX_takeFact 22 = .ok (.getfield 16, 3) := by decide +kernel
theorem dX_takeFact_25 : decode bX_takeFact 25 = .ok (.invokevirtual 95, 3) := by decide +kernel
theorem dX_takeFact_28 : decode bX_takeFact 28 = .ok (.ifCond .ne 20, 3) := by decide +kernel
theorem dX_takeFact_31 : decode bX_takeFact 31 = .ok (.aload_n 0, 1) := by decide +kernel
theorem dX_takeFact_32 : decode bX_takeFact 32 = .ok (.getfield 16, 3) := by decide +kernel
theorem dX_takeFact_35 : decode bX_takeFact 35 = .ok (.sipush 1000, 3) := by decide +kernel
theorem dX_takeFact_38 : decode bX_takeFact 38 = .ok (.if_icmp .lt 5, 3) := by decide +kernel
theorem dX_takeFact_41 : decode bX_takeFact 41 = .ok (.iconst 0, 1) := by decide +kernel
theorem dX_takeFact_42 : decode bX_takeFact 42 = .ok (.ireturn, 1) := by decide +kernel
theorem dX_takeFact_43 : decode bX_takeFact 43 = .ok (.aload_n 0, 1) := by decide +kernel
theorem dX_takeFact_44 : decode bX_takeFact 44 = .ok (.iload_n 2, 1) := by decide +kernel
theorem dX_takeFact_45 : decode bX_takeFact 45 = .ok (.invokevirtual 106, 3) := by decide +kernel
theorem dX_takeFact_48 : decode bX_takeFact 48 = .ok (.aload_n 0, 1) := by decide +kernel
theorem dX_takeFact_49 : decode bX_takeFact 49 = .ok (.aload_n 0, 1) := by decide +kernel
theorem dX_takeFact_50 : decode bX_takeFact 50 = .ok (.getfield 27, 3) := by decide +kernel
theorem dX_takeFact_53 : decode bX_takeFact 53 = .ok (.iload_n 2, 1) := by decide +kernel
theorem dX_takeFact_54 : decode bX_takeFact 54 = .ok (.iaload, 1) := by decide +kernel
theorem dX_takeFact_55 : decode bX_takeFact 55 = .ok (.iload_n 1, 1) := by decide +kernel
theorem dX_takeFact_56 : decode bX_takeFact 56 = .ok (.invokevirtual 110, 3) := by decide +kernel
theorem dX_takeFact_59 : decode bX_takeFact 59 = .ok (.iconst 1, 1) := by decide +kernel
theorem dX_takeFact_60 : decode bX_takeFact 60 = .ok (.ireturn, 1) := by decide +kernel
theorem dX_openRow_0 : decode bX_openRow 0 = .ok (.aload_n 0, 1) := by decide +kernel
theorem dX_openRow_1 : decode bX_openRow 1 = .ok (.getfield 27, 3) := by decide +kernel
theorem dX_openRow_4 : decode bX_openRow 4 = .ok (.aload_n 0, 1) := by decide +kernel
theorem dX_openRow_5 : decode bX_openRow 5 = .ok (.getfield 16, 3) := by decide +kernel
theorem dX_openRow_8 : decode bX_openRow 8 = .ok (.iaload, 1) := by decide +kernel
theorem dX_openRow_9 : decode bX_openRow 9 = .ok (.istore_n 2, 1) := by decide +kernel
theorem dX_openRow_10 : decode bX_openRow 10 = .ok (.aload_n 0, 1) := by decide +kernel
theorem dX_openRow_11 : decode bX_openRow 11 = .ok (.iload_n 2, 1) := by decide +kernel
theorem dX_openRow_12 : decode bX_openRow 12 = .ok (.iload_n 1, 1) := by decide +kernel
theorem dX_openRow_13 : decode bX_openRow 13 = .ok (.aload_n 0, 1) := by decide +kernel
theorem dX_openRow_14 : decode bX_openRow 14 = .ok (.getfield 16, 3) := by decide +kernel
theorem dX_openRow_17 : decode bX_openRow 17 = .ok (.invokevirtual 113, 3) := by decide +kernel
theorem dX_openRow_20 : decode bX_openRow 20 = .ok (.aload_n 0, 1) := by decide +kernel
theorem dX_openRow_21 : decode bX_openRow 21 = .ok (.dup, 1) := by decide +kernel
theorem dX_openRow_22 : decode bX_openRow 22 = .ok (.getfield 16, 3) := by decide +kernel
theorem dX_openRow_25 : decode bX_openRow 25 = .ok (.iconst 1, 1) := by decide +kernel
theorem dX_openRow_26 : decode bX_openRow 26 = .ok (.iadd, 1) := by decide +kernel
theorem dX_openRow_27 : decode bX_openRow 27 = .ok (.putfield 16, 3) := by decide +kernel
theorem dX_openRow_30 : decode bX_openRow 30 = .ok (.aload_n 0, 1) := by decide +kernel
theorem dX_openRow_31 : decode bX_openRow 31 = .ok (.getfield 19, 3) := by decide +kernel
theorem dX_openRow_34 : decode bX_openRow 34 = .ok (.iconst 0, 1) := by decide +kernel
theorem dX_openRow_35 : decode bX_openRow 35 = .ok (.aload_n 0, 1) := by decide +kernel
theorem dX_openRow_36 : decode bX_openRow 36 = .ok (.getfield 30, 3) := by decide +kernel
theorem dX_openRow_39 : decode bX_openRow 39 = .ok (.iload_n 2, 1) := by decide +kernel
theorem dX_openRow_40 : decode bX_openRow 40 = .ok (.bipush 8, 2) := by decide +kernel
theorem dX_openRow_42 : decode bX_openRow 42 = .ok (.imul, 1) := by decide +kernel
theorem dX_openRow_43 : decode bX_openRow 43 = .ok (.aload_n 0, 1) := by decide +kernel
theorem dX_openRow_44 : decode bX_openRow 44 = .ok (.getfield 7, 3) := by decide +kernel
theorem dX_openRow_47 : decode bX_openRow 47 = .ok (.invokestatic 117, 3) := by decide +kernel
theorem dX_openRow_50 : decode bX_openRow 50 = .ok (.aload_n 0, 1) := by decide +kernel
theorem dX_openRow_51 : decode bX_openRow 51 = .ok (.getfield 33, 3) := by decide +kernel
theorem dX_openRow_54 : decode bX_openRow 54 = .ok (.iload_n 2, 1) := by decide +kernel
theorem dX_openRow_55 : decode bX_openRow 55 = .ok (.lconst 0, 1) := by decide +kernel
theorem dX_openRow_56 : decode bX_openRow 56 = .ok (.lastore, 1) := by decide +kernel
theorem dX_openRow_57 : decode bX_openRow 57 = .ok (.iload_n 2, 1) := by decide +kernel
theorem dX_openRow_58 : decode bX_openRow 58 = .ok (.bipush 8, 2) := by decide +kernel
theorem dX_openRow_60 : decode bX_openRow 60 = .ok (.imul, 1) := by decide +kernel
theorem dX_openRow_61 : decode bX_openRow 61 = .ok (.istore_n 3, 1) := by decide +kernel
theorem dX_openRow_62 : decode bX_openRow 62 = .ok (.iconst 0, 1) := by decide +kernel
theorem dX_openRow_63 : decode bX_openRow 63 = .ok (.istore 4, 2) := by decide +kernel
theorem dX_openRow_65 : decode bX_openRow 65 = .ok (.iload 4, 2) := by decide +kernel
theorem dX_openRow_67 : decode bX_openRow 67 = .ok (.aload_n 0, 1) := by decide +kernel
theorem dX_openRow_68 : decode bX_openRow 68 = .ok (.getfield 13, 3) := by decide +kernel
theorem dX_openRow_71 : decode bX_openRow 71 = .ok (.if_icmp .ge 51, 3) := by decide +kernel
theorem dX_openRow_74 : decode bX_openRow 74 = .ok (.aload_n 0, 1) := by decide +kernel
theorem dX_openRow_75 : decode bX_openRow 75 = .ok (.getfield 36, 3) := by decide +kernel
theorem dX_openRow_78 : decode bX_openRow 78 = .ok (.iload_n 3, 1) := by decide +kernel
theorem dX_openRow_79 : decode bX_openRow 79 = .ok (.iload 4, 2) := by decide +kernel
theorem dX_openRow_81 : decode bX_openRow 81 = .ok (.iadd, 1) := by decide +kernel
theorem dX_openRow_82 : decode bX_openRow 82 = .ok (.lconst 0, 1) := by decide +kernel
theorem dX_openRow_83 : decode bX_openRow 83 = .ok (.lastore, 1) := by decide +kernel
theorem dX_openRow_84 : decode bX_openRow 84 = .ok (.aload_n 0, 1) := by decide +kernel
theorem dX_openRow_85 : decode bX_openRow 85 = .ok (.getfield 39, 3) := by decide +kernel
theorem dX_openRow_88 : decode bX_openRow 88 = .ok (.iload_n 3, 1) := by decide +kernel
theorem dX_openRow_89 : decode bX_openRow 89 = .ok (.iload 4, 2) := by decide +kernel
theorem dX_openRow_91 : decode bX_openRow 91 = .ok (.iadd, 1) := by decide +kernel
theorem dX_openRow_92 : decode bX_openRow 92 = .ok (.aload_n 0, 1) := by decide +kernel
theorem dX_openRow_93 : decode bX_openRow 93 = .ok (.getfield 23, 3) := by decide +kernel
theorem dX_openRow_96 : decode bX_openRow 96 = .ok (.iload 4, 2) := by decide +kernel
theorem dX_openRow_98 : decode bX_openRow 98 = .ok (.laload, 1) := by decide +kernel
theorem dX_openRow_99 : decode bX_openRow 99 = .ok (.lastore, 1) := by decide +kernel
theorem dX_openRow_100 : decode bX_openRow 100 = .ok (.aload_n 0, 1) := by decide +kernel
theorem dX_openRow_101 : decode bX_openRow 101 = .ok (.getfield 42, 3) := by decide +kernel
theorem dX_openRow_104 : decode bX_openRow 104 = .ok (.iload_n 3, 1) := by decide +kernel
theorem dX_openRow_105 : decode bX_openRow 105 = .ok (.iload 4, 2) := by decide +kernel
theorem dX_openRow_107 : decode bX_openRow 107 = .ok (.iadd, 1) := by decide +kernel
theorem dX_openRow_108 : decode bX_openRow 108 = .ok (.aload_n 0, 1) := by decide +kernel
theorem dX_openRow_109 : decode bX_openRow 109 = .ok (.getfield 23, 3) := by decide +kernel
theorem dX_openRow_112 : decode bX_openRow 112 = .ok (.iload 4, 2) := by decide +kernel
theorem dX_openRow_114 : decode bX_openRow 114 = .ok (.laload, 1) := by decide +kernel
theorem dX_openRow_115 : decode bX_openRow 115 = .ok (.lastore, 1) := by decide +kernel
theorem dX_openRow_116 : decode bX_openRow 116 = .ok (.iinc 4 1, 3) := by decide +kernel
theorem dX_openRow_119 : decode bX_openRow 119 = .ok (.goto (-54), 3) := by decide +kernel
theorem dX_openRow_122 : decode bX_openRow 122 = .ok (.return_, 1) := by decide +kernel
theorem dX_insertSlot_0 : decode bX_insertSlot 0 = .ok (.aload_n 0, 1) := by decide +kernel
theorem dX_insertSlot_1 : decode bX_insertSlot 1 = .ok (.getfield 27, 3) := by decide +kernel
theorem dX_insertSlot_4 : decode bX_insertSlot 4 = .ok (.iload_n 2, 1) := by decide +kernel
theorem dX_insertSlot_5 : decode bX_insertSlot 5 = .ok (.aload_n 0, 1) := by decide +kernel
theorem dX_insertSlot_6 : decode bX_insertSlot 6 = .ok (.getfield 27, 3) := by decide +kernel
theorem dX_insertSlot_9 : decode bX_insertSlot 9 = .ok (.iload_n 2, 1) := by decide +kernel
theorem dX_insertSlot_10 : decode bX_insertSlot 10 = .ok (.iconst 1, 1) := by decide +kernel
theorem dX_insertSlot_11 : decode bX_insertSlot 11 = .ok (.iadd, 1) := by decide +kernel
theorem dX_insertSlot_12 : decode bX_insertSlot 12 = .ok (.iload_n 3, 1) := by decide +kernel
theorem dX_insertSlot_13 : decode bX_insertSlot 13 = .ok (.iload_n 2, 1) := by decide +kernel
theorem dX_insertSlot_14 : decode bX_insertSlot 14 = .ok (.isub, 1) := by decide +kernel
theorem dX_insertSlot_15 : decode bX_insertSlot 15 = .ok (.invokestatic 117, 3) := by decide +kernel
theorem dX_insertSlot_18 : decode bX_insertSlot 18 = .ok (.aload_n 0, 1) := by decide +kernel
theorem dX_insertSlot_19 : decode bX_insertSlot 19 = .ok (.getfield 27, 3) := by decide +kernel
theorem dX_insertSlot_22 : decode bX_insertSlot 22 = .ok (.iload_n 2, 1) := by decide +kernel
theorem dX_insertSlot_23 : decode bX_insertSlot 23 = .ok (.iload_n 1, 1) := by decide +kernel
theorem dX_insertSlot_24 : decode bX_insertSlot 24 = .ok (.iastore, 1) := by decide +kernel
theorem dX_insertSlot_25 : decode bX_insertSlot 25 = .ok (.return_, 1) := by decide +kernel
theorem dX_joinFact_0 : decode bX_joinFact 0 = .ok (.aload_n 0, 1) := by decide +kernel
theorem dX_joinFact_1 : decode bX_joinFact 1 = .ok (.getfield 33, 3) := by decide +kernel
theorem dX_joinFact_4 : decode bX_joinFact 4 = .ok (.iload_n 1, 1) := by decide +kernel
theorem dX_joinFact_5 : decode bX_joinFact 5 = .ok (.dup2, 1) := by decide +kernel
theorem dX_joinFact_6 : decode bX_joinFact 6 = .ok (.laload, 1) := by decide +kernel
theorem dX_joinFact_7 : decode bX_joinFact 7 = .ok (.iload_n 2, 1) := by decide +kernel
theorem dX_joinFact_8 : decode bX_joinFact 8 = .ok (.i2l, 1) := by decide +kernel
theorem dX_joinFact_9 : decode bX_joinFact 9 = .ok (.ladd, 1) := by decide +kernel
theorem dX_joinFact_10 : decode bX_joinFact 10 = .ok (.lastore, 1) := by decide +kernel
theorem dX_joinFact_11 : decode bX_joinFact 11 = .ok (.iload_n 1, 1) := by decide +kernel
theorem dX_joinFact_12 : decode bX_joinFact 12 = .ok (.bipush 8, 2) := by decide +kernel
theorem dX_joinFact_14 : decode bX_joinFact 14 = .ok (.imul, 1) := by decide +kernel
theorem dX_joinFact_15 : decode bX_joinFact 15 = .ok (.istore_n 3, 1) := by decide +kernel
theorem dX_joinFact_16 : decode bX_joinFact 16 = .ok (.iconst 0, 1) := by decide +kernel
theorem dX_joinFact_17 : decode bX_joinFact 17 = .ok (.istore 4, 2) := by decide +kernel
theorem dX_joinFact_19 : decode bX_joinFact 19 = .ok (.iload 4, 2) := by decide +kernel
theorem dX_joinFact_21 : decode bX_joinFact 21 = .ok (.aload_n 0, 1) := by decide +kernel
theorem dX_joinFact_22 : decode bX_joinFact 22 = .ok (.getfield 13, 3) := by decide +kernel
theorem dX_joinFact_25 : decode bX_joinFact 25 = .ok (.if_icmp .ge 81, 3) := by decide +kernel
theorem dX_joinFact_28 : decode bX_joinFact 28 = .ok (.aload_n 0, 1) := by decide +kernel
theorem dX_joinFact_29 : decode bX_joinFact 29 = .ok (.getfield 23, 3) := by decide +kernel
theorem dX_joinFact_32 : decode bX_joinFact 32 = .ok (.iload 4, 2) := by decide +kernel
theorem dX_joinFact_34 : decode bX_joinFact 34 = .ok (.laload, 1) := by decide +kernel
theorem dX_joinFact_35 : decode bX_joinFact 35 = .ok (.lstore 5, 2) := by decide +kernel
theorem dX_joinFact_37 : decode bX_joinFact 37 = .ok (.aload_n 0, 1) := by decide +kernel
theorem dX_joinFact_38 : decode bX_joinFact 38 = .ok (.getfield 36, 3) := by decide +kernel
theorem dX_joinFact_41 : decode bX_joinFact 41 = .ok (.iload_n 3, 1) := by decide +kernel
theorem dX_joinFact_42 : decode bX_joinFact 42 = .ok (.iload 4, 2) := by decide +kernel
theorem dX_joinFact_44 : decode bX_joinFact 44 = .ok (.iadd, 1) := by decide +kernel
theorem dX_joinFact_45 : decode bX_joinFact 45 = .ok (.dup2, 1) := by decide +kernel
theorem dX_joinFact_46 : decode bX_joinFact 46 = .ok (.laload, 1) := by decide +kernel
theorem dX_joinFact_47 : decode bX_joinFact 47 = .ok (.lload 5, 2) := by decide +kernel
theorem dX_joinFact_49 : decode bX_joinFact 49 = .ok (.iload_n 2, 1) := by decide +kernel
theorem dX_joinFact_50 : decode bX_joinFact 50 = .ok (.i2l, 1) := by decide +kernel
theorem dX_joinFact_51 : decode bX_joinFact 51 = .ok (.lmul, 1) := by decide +kernel
theorem dX_joinFact_52 : decode bX_joinFact 52 = .ok (.ladd, 1) := by decide +kernel
theorem dX_joinFact_53 : decode bX_joinFact 53 = .ok (.lastore, 1) := by decide +kernel
theorem dX_joinFact_54 : decode bX_joinFact 54 = .ok (.aload_n 0, 1) := by decide +kernel
theorem dX_joinFact_55 : decode bX_joinFact 55 = .ok (.getfield 39, 3) := by decide +kernel
theorem dX_joinFact_58 : decode bX_joinFact 58 = .ok (.iload_n 3, 1) := by decide +kernel
theorem dX_joinFact_59 : decode bX_joinFact 59 = .ok (.iload 4, 2) := by decide +kernel
theorem dX_joinFact_61 : decode bX_joinFact 61 = .ok (.iadd, 1) := by decide +kernel
theorem dX_joinFact_62 : decode bX_joinFact 62 = .ok (.aload_n 0, 1) := by decide +kernel
theorem dX_joinFact_63 : decode bX_joinFact 63 = .ok (.getfield 39, 3) := by decide +kernel
theorem dX_joinFact_66 : decode bX_joinFact 66 = .ok (.iload_n 3, 1) := by decide +kernel
theorem dX_joinFact_67 : decode bX_joinFact 67 = .ok (.iload 4, 2) := by decide +kernel
theorem dX_joinFact_69 : decode bX_joinFact 69 = .ok (.iadd, 1) := by decide +kernel
theorem dX_joinFact_70 : decode bX_joinFact 70 = .ok (.laload, 1) := by decide +kernel
theorem dX_joinFact_71 : decode bX_joinFact 71 = .ok (.lload 5, 2) := by decide +kernel
theorem dX_joinFact_73 : decode bX_joinFact 73 = .ok (.invokestatic 123, 3) := by decide +kernel
theorem dX_joinFact_76 : decode bX_joinFact 76 = .ok (.lastore, 1) := by decide +kernel
theorem dX_joinFact_77 : decode bX_joinFact 77 = .ok (.aload_n 0, 1) := by decide +kernel
theorem dX_joinFact_78 : decode bX_joinFact 78 = .ok (.getfield 42, 3) := by decide +kernel
theorem dX_joinFact_81 : decode bX_joinFact 81 = .ok (.iload_n 3, 1) := by decide +kernel
theorem dX_joinFact_82 : decode bX_joinFact 82 = .ok (.iload 4, 2) := by decide +kernel
theorem dX_joinFact_84 : decode bX_joinFact 84 = .ok (.iadd, 1) := by decide +kernel
theorem dX_joinFact_85 : decode bX_joinFact 85 = .ok (.aload_n 0, 1) := by decide +kernel
theorem dX_joinFact_86 : decode bX_joinFact 86 = .ok (.getfield 42, 3) := by decide +kernel
theorem dX_joinFact_89 : decode bX_joinFact 89 = .ok (.iload_n 3, 1) := by decide +kernel
theorem dX_joinFact_90 : decode bX_joinFact 90 = .ok (.iload 4, 2) := by decide +kernel
theorem dX_joinFact_92 : decode bX_joinFact 92 = .ok (.iadd, 1) := by decide +kernel
theorem dX_joinFact_93 : decode bX_joinFact 93 = .ok (.laload, 1) := by decide +kernel
theorem dX_joinFact_94 : decode bX_joinFact 94 = .ok (.lload 5, 2) := by decide +kernel
theorem dX_joinFact_96 : decode bX_joinFact 96 = .ok (.invokestatic 129, 3) := by decide +kernel
theorem dX_joinFact_99 : decode bX_joinFact 99 = .ok (.lastore, 1) := by decide +kernel
theorem dX_joinFact_100 : decode bX_joinFact 100 = .ok (.iinc 4 1, 3) := by decide +kernel
theorem dX_joinFact_103 : decode bX_joinFact 103 = .ok (.goto (-84), 3) := by decide +kernel
theorem dX_joinFact_106 : decode bX_joinFact 106 = .ok (.return_, 1) := by decide +kernel
theorem dX_spread_0 : decode bX_spread 0 = .ok (.aload_n 0, 1) := by decide +kernel
theorem dX_spread_1 : decode bX_spread 1 = .ok (.iload_n 2, 1) := by decide +kernel
theorem dX_spread_2 : decode bX_spread 2 = .ok (.invokevirtual 63, 3) := by decide +kernel
theorem dX_spread_5 : decode bX_spread 5 = .ok (.ifCond .ne 13, 3) := by decide +kernel
theorem dX_spread_8 : decode bX_spread 8 = .ok (.new 45, 3) := by decide +kernel
theorem dX_spread_11 : decode bX_spread 11 = .ok (.dup, 1) := by decide +kernel
theorem dX_spread_12 : decode bX_spread 12 = .ok (.ldc 67, 2) := by decide +kernel
theorem dX_spread_14 : decode bX_spread 14 = .ok (.invokespecial 49, 3) := by decide +kernel
theorem dX_spread_17 : decode bX_spread 17 = .ok (.athrow, 1) := by decide +kernel
theorem dX_spread_18 : decode bX_spread 18 = .ok (.iload_n 1, 1) := by decide +kernel
theorem dX_spread_19 : decode bX_spread 19 = .ok (.iconst 1, 1) := by decide +kernel
theorem dX_spread_20 : decode bX_spread 20 = .ok (.if_icmp .lt 10, 3) := by decide +kernel
theorem dX_spread_23 : decode bX_spread 23 = .ok (.iload_n 1, 1) := by decide +kernel
theorem dX_spread_24 : decode bX_spread 24 = .ok (.sipush 5000, 3) := by decide +kernel
theorem dX_spread_27 : decode bX_spread 27 = .ok (.if_icmp .le 13, 3) := by decide +kernel
theorem dX_spread_30 : decode bX_spread 30 = .ok (.new 45, 3) := by decide +kernel
theorem dX_spread_33 : decode bX_spread 33 = .ok (.dup, 1) := by decide +kernel
theorem dX_spread_34 : decode bX_spread 34 = .ok (.ldc 80, 2) := by decide +kernel
theorem dX_spread_36 : decode bX_spread 36 = .ok (.invokespecial 49, 3) := by decide +kernel
theorem dX_spread_39 : decode bX_spread 39 = .ok (.athrow, 1) := by decide +kernel
theorem dX_spread_40 : decode bX_spread 40 = .ok (.iconst 0, 1) := by decide +kernel
theorem dX_spread_41 : decode bX_spread 41 = .ok (.istore 4, 2) := by decide +kernel
theorem dX_spread_43 : decode bX_spread 43 = .ok (.iload 4, 2) := by decide +kernel
theorem dX_spread_45 : decode bX_spread 45 = .ok (.iload_n 1, 1) := by decide +kernel
theorem dX_spread_46 : decode bX_spread 46 = .ok (.if_icmp .ge 31, 3) := by decide +kernel
theorem dX_spread_49 : decode bX_spread 49 = .ok (.iload 4, 2) := by decide +kernel
theorem dX_spread_51 : decode bX_spread 51 = .ok (.ifCond .le 9, 3) := by decide +kernel
theorem dX_spread_54 : decode bX_spread 54 = .ok (.aload_n 0, 1) := by decide +kernel
theorem dX_spread_55 : decode bX_spread 55 = .ok (.iload_n 2, 1) := by decide +kernel
theorem dX_spread_56 : decode bX_spread 56 = .ok (.iload_n 3, 1) := by decide +kernel
theorem dX_spread_57 : decode bX_spread 57 = .ok (.invokevirtual 82, 3) := by decide +kernel
theorem dX_spread_60 : decode bX_spread 60 = .ok (.aload_n 0, 1) := by decide +kernel
theorem dX_spread_61 : decode bX_spread 61 = .ok (.iconst 1, 1) := by decide +kernel
theorem dX_spread_62 : decode bX_spread 62 = .ok (.invokevirtual 77, 3) := by decide +kernel
theorem dX_spread_65 : decode bX_spread 65 = .ok (.ifCond .ne 6, 3) := by decide +kernel
theorem dX_spread_68 : decode bX_spread 68 = .ok (.iload 4, 2) := by decide +kernel
theorem dX_spread_70 : decode bX_spread 70 = .ok (.ireturn, 1) := by decide +kernel
theorem dX_spread_71 : decode bX_spread 71 = .ok (.iinc 4 1, 3) := by decide +kernel
theorem dX_spread_74 : decode bX_spread 74 = .ok (.goto (-31), 3) := by decide +kernel
theorem dX_spread_77 : decode bX_spread 77 = .ok (.iload_n 1, 1) := by decide +kernel
theorem dX_spread_78 : decode bX_spread 78 = .ok (.ireturn, 1) := by decide +kernel
theorem dX_stepFact_0 : decode bX_stepFact 0 = .ok (.aload_n 0, 1) := by decide +kernel
theorem dX_stepFact_1 : decode bX_stepFact 1 = .ok (.getfield 19, 3) := by decide +kernel
theorem dX_stepFact_4 : decode bX_stepFact 4 = .ok (.iload_n 1, 1) := by decide +kernel
theorem dX_stepFact_5 : decode bX_stepFact 5 = .ok (.dup2, 1) := by decide +kernel
theorem dX_stepFact_6 : decode bX_stepFact 6 = .ok (.iaload, 1) := by decide +kernel
theorem dX_stepFact_7 : decode bX_stepFact 7 = .ok (.iload_n 2, 1) := by decide +kernel
theorem dX_stepFact_8 : decode bX_stepFact 8 = .ok (.iadd, 1) := by decide +kernel
theorem dX_stepFact_9 : decode bX_stepFact 9 = .ok (.iastore, 1) := by decide +kernel
theorem dX_stepFact_10 : decode bX_stepFact 10 = .ok (.iconst 0, 1) := by decide +kernel
theorem dX_stepFact_11 : decode bX_stepFact 11 = .ok (.istore_n 3, 1) := by decide +kernel
theorem dX_stepFact_12 : decode bX_stepFact 12 = .ok (.iload_n 3, 1) := by decide +kernel
theorem dX_stepFact_13 : decode bX_stepFact 13 = .ok (.aload_n 0, 1) := by decide +kernel
theorem dX_stepFact_14 : decode bX_stepFact 14 = .ok (.getfield 13, 3) := by decide +kernel
theorem dX_stepFact_17 : decode bX_stepFact 17 = .ok (.if_icmp .ge 20, 3) := by decide +kernel
theorem dX_stepFact_20 : decode bX_stepFact 20 = .ok (.aload_n 0, 1) := by decide +kernel
theorem dX_stepFact_21 : decode bX_stepFact 21 = .ok (.getfield 23, 3) := by decide +kernel
theorem dX_stepFact_24 : decode bX_stepFact 24 = .ok (.iload_n 3, 1) := by decide +kernel
theorem dX_stepFact_25 : decode bX_stepFact 25 = .ok (.dup2, 1) := by decide +kernel
theorem dX_stepFact_26 : decode bX_stepFact 26 = .ok (.laload, 1) := by decide +kernel
theorem dX_stepFact_27 : decode bX_stepFact 27 = .ok (.iload_n 2, 1) := by decide +kernel
theorem dX_stepFact_28 : decode bX_stepFact 28 = .ok (.i2l, 1) := by decide +kernel
theorem dX_stepFact_29 : decode bX_stepFact 29 = .ok (.ladd, 1) := by decide +kernel
theorem dX_stepFact_30 : decode bX_stepFact 30 = .ok (.lastore, 1) := by decide +kernel
theorem dX_stepFact_31 : decode bX_stepFact 31 = .ok (.iinc 3 1, 3) := by decide +kernel
theorem dX_stepFact_34 : decode bX_stepFact 34 = .ok (.goto (-22), 3) := by decide +kernel
theorem dX_stepFact_37 : decode bX_stepFact 37 = .ok (.return_, 1) := by decide +kernel
theorem dX_roll_0 : decode bX_roll 0 = .ok (.aload_n 0, 1) := by decide +kernel
theorem dX_roll_1 : decode bX_roll 1 = .ok (.iload_n 1, 1) := by decide +kernel
theorem dX_roll_2 : decode bX_roll 2 = .ok (.invokevirtual 63, 3) := by decide +kernel
theorem dX_roll_5 : decode bX_roll 5 = .ok (.ifCond .ne 13, 3) := by decide +kernel
theorem dX_roll_8 : decode bX_roll 8 = .ok (.new 45, 3) := by decide +kernel
theorem dX_roll_11 : decode bX_roll 11 = .ok (.dup, 1) := by decide +kernel
theorem dX_roll_12 : decode bX_roll 12 = .ok (.ldc 67, 2) := by decide +kernel
theorem dX_roll_14 : decode bX_roll 14 = .ok (.invokespecial 49, 3) := by decide +kernel
theorem dX_roll_17 : decode bX_roll 17 = .ok (.athrow, 1) := by decide +kernel
theorem dX_roll_18 : decode bX_roll 18 = .ok (.iconst 0, 1) := by decide +kernel
theorem dX_roll_19 : decode bX_roll 19 = .ok (.istore_n 2, 1) := by decide +kernel
theorem dX_roll_20 : decode bX_roll 20 = .ok (.iload_n 2, 1) := by decide +kernel
theorem dX_roll_21 : decode bX_roll 21 = .ok (.aload_n 0, 1) := by decide +kernel
theorem dX_roll_22 : decode bX_roll 22 = .ok (.getfield 16, 3) := by decide +kernel
theorem dX_roll_25 : decode bX_roll 25 = .ok (.if_icmp .ge 27, 3) := by decide +kernel
theorem dX_roll_28 : decode bX_roll 28 = .ok (.aload_n 0, 1) := by decide +kernel
theorem dX_roll_29 : decode bX_roll 29 = .ok (.getfield 30, 3) := by decide +kernel
theorem dX_roll_32 : decode bX_roll 32 = .ok (.aload_n 0, 1) := by decide +kernel
theorem dX_roll_33 : decode bX_roll 33 = .ok (.getfield 27, 3) := by decide +kernel
theorem dX_roll_36 : decode bX_roll 36 = .ok (.iload_n 2, 1) := by decide +kernel
theorem dX_roll_37 : decode bX_roll 37 = .ok (.iaload, 1) := by decide +kernel
theorem dX_roll_38 : decode bX_roll 38 = .ok (.bipush 8, 2) := by decide +kernel
theorem dX_roll_40 : decode bX_roll 40 = .ok (.imul, 1) := by decide +kernel
theorem dX_roll_41 : decode bX_roll 41 = .ok (.iload_n 1, 1) := by decide +kernel
theorem dX_roll_42 : decode bX_roll 42 = .ok (.iadd, 1) := by decide +kernel
theorem dX_roll_43 : decode bX_roll 43 = .ok (.ldc 86, 2) := by decide +kernel
theorem dX_roll_45 : decode bX_roll 45 = .ok (.iastore, 1) := by decide +kernel
theorem dX_roll_46 : decode bX_roll 46 = .ok (.iinc 2 1, 3) := by decide +kernel
theorem dX_roll_49 : decode bX_roll 49 = .ok (.goto (-29), 3) := by decide +kernel
theorem dX_roll_52 : decode bX_roll 52 = .ok (.aload_n 0, 1) := by decide +kernel
theorem dX_roll_53 : decode bX_roll 53 = .ok (.aload_n 0, 1) := by decide +kernel
theorem dX_roll_54 : decode bX_roll 54 = .ok (.invokevirtual 87, 3) := by decide +kernel
theorem dX_roll_57 : decode bX_roll 57 = .ok (.putfield 16, 3) := by decide +kernel
theorem dX_roll_60 : decode bX_roll 60 = .ok (.aload_n 0, 1) := by decide +kernel
theorem dX_roll_61 : decode bX_roll 61 = .ok (.getfield 16, 3) := by decide +kernel
theorem dX_roll_64 : decode bX_roll 64 = .ok (.ireturn, 1) := by decide +kernel
theorem dX_regroup_0 : decode bX_regroup 0 = .ok (.iconst 0, 1) := by decide +kernel
theorem dX_regroup_1 : decode bX_regroup 1 = .ok (.istore_n 1, 1) := by decide +kernel
theorem dX_regroup_2 : decode bX_regroup 2 = .ok (.iconst 0, 1) := by decide +kernel
theorem dX_regroup_3 : decode bX_regroup 3 = .ok (.istore_n 2, 1) := by decide +kernel
theorem dX_regroup_4 : decode bX_regroup 4 = .ok (.iload_n 2, 1) := by decide +kernel
theorem dX_regroup_5 : decode bX_regroup 5 = .ok (.aload_n 0, 1) := by decide +kernel
theorem dX_regroup_6 : decode bX_regroup 6 = .ok (.getfield 16, 3) := by decide +kernel
theorem dX_regroup_9 : decode bX_regroup 9 = .ok (.if_icmp .ge 89, 3) := by decide +kernel
theorem dX_regroup_12 : decode bX_regroup 12 = .ok (.aload_n 0, 1) := by decide +kernel
theorem dX_regroup_13 : decode bX_regroup 13 = .ok (.getfield 27, 3) := by decide +kernel
theorem dX_regroup_16 : decode bX_regroup 16 = .ok (.iload_n 2, 1) := by decide +kernel
theorem dX_regroup_17 : decode bX_regroup 17 = .ok (.iaload, 1) := by decide +kernel
theorem dX_regroup_18 : decode bX_regroup 18 = .ok (.istore_n 3, 1) := by decide +kernel
theorem dX_regroup_19 : decode bX_regroup 19 = .ok (.iload_n 3, 1) := by decide +kernel
theorem dX_regroup_20 : decode bX_regroup 20 = .ok (.bipush 8, 2) := by decide +kernel
theorem dX_regroup_22 : decode bX_regroup 22 = .ok (.imul, 1) := by decide +kernel
theorem dX_regroup_23 : decode bX_regroup 23 = .ok (.istore 4, 2) := by decide +kernel
theorem dX_regroup_25 : decode bX_regroup 25 = .ok (.aload_n 0, 1) := by decide +kernel
theorem dX_regroup_26 : decode bX_regroup 26 = .ok (.aload_n 0, 1) := by decide +kernel
theorem dX_regroup_27 : decode bX_regroup 27 = .ok (.getfield 30, 3) := by decide +kernel
theorem dX_regroup_30 : decode bX_regroup 30 = .ok (.iload 4, 2) := by decide +kernel
theorem dX_regroup_32 : decode bX_regroup 32 = .ok (.iload_n 1, 1) := by decide +kernel
theorem dX_regroup_33 : decode bX_regroup 33 = .ok (.invokevirtual 91, 3) := by decide +kernel
theorem dX_regroup_36 : decode bX_regroup 36 = .ok (.istore 5, 2) := by decide +kernel
theorem dX_regroup_38 : decode bX_regroup 38 = .ok (.aload_n 0, 1) := by decide +kernel
theorem dX_regroup_39 : decode bX_regroup 39 = .ok (.iload 5, 2) := by decide +kernel
theorem dX_regroup_41 : decode bX_regroup 41 = .ok (.aload_n 0, 1) := by decide +kernel
theorem dX_regroup_42 : decode bX_regroup 42 = .ok (.getfield 30, 3) := by decide +kernel
theorem dX_regroup_45 : decode bX_regroup 45 = .ok (.iload 4, 2) := by decide +kernel
theorem dX_regroup_47 : decode bX_regroup 47 = .ok (.iload_n 1, 1) := by decide +kernel
theorem dX_regroup_48 : decode bX_regroup 48 = .ok (.invokevirtual 95, 3) := by decide +kernel
theorem dX_regroup_51 : decode bX_regroup 51 = .ok (.ifCond .eq 18, 3) := by decide +kernel
theorem dX_regroup_54 : decode bX_regroup 54 = .ok (.aload_n 0, 1) := by decide +kernel
theorem dX_regroup_55 : decode bX_regroup 55 = .ok (.aload_n 0, 1) := by decide +kernel
theorem dX_regroup_56 : decode bX_regroup 56 = .ok (.getfield 27, 3) := by decide +kernel
theorem dX_regroup_59 : decode bX_regroup 59 = .ok (.iload 5, 2) := by decide +kernel
theorem dX_regroup_61 : decode bX_regroup 61 = .ok (.iaload, 1) := by decide +kernel
theorem dX_regroup_62 : decode bX_regroup 62 = .ok (.iload_n 3, 1) := by decide +kernel
theorem dX_regroup_63 : decode bX_regroup 63 = .ok (.invokevirtual 132, 3) := by decide +kernel
theorem dX_regroup_66 : decode bX_regroup 66 = .ok (.goto 26, 3) := by decide +kernel
theorem dX_regroup_69 : decode bX_regroup 69 = .ok (.aload_n 0, 1) := by decide +kernel
theorem dX_regroup_70 : decode bX_regroup 70 = .ok (.getfield 27, 3) := by decide +kernel
theorem dX_regroup_73 : decode bX_regroup 73 = .ok (.iload_n 2, 1) := by decide +kernel
theorem dX_regroup_74 : decode bX_regroup 74 = .ok (.aload_n 0, 1) := by decide +kernel
theorem dX_regroup_75 : decode bX_regroup 75 = .ok (.getfield 27, 3) := by decide +kernel
theorem dX_regroup_78 : decode bX_regroup 78 = .ok (.iload_n 1, 1) := by decide +kernel
theorem dX_regroup_79 : decode bX_regroup 79 = .ok (.iaload, 1) := by decide +kernel
theorem dX_regroup_80 : decode bX_regroup 80 = .ok (.iastore, 1) := by decide +kernel
theorem dX_regroup_81 : decode bX_regroup 81 = .ok (.aload_n 0, 1) := by decide +kernel
theorem dX_regroup_82 : decode bX_regroup 82 = .ok (.iload_n 3, 1) := by decide +kernel
theorem dX_regroup_83 : decode bX_regroup 83 = .ok (.iload 5, 2) := by decide +kernel
theorem dX_regroup_85 : decode bX_regroup 85 = .ok (.iload_n 1, 1) := by decide +kernel
theorem dX_regroup_86 : decode bX_regroup 86 = .ok (.invokevirtual 113, 3) := by decide +kernel
theorem dX_regroup_89 : decode bX_regroup 89 = .ok (.iinc 1 1, 3) := by decide +kernel
theorem dX_regroup_92 : decode bX_regroup 92 = .ok (.iinc 2 1, 3) := by decide +kernel
theorem dX_regroup_95 : decode bX_regroup 95 = .ok (.goto (-91), 3) := by decide +kernel
theorem dX_regroup_98 : decode bX_regroup 98 = .ok (.iload_n 1, 1) := by decide +kernel
theorem dX_regroup_99 : decode bX_regroup 99 = .ok (.ireturn, 1) := by decide +kernel
theorem dX_joinRow_0 : decode bX_joinRow 0 = .ok (.aload_n 0, 1) := by decide +kernel
theorem dX_joinRow_1 : decode bX_joinRow 1 = .ok (.getfield 33, 3) := by decide +kernel
theorem dX_joinRow_4 : decode bX_joinRow 4 = .ok (.iload_n 1, 1) := by decide +kernel
theorem dX_joinRow_5 : decode bX_joinRow 5 = .ok (.dup2, 1) := by decide +kernel
theorem dX_joinRow_6 : decode bX_joinRow 6 = .ok (.laload, 1) := by decide +kernel
theorem dX_joinRow_7 : decode bX_joinRow 7 = .ok (.aload_n 0, 1) := by decide +kernel
theorem dX_joinRow_8 : decode bX_joinRow 8 = .ok (.getfield 33, 3) := by decide +kernel
theorem dX_joinRow_11 : decode bX_joinRow 11 = .ok (.iload_n 2, 1) := by decide +kernel
theorem dX_joinRow_12 : decode bX_joinRow 12 = .ok (.laload, 1) := by decide +kernel
theorem dX_joinRow_13 : decode bX_joinRow 13 = .ok (.ladd, 1) := by decide +kernel
theorem dX_joinRow_14 : decode bX_joinRow 14 = .ok (.lastore, 1) := by decide +kernel
theorem dX_joinRow_15 : decode bX_joinRow 15 = .ok (.iload_n 1, 1) := by decide +kernel
theorem dX_joinRow_16 : decode bX_joinRow 16 = .ok (.bipush 8, 2) := by decide +kernel
theorem dX_joinRow_18 : decode bX_joinRow 18 = .ok (.imul, 1) := by decide +kernel
theorem dX_joinRow_19 : decode bX_joinRow 19 = .ok (.istore_n 3, 1) := by decide +kernel
theorem dX_joinRow_20 : decode bX_joinRow 20 = .ok (.iload_n 2, 1) := by decide +kernel
theorem dX_joinRow_21 : decode bX_joinRow 21 = .ok (.bipush 8, 2) := by decide +kernel
theorem dX_joinRow_23 : decode bX_joinRow 23 = .ok (.imul, 1) := by decide +kernel
theorem dX_joinRow_24 : decode bX_joinRow 24 = .ok (.istore 4, 2) := by decide +kernel
theorem dX_joinRow_26 : decode bX_joinRow 26 = .ok (.iconst 0, 1) := by decide +kernel
theorem dX_joinRow_27 : decode bX_joinRow 27 = .ok (.istore 5, 2) := by decide +kernel
theorem dX_joinRow_29 : decode bX_joinRow 29 = .ok (.iload 5, 2) := by decide +kernel
theorem dX_joinRow_31 : decode bX_joinRow 31 = .ok (.aload_n 0, 1) := by decide +kernel
theorem dX_joinRow_32 : decode bX_joinRow 32 = .ok (.getfield 13, 3) := by decide +kernel
theorem dX_joinRow_35 : decode bX_joinRow 35 = .ok (.if_icmp .ge 93, 3) := by decide +kernel
theorem dX_joinRow_38 : decode bX_joinRow 38 = .ok (.aload_n 0, 1) := by decide +kernel
theorem dX_joinRow_39 : decode bX_joinRow 39 = .ok (.getfield 36, 3) := by decide +kernel
theorem dX_joinRow_42 : decode bX_joinRow 42 = .ok (.iload_n 3, 1) := by decide +kernel
theorem dX_joinRow_43 : decode bX_joinRow 43 = .ok (.iload 5, 2) := by decide +kernel
theorem dX_joinRow_45 : decode bX_joinRow 45 = .ok (.iadd, 1) := by decide +kernel
theorem dX_joinRow_46 : decode bX_joinRow 46 = .ok (.dup2, 1) := by decide +kernel
theorem dX_joinRow_47 : decode bX_joinRow 47 = .ok (.laload, 1) := by decide +kernel
theorem dX_joinRow_48 : decode bX_joinRow 48 = .ok (.aload_n 0, 1) := by decide +kernel
theorem dX_joinRow_49 : decode bX_joinRow 49 = .ok (.getfield 36, 3) := by decide +kernel
theorem dX_joinRow_52 : decode bX_joinRow 52 = .ok (.iload 4, 2) := by decide +kernel
theorem dX_joinRow_54 : decode bX_joinRow 54 = .ok (.iload 5, 2) := by decide +kernel
theorem dX_joinRow_56 : decode bX_joinRow 56 = .ok (.iadd, 1) := by decide +kernel
theorem dX_joinRow_57 : decode bX_joinRow 57 = .ok (.laload, 1) := by decide +kernel
theorem dX_joinRow_58 : decode bX_joinRow 58 = .ok (.ladd, 1) := by decide +kernel
theorem dX_joinRow_59 : decode bX_joinRow 59 = .ok (.lastore, 1) := by decide +kernel
theorem dX_joinRow_60 : decode bX_joinRow 60 = .ok (.aload_n 0, 1) := by decide +kernel
theorem dX_joinRow_61 : decode bX_joinRow 61 = .ok (.getfield 39, 3) := by decide +kernel
theorem dX_joinRow_64 : decode bX_joinRow 64 = .ok (.iload_n 3, 1) := by decide +kernel
theorem dX_joinRow_65 : decode bX_joinRow 65 = .ok (.iload 5, 2) := by decide +kernel
theorem dX_joinRow_67 : decode bX_joinRow 67 = .ok (.iadd, 1) := by decide +kernel
theorem dX_joinRow_68 : decode bX_joinRow 68 = .ok (.aload_n 0, 1) := by decide +kernel
theorem dX_joinRow_69 : decode bX_joinRow 69 = .ok (.getfield 39, 3) := by decide +kernel
theorem dX_joinRow_72 : decode bX_joinRow 72 = .ok (.iload_n 3, 1) := by decide +kernel
theorem dX_joinRow_73 : decode bX_joinRow 73 = .ok (.iload 5, 2) := by decide +kernel
theorem dX_joinRow_75 : decode bX_joinRow 75 = .ok (.iadd, 1) := by decide +kernel
theorem dX_joinRow_76 : decode bX_joinRow 76 = .ok (.laload, 1) := by decide +kernel
theorem dX_joinRow_77 : decode bX_joinRow 77 = .ok (.aload_n 0, 1) := by decide +kernel
theorem dX_joinRow_78 : decode bX_joinRow 78 = .ok (.getfield 39, 3) := by decide +kernel
theorem dX_joinRow_81 : decode bX_joinRow 81 = .ok (.iload 4, 2) := by decide +kernel
theorem dX_joinRow_83 : decode bX_joinRow 83 = .ok (.iload 5, 2) := by decide +kernel
theorem dX_joinRow_85 : decode bX_joinRow 85 = .ok (.iadd, 1) := by decide +kernel
theorem dX_joinRow_86 : decode bX_joinRow 86 = .ok (.laload, 1) := by decide +kernel
theorem dX_joinRow_87 : decode bX_joinRow 87 = .ok (.invokestatic 123, 3) := by decide +kernel
theorem dX_joinRow_90 : decode bX_joinRow 90 = .ok (.lastore, 1) := by decide +kernel
theorem dX_joinRow_91 : decode bX_joinRow 91 = .ok (.aload_n 0, 1) := by decide +kernel
theorem dX_joinRow_92 : decode bX_joinRow 92 = .ok (.getfield 42, 3) := by decide +kernel
theorem dX_joinRow_95 : decode bX_joinRow 95 = .ok (.iload_n 3, 1) := by decide +kernel
theorem dX_joinRow_96 : decode bX_joinRow 96 = .ok (.iload 5, 2) := by decide +kernel
theorem dX_joinRow_98 : decode bX_joinRow 98 = .ok (.iadd, 1) := by decide +kernel
theorem dX_joinRow_99 : decode bX_joinRow 99 = .ok (.aload_n 0, 1) := by decide +kernel
theorem dX_joinRow_100 : decode bX_joinRow 100 = .ok (.getfield 42, 3) := by decide +kernel
theorem dX_joinRow_103 : decode bX_joinRow 103 = .ok (.iload_n 3, 1) := by decide +kernel
theorem dX_joinRow_104 : decode bX_joinRow 104 = .ok (.iload 5, 2) := by decide +kernel
theorem dX_joinRow_106 : decode bX_joinRow 106 = .ok (.iadd, 1) := by decide +kernel
theorem dX_joinRow_107 : decode bX_joinRow 107 = .ok (.laload, 1) := by decide +kernel
theorem dX_joinRow_108 : decode bX_joinRow 108 = .ok (.aload_n 0, 1) := by decide +kernel
theorem dX_joinRow_109 : decode bX_joinRow 109 = .ok (.getfield 42, 3) := by decide +kernel
theorem dX_joinRow_112 : decode bX_joinRow 112 = .ok (.iload 4, 2) := by decide +kernel
theorem dX_joinRow_114 : decode bX_joinRow 114 = .ok (.iload 5, 2) := by decide +kernel
theorem dX_joinRow_116 : decode bX_joinRow 116 = .ok (.iadd, 1) := by decide +kernel
theorem dX_joinRow_117 : decode bX_joinRow 117 = .ok (.laload, 1) := by decide +kernel
theorem dX_joinRow_118 : decode bX_joinRow 118 = .ok (.invokestatic 129, 3) := by decide +kernel
theorem dX_joinRow_121 : decode bX_joinRow 121 = .ok (.lastore, 1) := by decide +kernel
theorem dX_joinRow_122 : decode bX_joinRow 122 = .ok (.iinc 5 1, 3) := by decide +kernel
theorem dX_joinRow_125 : decode bX_joinRow 125 = .ok (.goto (-96), 3) := by decide +kernel
theorem dX_joinRow_128 : decode bX_joinRow 128 = .ok (.return_, 1) := by decide +kernel
theorem dX_keyAt_0 : decode bX_keyAt 0 = .ok (.aload_n 0, 1) := by decide +kernel
theorem dX_keyAt_1 : decode bX_keyAt 1 = .ok (.iload_n 1, 1) := by decide +kernel
theorem dX_keyAt_2 : decode bX_keyAt 2 = .ok (.invokevirtual 99, 3) := by decide +kernel
theorem dX_keyAt_5 : decode bX_keyAt 5 = .ok (.ifCond .ne 13, 3) := by decide +kernel
theorem dX_keyAt_8 : decode bX_keyAt 8 = .ok (.new 45, 3) := by decide +kernel
theorem dX_keyAt_11 : decode bX_keyAt 11 = .ok (.dup, 1) := by decide +kernel
theorem dX_keyAt_12 : decode bX_keyAt 12 = .ok (.ldc 102, 2) := by decide +kernel
theorem dX_keyAt_14 : decode bX_keyAt 14 = .ok (.invokespecial 49, 3) := by decide +kernel
theorem dX_keyAt_17 : decode bX_keyAt 17 = .ok (.athrow, 1) := by decide +kernel
theorem dX_keyAt_18 : decode bX_keyAt 18 = .ok (.aload_n 0, 1) := by decide +kernel
theorem dX_keyAt_19 : decode bX_keyAt 19 = .ok (.iload_n 2, 1) := by decide +kernel
theorem dX_keyAt_20 : decode bX_keyAt 20 = .ok (.invokevirtual 63, 3) := by decide +kernel
theorem dX_keyAt_23 : decode bX_keyAt 23 = .ok (.ifCond .ne 13, 3) := by decide +kernel
theorem dX_keyAt_26 : decode bX_keyAt 26 = .ok (.new 45, 3) := by decide +kernel
theorem dX_keyAt_29 : decode bX_keyAt 29 = .ok (.dup, 1) := by decide +kernel
theorem dX_keyAt_30 : decode bX_keyAt 30 = .ok (.ldc 67, 2) := by decide +kernel
theorem dX_keyAt_32 : decode bX_keyAt 32 = .ok (.invokespecial 49, 3) := by decide +kernel
theorem dX_keyAt_35 : decode bX_keyAt 35 = .ok (.athrow, 1) := by decide +kernel
theorem dX_keyAt_36 : decode bX_keyAt 36 = .ok (.aload_n 0, 1) := by decide +kernel
theorem dX_keyAt_37 : decode bX_keyAt 37 = .ok (.getfield 30, 3) := by decide +kernel
theorem dX_keyAt_40 : decode bX_keyAt 40 = .ok (.aload_n 0, 1) := by decide +kernel
theorem dX_keyAt_41 : decode bX_keyAt 41 = .ok (.getfield 27, 3) := by decide +kernel
theorem dX_keyAt_44 : decode bX_keyAt 44 = .ok (.iload_n 1, 1) := by decide +kernel
theorem dX_keyAt_45 : decode bX_keyAt 45 = .ok (.iaload, 1) := by decide +kernel
theorem dX_keyAt_46 : decode bX_keyAt 46 = .ok (.bipush 8, 2) := by decide +kernel
theorem dX_keyAt_48 : decode bX_keyAt 48 = .ok (.imul, 1) := by decide +kernel
theorem dX_keyAt_49 : decode bX_keyAt 49 = .ok (.iload_n 2, 1) := by decide +kernel
theorem dX_keyAt_50 : decode bX_keyAt 50 = .ok (.iadd, 1) := by decide +kernel
theorem dX_keyAt_51 : decode bX_keyAt 51 = .ok (.iaload, 1) := by decide +kernel
theorem dX_keyAt_52 : decode bX_keyAt 52 = .ok (.ireturn, 1) := by decide +kernel
theorem dX_isPlace_0 : decode bX_isPlace 0 = .ok (.iload_n 1, 1) := by decide +kernel
theorem dX_isPlace_1 : decode bX_isPlace 1 = .ok (.ifCond .lt 15, 3) := by decide +kernel
theorem dX_isPlace_4 : decode bX_isPlace 4 = .ok (.iload_n 1, 1) := by decide +kernel
theorem dX_isPlace_5 : decode bX_isPlace 5 = .ok (.aload_n 0, 1) := by decide +kernel
theorem dX_isPlace_6 : decode bX_isPlace 6 = .ok (.getfield 16, 3) := by decide +kernel
theorem dX_isPlace_9 : decode bX_isPlace 9 = .ok (.if_icmp .ge 7, 3) := by decide +kernel
theorem dX_isPlace_12 : decode bX_isPlace 12 = .ok (.iconst 1, 1) := by decide +kernel
theorem dX_isPlace_13 : decode bX_isPlace 13 = .ok (.goto 4, 3) := by decide +kernel
theorem dX_isPlace_16 : decode bX_isPlace 16 = .ok (.iconst 0, 1) := by decide +kernel
theorem dX_isPlace_17 : decode bX_isPlace 17 = .ok (.ireturn, 1) := by decide +kernel
theorem dX_count_0 : decode bX_count 0 = .ok (.aload_n 0, 1) := by decide +kernel
theorem dX_count_1 : decode bX_count 1 = .ok (.iload_n 1, 1) := by decide +kernel
theorem dX_count_2 : decode bX_count 2 = .ok (.invokevirtual 99, 3) := by decide +kernel
theorem dX_count_5 : decode bX_count 5 = .ok (.ifCond .ne 13, 3) := by decide +kernel
theorem dX_count_8 : decode bX_count 8 = .ok (.new 45, 3) := by decide +kernel
theorem dX_count_11 : decode bX_count 11 = .ok (.dup, 1) := by decide +kernel
theorem dX_count_12 : decode bX_count 12 = .ok (.ldc 102, 2) := by decide +kernel
theorem dX_count_14 : decode bX_count 14 = .ok (.invokespecial 49, 3) := by decide +kernel
theorem dX_count_17 : decode bX_count 17 = .ok (.athrow, 1) := by decide +kernel
theorem dX_count_18 : decode bX_count 18 = .ok (.aload_n 0, 1) := by decide +kernel
theorem dX_count_19 : decode bX_count 19 = .ok (.getfield 33, 3) := by decide +kernel
theorem dX_count_22 : decode bX_count 22 = .ok (.aload_n 0, 1) := by decide +kernel
theorem dX_count_23 : decode bX_count 23 = .ok (.getfield 27, 3) := by decide +kernel
theorem dX_count_26 : decode bX_count 26 = .ok (.iload_n 1, 1) := by decide +kernel
theorem dX_count_27 : decode bX_count 27 = .ok (.iaload, 1) := by decide +kernel
theorem dX_count_28 : decode bX_count 28 = .ok (.laload, 1) := by decide +kernel
theorem dX_count_29 : decode bX_count 29 = .ok (.lreturn, 1) := by decide +kernel
theorem dX_told_0 : decode bX_told 0 = .ok (.aload_n 0, 1) := by decide +kernel
theorem dX_told_1 : decode bX_told 1 = .ok (.iload_n 1, 1) := by decide +kernel
theorem dX_told_2 : decode bX_told 2 = .ok (.invokevirtual 99, 3) := by decide +kernel
theorem dX_told_5 : decode bX_told 5 = .ok (.ifCond .ne 13, 3) := by decide +kernel
theorem dX_told_8 : decode bX_told 8 = .ok (.new 45, 3) := by decide +kernel
theorem dX_told_11 : decode bX_told 11 = .ok (.dup, 1) := by decide +kernel
theorem dX_told_12 : decode bX_told 12 = .ok (.ldc 102, 2) := by decide +kernel
theorem dX_told_14 : decode bX_told 14 = .ok (.invokespecial 49, 3) := by decide +kernel
theorem dX_told_17 : decode bX_told 17 = .ok (.athrow, 1) := by decide +kernel
theorem dX_told_18 : decode bX_told 18 = .ok (.aload_n 0, 1) := by decide +kernel
theorem dX_told_19 : decode bX_told 19 = .ok (.iload_n 2, 1) := by decide +kernel
theorem dX_told_20 : decode bX_told 20 = .ok (.invokevirtual 69, 3) := by decide +kernel
theorem dX_told_23 : decode bX_told 23 = .ok (.ifCond .ne 13, 3) := by decide +kernel
theorem dX_told_26 : decode bX_told 26 = .ok (.new 45, 3) := by decide +kernel
theorem dX_told_29 : decode bX_told 29 = .ok (.dup, 1) := by decide +kernel
theorem dX_told_30 : decode bX_told 30 = .ok (.ldc 72, 2) := by decide +kernel
theorem dX_told_32 : decode bX_told 32 = .ok (.invokespecial 49, 3) := by decide +kernel
theorem dX_told_35 : decode bX_told 35 = .ok (.athrow, 1) := by decide +kernel
theorem dX_told_36 : decode bX_told 36 = .ok (.aload_n 0, 1) := by decide +kernel
theorem dX_told_37 : decode bX_told 37 = .ok (.getfield 27, 3) := by decide +kernel
theorem dX_told_40 : decode bX_told 40 = .ok (.iload_n 1, 1) := by decide +kernel
theorem dX_told_41 : decode bX_told 41 = .ok (.iaload, 1) := by decide +kernel
theorem dX_told_42 : decode bX_told 42 = .ok (.bipush 8, 2) := by decide +kernel
theorem dX_told_44 : decode bX_told 44 = .ok (.imul, 1) := by decide +kernel
theorem dX_told_45 : decode bX_told 45 = .ok (.iload_n 2, 1) := by decide +kernel
theorem dX_told_46 : decode bX_told 46 = .ok (.iadd, 1) := by decide +kernel
theorem dX_told_47 : decode bX_told 47 = .ok (.istore 4, 2) := by decide +kernel
theorem dX_told_49 : decode bX_told 49 = .ok (.iload_n 3, 1) := by decide +kernel
theorem dX_told_50 : decode bX_told 50 = .ok (.tableswitch 50 0 2 #[26, 34, 42], 26) := by decide +kernel
theorem dX_told_76 : decode bX_told 76 = .ok (.aload_n 0, 1) := by decide +kernel
theorem dX_told_77 : decode bX_told 77 = .ok (.getfield 36, 3) := by decide +kernel
theorem dX_told_80 : decode bX_told 80 = .ok (.iload 4, 2) := by decide +kernel
theorem dX_told_82 : decode bX_told 82 = .ok (.laload, 1) := by decide +kernel
theorem dX_told_83 : decode bX_told 83 = .ok (.lreturn, 1) := by decide +kernel
theorem dX_told_84 : decode bX_told 84 = .ok (.aload_n 0, 1) := by decide +kernel
theorem dX_told_85 : decode bX_told 85 = .ok (.getfield 39, 3) := by decide +kernel
theorem dX_told_88 : decode bX_told 88 = .ok (.iload 4, 2) := by decide +kernel
theorem dX_told_90 : decode bX_told 90 = .ok (.laload, 1) := by decide +kernel
theorem dX_told_91 : decode bX_told 91 = .ok (.lreturn, 1) := by decide +kernel
theorem dX_told_92 : decode bX_told 92 = .ok (.aload_n 0, 1) := by decide +kernel
theorem dX_told_93 : decode bX_told 93 = .ok (.getfield 42, 3) := by decide +kernel
theorem dX_told_96 : decode bX_told 96 = .ok (.iload 4, 2) := by decide +kernel
theorem dX_told_98 : decode bX_told 98 = .ok (.laload, 1) := by decide +kernel
theorem dX_told_99 : decode bX_told 99 = .ok (.lreturn, 1) := by decide +kernel
theorem dX_told_100 : decode bX_told 100 = .ok (.new 45, 3) := by decide +kernel
theorem dX_told_103 : decode bX_told 103 = .ok (.dup, 1) := by decide +kernel
theorem dX_told_104 : decode bX_told 104 = .ok (.ldc 104, 2) := by decide +kernel
theorem dX_told_106 : decode bX_told 106 = .ok (.invokespecial 49, 3) := by decide +kernel
theorem dX_told_109 : decode bX_told 109 = .ok (.athrow, 1) := by decide +kernel
