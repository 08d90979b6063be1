theorem dM_init_0 : decode bM_init 0 = .ok (.aload_n 0, 1) := by decide +kernel
theorem dM_init_1 : decode bM_init 1 = .ok (.invokespecial 1, 3) := by decide +kernel
theorem dM_init_4 : decode bM_init 4 = .ok (.aload_n 0, 1) := by decide +kernel
theorem dM_init_5 : decode bM_init 5 = .ok (.iconst 1, 1) := by decide +kernel
theorem dM_init_6 : decode bM_init 6 = .ok (.putfield 7, 3) := by decide +kernel
theorem dM_init_9 : decode bM_init 9 = .ok (.aload_n 0, 1) := by decide +kernel
theorem dM_init_10 : decode bM_init 10 = .ok (.sipush 8000, 3) := by decide +kernel
theorem dM_init_13 : decode bM_init 13 = .ok (.newarray .int, 2) := by decide +kernel
theorem dM_init_15 : decode bM_init 15 = .ok (.putfield 13, 3) := by decide +kernel
theorem dM_init_18 : decode bM_init 18 = .ok (.aload_n 0, 1) := by decide +kernel
theorem dM_init_19 : decode bM_init 19 = .ok (.sipush 1000, 3) := by decide +kernel
theorem dM_init_22 : decode bM_init 22 = .ok (.newarray .long, 2) := by decide +kernel
theorem dM_init_24 : decode bM_init 24 = .ok (.putfield 17, 3) := by decide +kernel
theorem dM_init_27 : decode bM_init 27 = .ok (.aload_n 0, 1) := by decide +kernel
theorem dM_init_28 : decode bM_init 28 = .ok (.sipush 8000, 3) := by decide +kernel
theorem dM_init_31 : decode bM_init 31 = .ok (.newarray .long, 2) := by decide +kernel
theorem dM_init_33 : decode bM_init 33 = .ok (.putfield 21, 3) := by decide +kernel
theorem dM_init_36 : decode bM_init 36 = .ok (.aload_n 0, 1) := by decide +kernel
theorem dM_init_37 : decode bM_init 37 = .ok (.sipush 8000, 3) := by decide +kernel
theorem dM_init_40 : decode bM_init 40 = .ok (.newarray .long, 2) := by decide +kernel
theorem dM_init_42 : decode bM_init 42 = .ok (.putfield 24, 3) := by decide +kernel
theorem dM_init_45 : decode bM_init 45 = .ok (.aload_n 0, 1) := by decide +kernel
theorem dM_init_46 : decode bM_init 46 = .ok (.sipush 8000, 3) := by decide +kernel
theorem dM_init_49 : decode bM_init 49 = .ok (.newarray .long, 2) := by decide +kernel
theorem dM_init_51 : decode bM_init 51 = .ok (.putfield 27, 3) := by decide +kernel
theorem dM_init_54 : decode bM_init 54 = .ok (.aload_n 0, 1) := by decide +kernel
theorem dM_init_55 : decode bM_init 55 = .ok (.bipush 8, 2) := by decide +kernel
theorem dM_init_57 : decode bM_init 57 = .ok (.newarray .int, 2) := by decide +kernel
theorem dM_init_59 : decode bM_init 59 = .ok (.putfield 30, 3) := by decide +kernel
theorem dM_init_62 : decode bM_init 62 = .ok (.aload_n 0, 1) := by decide +kernel
theorem dM_init_63 : decode bM_init 63 = .ok (.bipush 8, 2) := by decide +kernel
theorem dM_init_65 : decode bM_init 65 = .ok (.newarray .long, 2) := by decide +kernel
theorem dM_init_67 : decode bM_init 67 = .ok (.putfield 33, 3) := by decide +kernel
theorem dM_init_70 : decode bM_init 70 = .ok (.return_, 1) := by decide +kernel
theorem dM_thrown_0 : decode bM_thrown 0 = .ok (.aload_n 0, 1) := by decide +kernel
theorem dM_thrown_1 : decode bM_thrown 1 = .ok (.getfield 36, 3) := by decide +kernel
theorem dM_thrown_4 : decode bM_thrown 4 = .ok (.ireturn, 1) := by decide +kernel
theorem dM_begin_0 : decode bM_begin 0 = .ok (.aload_n 0, 1) := by decide +kernel
theorem dM_begin_1 : decode bM_begin 1 = .ok (.iload_n 1, 1) := by decide +kernel
theorem dM_begin_2 : decode bM_begin 2 = .ok (.ifCond .lt 20, 3) := by decide +kernel
theorem dM_begin_5 : decode bM_begin 5 = .ok (.iload_n 1, 1) := by decide +kernel
theorem dM_begin_6 : decode bM_begin 6 = .ok (.bipush 8, 2) := by decide +kernel
theorem dM_begin_8 : decode bM_begin 8 = .ok (.if_icmp .gt 14, 3) := by decide +kernel
theorem dM_begin_11 : decode bM_begin 11 = .ok (.iload_n 2, 1) := by decide +kernel
theorem dM_begin_12 : decode bM_begin 12 = .ok (.iconst 1, 1) := by decide +kernel
theorem dM_begin_13 : decode bM_begin 13 = .ok (.if_icmp .lt 9, 3) := by decide +kernel
theorem dM_begin_16 : decode bM_begin 16 = .ok (.iload_n 2, 1) := by decide +kernel
theorem dM_begin_17 : decode bM_begin 17 = .ok (.bipush 8, 2) := by decide +kernel
theorem dM_begin_19 : decode bM_begin 19 = .ok (.if_icmp .le 7, 3) := by decide +kernel
theorem dM_begin_22 : decode bM_begin 22 = .ok (.iconst 1, 1) := by decide +kernel
theorem dM_begin_23 : decode bM_begin 23 = .ok (.goto 4, 3) := by decide +kernel
theorem dM_begin_26 : decode bM_begin 26 = .ok (.iconst 0, 1) := by decide +kernel
theorem dM_begin_27 : decode bM_begin 27 = .ok (.putfield 36, 3) := by decide +kernel
theorem dM_begin_30 : decode bM_begin 30 = .ok (.aload_n 0, 1) := by decide +kernel
theorem dM_begin_31 : decode bM_begin 31 = .ok (.getfield 36, 3) := by decide +kernel
theorem dM_begin_34 : decode bM_begin 34 = .ok (.ifCond .le 4, 3) := by decide +kernel
theorem dM_begin_37 : decode bM_begin 37 = .ok (.return_, 1) := by decide +kernel
theorem dM_begin_38 : decode bM_begin 38 = .ok (.aload_n 0, 1) := by decide +kernel
theorem dM_begin_39 : decode bM_begin 39 = .ok (.iload_n 1, 1) := by decide +kernel
theorem dM_begin_40 : decode bM_begin 40 = .ok (.putfield 39, 3) := by decide +kernel
theorem dM_begin_43 : decode bM_begin 43 = .ok (.aload_n 0, 1) := by decide +kernel
theorem dM_begin_44 : decode bM_begin 44 = .ok (.iload_n 2, 1) := by decide +kernel
theorem dM_begin_45 : decode bM_begin 45 = .ok (.putfield 7, 3) := by decide +kernel
theorem dM_begin_48 : decode bM_begin 48 = .ok (.aload_n 0, 1) := by decide +kernel
theorem dM_begin_49 : decode bM_begin 49 = .ok (.iconst 0, 1) := by decide +kernel
theorem dM_begin_50 : decode bM_begin 50 = .ok (.putfield 42, 3) := by decide +kernel
theorem dM_begin_53 : decode bM_begin 53 = .ok (.iconst 0, 1) := by decide +kernel
theorem dM_begin_54 : decode bM_begin 54 = .ok (.istore_n 3, 1) := by decide +kernel
theorem dM_begin_55 : decode bM_begin 55 = .ok (.iload_n 3, 1) := by decide +kernel
theorem dM_begin_56 : decode bM_begin 56 = .ok (.bipush 8, 2) := by decide +kernel
theorem dM_begin_58 : decode bM_begin 58 = .ok (.if_icmp .ge 23, 3) := by decide +kernel
theorem dM_begin_61 : decode bM_begin 61 = .ok (.aload_n 0, 1) := by decide +kernel
theorem dM_begin_62 : decode bM_begin 62 = .ok (.getfield 30, 3) := by decide +kernel
theorem dM_begin_65 : decode bM_begin 65 = .ok (.iload_n 3, 1) := by decide +kernel
theorem dM_begin_66 : decode bM_begin 66 = .ok (.iconst 0, 1) := by decide +kernel
theorem dM_begin_67 : decode bM_begin 67 = .ok (.iastore, 1) := by decide +kernel
theorem dM_begin_68 : decode bM_begin 68 = .ok (.aload_n 0, 1) := by decide +kernel
theorem dM_begin_69 : decode bM_begin 69 = .ok (.getfield 33, 3) := by decide +kernel
theorem dM_begin_72 : decode bM_begin 72 = .ok (.iload_n 3, 1) := by decide +kernel
theorem dM_begin_73 : decode bM_begin 73 = .ok (.lconst 0, 1) := by decide +kernel
theorem dM_begin_74 : decode bM_begin 74 = .ok (.lastore, 1) := by decide +kernel
theorem dM_begin_75 : decode bM_begin 75 = .ok (.iinc 3 1, 3) := by decide +kernel
theorem dM_begin_78 : decode bM_begin 78 = .ok (.goto (-23), 3) := by decide +kernel
theorem dM_begin_81 : decode bM_begin 81 = .ok (.return_, 1) := by decide +kernel
theorem dM_key_0 : decode bM_key 0 = .ok (.aload_n 0, 1) := by decide +kernel
theorem dM_key_1 : decode bM_key 1 = .ok (.iload_n 1, 1) := by decide +kernel
theorem dM_key_2 : decode bM_key 2 = .ok (.ifCond .lt 11, 3) := by decide +kernel
theorem dM_key_5 : decode bM_key 5 = .ok (.iload_n 1, 1) := by decide +kernel
theorem dM_key_6 : decode bM_key 6 = .ok (.aload_n 0, 1) := by decide +kernel
theorem dM_key_7 : decode bM_key 7 = .ok (.getfield 39, 3) := by decide +kernel
theorem dM_key_10 : decode bM_key 10 = .ok (.if_icmp .lt 7, 3) := by decide +kernel
theorem dM_key_13 : decode bM_key 13 = .ok (.iconst 1, 1) := by decide +kernel
theorem dM_key_14 : decode bM_key 14 = .ok (.goto 4, 3) := by decide +kernel
theorem dM_key_17 : decode bM_key 17 = .ok (.iconst 0, 1) := by decide +kernel
theorem dM_key_18 : decode bM_key 18 = .ok (.putfield 36, 3) := by decide +kernel
theorem dM_key_21 : decode bM_key 21 = .ok (.aload_n 0, 1) := by decide +kernel
theorem dM_key_22 : decode bM_key 22 = .ok (.getfield 36, 3) := by decide +kernel
theorem dM_key_25 : decode bM_key 25 = .ok (.ifCond .le 5, 3) := by decide +kernel
theorem dM_key_28 : decode bM_key 28 = .ok (.iconst 0, 1) := by decide +kernel
theorem dM_key_29 : decode bM_key 29 = .ok (.ireturn, 1) := by decide +kernel
theorem dM_key_30 : decode bM_key 30 = .ok (.aload_n 0, 1) := by decide +kernel
theorem dM_key_31 : decode bM_key 31 = .ok (.getfield 30, 3) := by decide +kernel
theorem dM_key_34 : decode bM_key 34 = .ok (.iload_n 1, 1) := by decide +kernel
theorem dM_key_35 : decode bM_key 35 = .ok (.iaload, 1) := by decide +kernel
theorem dM_key_36 : decode bM_key 36 = .ok (.istore_n 3, 1) := by decide +kernel
theorem dM_key_37 : decode bM_key 37 = .ok (.aload_n 0, 1) := by decide +kernel
theorem dM_key_38 : decode bM_key 38 = .ok (.getfield 30, 3) := by decide +kernel
theorem dM_key_41 : decode bM_key 41 = .ok (.iload_n 1, 1) := by decide +kernel
theorem dM_key_42 : decode bM_key 42 = .ok (.iload_n 2, 1) := by decide +kernel
theorem dM_key_43 : decode bM_key 43 = .ok (.iastore, 1) := by decide +kernel
theorem dM_key_44 : decode bM_key 44 = .ok (.iload_n 3, 1) := by decide +kernel
theorem dM_key_45 : decode bM_key 45 = .ok (.ireturn, 1) := by decide +kernel
theorem dM_amount_0 : decode bM_amount 0 = .ok (.aload_n 0, 1) := by decide +kernel
theorem dM_amount_1 : decode bM_amount 1 = .ok (.iload_n 1, 1) := by decide +kernel
theorem dM_amount_2 : decode bM_amount 2 = .ok (.ifCond .lt 11, 3) := by decide +kernel
theorem dM_amount_5 : decode bM_amount 5 = .ok (.iload_n 1, 1) := by decide +kernel
theorem dM_amount_6 : decode bM_amount 6 = .ok (.aload_n 0, 1) := by decide +kernel
theorem dM_amount_7 : decode bM_amount 7 = .ok (.getfield 7, 3) := by decide +kernel
theorem dM_amount_10 : decode bM_amount 10 = .ok (.if_icmp .lt 7, 3) := by decide +kernel
theorem dM_amount_13 : decode bM_amount 13 = .ok (.iconst 1, 1) := by decide +kernel
theorem dM_amount_14 : decode bM_amount 14 = .ok (.goto 4, 3) := by decide +kernel
theorem dM_amount_17 : decode bM_amount 17 = .ok (.iconst 0, 1) := by decide +kernel
theorem dM_amount_18 : decode bM_amount 18 = .ok (.putfield 36, 3) := by decide +kernel
theorem dM_amount_21 : decode bM_amount 21 = .ok (.aload_n 0, 1) := by decide +kernel
theorem dM_amount_22 : decode bM_amount 22 = .ok (.getfield 36, 3) := by decide +kernel
theorem dM_amount_25 : decode bM_amount 25 = .ok (.ifCond .le 5, 3) := by decide +kernel
theorem dM_amount_28 : decode bM_amount 28 = .ok (.lconst 0, 1) := by decide +kernel
theorem dM_amount_29 : decode bM_amount 29 = .ok (.lreturn, 1) := by decide +kernel
theorem dM_amount_30 : decode bM_amount 30 = .ok (.aload_n 0, 1) := by decide +kernel
theorem dM_amount_31 : decode bM_amount 31 = .ok (.getfield 33, 3) := by decide +kernel
theorem dM_amount_34 : decode bM_amount 34 = .ok (.iload_n 1, 1) := by decide +kernel
theorem dM_amount_35 : decode bM_amount 35 = .ok (.laload, 1) := by decide +kernel
theorem dM_amount_36 : decode bM_amount 36 = .ok (.lstore 4, 2) := by decide +kernel
theorem dM_amount_38 : decode bM_amount 38 = .ok (.aload_n 0, 1) := by decide +kernel
theorem dM_amount_39 : decode bM_amount 39 = .ok (.getfield 33, 3) := by decide +kernel
theorem dM_amount_42 : decode bM_amount 42 = .ok (.iload_n 1, 1) := by decide +kernel
theorem dM_amount_43 : decode bM_amount 43 = .ok (.lload_n 2, 1) := by decide +kernel
theorem dM_amount_44 : decode bM_amount 44 = .ok (.lastore, 1) := by decide +kernel
theorem dM_amount_45 : decode bM_amount 45 = .ok (.lload 4, 2) := by decide +kernel
theorem dM_amount_47 : decode bM_amount 47 = .ok (.lreturn, 1) := by decide +kernel
theorem dM_add_0 : decode bM_add 0 = .ok (.aload_n 0, 1) := by decide +kernel
theorem dM_add_1 : decode bM_add 1 = .ok (.iload_n 1, 1) := by decide +kernel
theorem dM_add_2 : decode bM_add 2 = .ok (.iconst 1, 1) := by decide +kernel
theorem dM_add_3 : decode bM_add 3 = .ok (.if_icmp .lt 9, 3) := by decide +kernel
theorem dM_add_6 : decode bM_add 6 = .ok (.iload_n 1, 1) := by decide +kernel
theorem dM_add_7 : decode bM_add 7 = .ok (.ldc 57, 2) := by decide +kernel
theorem dM_add_9 : decode bM_add 9 = .ok (.if_icmp .le 7, 3) := by decide +kernel
theorem dM_add_12 : decode bM_add 12 = .ok (.iconst 1, 1) := by decide +kernel
theorem dM_add_13 : decode bM_add 13 = .ok (.goto 4, 3) := by decide +kernel
theorem dM_add_16 : decode bM_add 16 = .ok (.iconst 0, 1) := by decide +kernel
theorem dM_add_17 : decode bM_add 17 = .ok (.putfield 36, 3) := by decide +kernel
theorem dM_add_20 : decode bM_add 20 = .ok (.aload_n 0, 1) := by decide +kernel
theorem dM_add_21 : decode bM_add 21 = .ok (.getfield 36, 3) := by decide +kernel
theorem dM_add_24 : decode bM_add 24 = .ok (.ifCond .le 5, 3) := by decide +kernel
theorem dM_add_27 : decode bM_add 27 = .ok (.iconst 0, 1) := by decide +kernel
theorem dM_add_28 : decode bM_add 28 = .ok (.ireturn, 1) := by decide +kernel
theorem dM_add_29 : decode bM_add 29 = .ok (.aload_n 0, 1) := by decide +kernel
theorem dM_add_30 : decode bM_add 30 = .ok (.iload_n 1, 1) := by decide +kernel
theorem dM_add_31 : decode bM_add 31 = .ok (.invokevirtual 58, 3) := by decide +kernel
theorem dM_add_34 : decode bM_add 34 = .ok (.ifCond .eq 10, 3) := by decide +kernel
theorem dM_add_37 : decode bM_add 37 = .ok (.aload_n 0, 1) := by decide +kernel
theorem dM_add_38 : decode bM_add 38 = .ok (.getfield 42, 3) := by decide +kernel
theorem dM_add_41 : decode bM_add 41 = .ok (.goto 5, 3) := by decide +kernel
theorem dM_add_44 : decode bM_add 44 = .ok (.bipush (-2), 2) := by decide +kernel
theorem dM_add_46 : decode bM_add 46 = .ok (.ireturn, 1) := by decide +kernel
theorem dM_comes_0 : decode bM_comes 0 = .ok (.aload_n 0, 1) := by decide +kernel
theorem dM_comes_1 : decode bM_comes 1 = .ok (.invokevirtual 49, 3) := by decide +kernel
theorem dM_comes_4 : decode bM_comes 4 = .ok (.istore_n 2, 1) := by decide +kernel
theorem dM_comes_5 : decode bM_comes 5 = .ok (.iload_n 2, 1) := by decide +kernel
theorem dM_comes_6 : decode bM_comes 6 = .ok (.aload_n 0, 1) := by decide +kernel
theorem dM_comes_7 : decode bM_comes 7 = .ok (.getfield 42, 3) := by decide +kernel
theorem dM_comes_10 : decode bM_comes 10 = .ok (.if_icmp .ge 15, 3) := by decide +kernel
theorem dM_comes_13 : decode bM_comes 13 = .ok (.aload_n 0, 1) := by decide +kernel
theorem dM_comes_14 : decode bM_comes 14 = .ok (.iload_n 2, 1) := by decide +kernel
theorem dM_comes_15 : decode bM_comes 15 = .ok (.invokevirtual 45, 3) := by decide +kernel
theorem dM_comes_18 : decode bM_comes 18 = .ok (.ifCond .ne 7, 3) := by decide +kernel
theorem dM_comes_21 : decode bM_comes 21 = .ok (.iconst 1, 1) := by decide +kernel
theorem dM_comes_22 : decode bM_comes 22 = .ok (.goto 4, 3) := by decide +kernel
theorem dM_comes_25 : decode bM_comes 25 = .ok (.iconst 0, 1) := by decide +kernel
theorem dM_comes_26 : decode bM_comes 26 = .ok (.istore_n 3, 1) := by decide +kernel
theorem dM_comes_27 : decode bM_comes 27 = .ok (.iload_n 3, 1) := by decide +kernel
theorem dM_comes_28 : decode bM_comes 28 = .ok (.ifCond .ne 15, 3) := by decide +kernel
theorem dM_comes_31 : decode bM_comes 31 = .ok (.aload_n 0, 1) := by decide +kernel
theorem dM_comes_32 : decode bM_comes 32 = .ok (.getfield 42, 3) := by decide +kernel
theorem dM_comes_35 : decode bM_comes 35 = .ok (.sipush 1000, 3) := by decide +kernel
theorem dM_comes_38 : decode bM_comes 38 = .ok (.if_icmp .ne 5, 3) := by decide +kernel
theorem dM_comes_41 : decode bM_comes 41 = .ok (.iconst 0, 1) := by decide +kernel
theorem dM_comes_42 : decode bM_comes 42 = .ok (.ireturn, 1) := by decide +kernel
theorem dM_comes_43 : decode bM_comes 43 = .ok (.iload_n 3, 1) := by decide +kernel
theorem dM_comes_44 : decode bM_comes 44 = .ok (.ifCond .ne 134, 3) := by decide +kernel
theorem dM_comes_47 : decode bM_comes 47 = .ok (.aload_n 0, 1) := by decide +kernel
theorem dM_comes_48 : decode bM_comes 48 = .ok (.getfield 42, 3) := by decide +kernel
theorem dM_comes_51 : decode bM_comes 51 = .ok (.istore 4, 2) := by decide +kernel
theorem dM_comes_53 : decode bM_comes 53 = .ok (.iload 4, 2) := by decide +kernel
theorem dM_comes_55 : decode bM_comes 55 = .ok (.iload_n 2, 1) := by decide +kernel
theorem dM_comes_56 : decode bM_comes 56 = .ok (.if_icmp .le 19, 3) := by decide +kernel
theorem dM_comes_59 : decode bM_comes 59 = .ok (.aload_n 0, 1) := by decide +kernel
theorem dM_comes_60 : decode bM_comes 60 = .ok (.iload 4, 2) := by decide +kernel
theorem dM_comes_62 : decode bM_comes 62 = .ok (.iconst 1, 1) := by decide +kernel
theorem dM_comes_63 : decode bM_comes 63 = .ok (.isub, 1) := by decide +kernel
theorem dM_comes_64 : decode bM_comes 64 = .ok (.iload 4, 2) := by decide +kernel
theorem dM_comes_66 : decode bM_comes 66 = .ok (.invokevirtual 53, 3) := by decide +kernel
theorem dM_comes_69 : decode bM_comes 69 = .ok (.iinc 4 (-1), 3) := by decide +kernel
theorem dM_comes_72 : decode bM_comes 72 = .ok (.goto (-19), 3) := by decide +kernel
theorem dM_comes_75 : decode bM_comes 75 = .ok (.aload_n 0, 1) := by decide +kernel
theorem dM_comes_76 : decode bM_comes 76 = .ok (.dup, 1) := by decide +kernel
theorem dM_comes_77 : decode bM_comes 77 = .ok (.getfield 42, 3) := by decide +kernel
theorem dM_comes_80 : decode bM_comes 80 = .ok (.iconst 1, 1) := by decide +kernel
theorem dM_comes_81 : decode bM_comes 81 = .ok (.iadd, 1) := by decide +kernel
theorem dM_comes_82 : decode bM_comes 82 = .ok (.putfield 42, 3) := by decide +kernel
theorem dM_comes_85 : decode bM_comes 85 = .ok (.aload_n 0, 1) := by decide +kernel
theorem dM_comes_86 : decode bM_comes 86 = .ok (.getfield 17, 3) := by decide +kernel
theorem dM_comes_89 : decode bM_comes 89 = .ok (.iload_n 2, 1) := by decide +kernel
theorem dM_comes_90 : decode bM_comes 90 = .ok (.lconst 0, 1) := by decide +kernel
theorem dM_comes_91 : decode bM_comes 91 = .ok (.lastore, 1) := by decide +kernel
theorem dM_comes_92 : decode bM_comes 92 = .ok (.iconst 0, 1) := by decide +kernel
theorem dM_comes_93 : decode bM_comes 93 = .ok (.istore 4, 2) := by decide +kernel
theorem dM_comes_95 : decode bM_comes 95 = .ok (.iload 4, 2) := by decide +kernel
theorem dM_comes_97 : decode bM_comes 97 = .ok (.bipush 8, 2) := by decide +kernel
theorem dM_comes_99 : decode bM_comes 99 = .ok (.if_icmp .ge 79, 3) := by decide +kernel
theorem dM_comes_102 : decode bM_comes 102 = .ok (.aload_n 0, 1) := by decide +kernel
theorem dM_comes_103 : decode bM_comes 103 = .ok (.getfield 13, 3) := by decide +kernel
theorem dM_comes_106 : decode bM_comes 106 = .ok (.bipush 8, 2) := by decide +kernel
theorem dM_comes_108 : decode bM_comes 108 = .ok (.iload_n 2, 1) := by decide +kernel
theorem dM_comes_109 : decode bM_comes 109 = .ok (.imul, 1) := by decide +kernel
theorem dM_comes_110 : decode bM_comes 110 = .ok (.iload 4, 2) := by decide +kernel
theorem dM_comes_112 : decode bM_comes 112 = .ok (.iadd, 1) := by decide +kernel
theorem dM_comes_113 : decode bM_comes 113 = .ok (.aload_n 0, 1) := by decide +kernel
theorem dM_comes_114 : decode bM_comes 114 = .ok (.getfield 30, 3) := by decide +kernel
theorem dM_comes_117 : decode bM_comes 117 = .ok (.iload 4, 2) := by decide +kernel
theorem dM_comes_119 : decode bM_comes 119 = .ok (.iaload, 1) := by decide +kernel
theorem dM_comes_120 : decode bM_comes 120 = .ok (.iastore, 1) := by decide +kernel
theorem dM_comes_121 : decode bM_comes 121 = .ok (.aload_n 0, 1) := by decide +kernel
theorem dM_comes_122 : decode bM_comes 122 = .ok (.getfield 21, 3) := by decide +kernel
theorem dM_comes_125 : decode bM_comes 125 = .ok (.bipush 8, 2) := by decide +kernel
theorem dM_comes_127 : decode bM_comes 127 = .ok (.iload_n 2, 1) := by decide +kernel
theorem dM_comes_128 : decode bM_comes 128 = .ok (.imul, 1) := by decide +kernel
theorem dM_comes_129 : decode bM_comes 129 = .ok (.iload 4, 2) := by decide +kernel
theorem dM_comes_131 : decode bM_comes 131 = .ok (.iadd, 1) := by decide +kernel
theorem dM_comes_132 : decode bM_comes 132 = .ok (.lconst 0, 1) := by decide +kernel
theorem dM_comes_133 : decode bM_comes 133 = .ok (.lastore, 1) := by decide +kernel
theorem dM_comes_134 : decode bM_comes 134 = .ok (.aload_n 0, 1) := by decide +kernel
theorem dM_comes_135 : decode bM_comes 135 = .ok (.getfield 24, 3) := by decide +kernel
theorem dM_comes_138 : decode bM_comes 138 = .ok (.bipush 8, 2) := by decide +kernel
theorem dM_comes_140 : decode bM_comes 140 = .ok (.iload_n 2, 1) := by decide +kernel
theorem dM_comes_141 : decode bM_comes 141 = .ok (.imul, 1) := by decide +kernel
theorem dM_comes_142 : decode bM_comes 142 = .ok (.iload 4, 2) := by decide +kernel
theorem dM_comes_144 : decode bM_comes 144 = .ok (.iadd, 1) := by decide +kernel
theorem dM_comes_145 : decode bM_comes 145 = .ok (.aload_n 0, 1) := by decide +kernel
theorem dM_comes_146 : decode bM_comes 146 = .ok (.getfield 33, 3) := by decide +kernel
theorem dM_comes_149 : decode bM_comes 149 = .ok (.iload 4, 2) := by decide +kernel
theorem dM_comes_151 : decode bM_comes 151 = .ok (.laload, 1) := by decide +kernel
theorem dM_comes_152 : decode bM_comes 152 = .ok (.lastore, 1) := by decide +kernel
theorem dM_comes_153 : decode bM_comes 153 = .ok (.aload_n 0, 1) := by decide +kernel
theorem dM_comes_154 : decode bM_comes 154 = .ok (.getfield 27, 3) := by decide +kernel
theorem dM_comes_157 : decode bM_comes 157 = .ok (.bipush 8, 2) := by decide +kernel
theorem dM_comes_159 : decode bM_comes 159 = .ok (.iload_n 2, 1) := by decide +kernel
theorem dM_comes_160 : decode bM_comes 160 = .ok (.imul, 1) := by decide +kernel
theorem dM_comes_161 : decode bM_comes 161 = .ok (.iload 4, 2) := by decide +kernel
theorem dM_comes_163 : decode bM_comes 163 = .ok (.iadd, 1) := by decide +kernel
theorem dM_comes_164 : decode bM_comes 164 = .ok (.aload_n 0, 1) := by decide +kernel
theorem dM_comes_165 : decode bM_comes 165 = .ok (.getfield 33, 3) := by decide +kernel
theorem dM_comes_168 : decode bM_comes 168 = .ok (.iload 4, 2) := by decide +kernel
theorem dM_comes_170 : decode bM_comes 170 = .ok (.laload, 1) := by decide +kernel
theorem dM_comes_171 : decode bM_comes 171 = .ok (.lastore, 1) := by decide +kernel
theorem dM_comes_172 : decode bM_comes 172 = .ok (.iinc 4 1, 3) := by decide +kernel
theorem dM_comes_175 : decode bM_comes 175 = .ok (.goto (-80), 3) := by decide +kernel
theorem dM_comes_178 : decode bM_comes 178 = .ok (.aload_n 0, 1) := by decide +kernel
theorem dM_comes_179 : decode bM_comes 179 = .ok (.getfield 17, 3) := by decide +kernel
theorem dM_comes_182 : decode bM_comes 182 = .ok (.iload_n 2, 1) := by decide +kernel
theorem dM_comes_183 : decode bM_comes 183 = .ok (.dup2, 1) := by decide +kernel
theorem dM_comes_184 : decode bM_comes 184 = .ok (.laload, 1) := by decide +kernel
theorem dM_comes_185 : decode bM_comes 185 = .ok (.iload_n 1, 1) := by decide +kernel
theorem dM_comes_186 : decode bM_comes 186 = .ok (.i2l, 1) := by decide +kernel
theorem dM_comes_187 : decode bM_comes 187 = .ok (.ladd, 1) := by decide +kernel
theorem dM_comes_188 : decode bM_comes 188 = .ok (.lastore, 1) := by decide +kernel
theorem dM_comes_189 : decode bM_comes 189 = .ok (.iconst 0, 1) := by decide +kernel
theorem dM_comes_190 : decode bM_comes 190 = .ok (.istore 4, 2) := by decide +kernel
theorem dM_comes_192 : decode bM_comes 192 = .ok (.iload 4, 2) := by decide +kernel
theorem dM_comes_194 : decode bM_comes 194 = .ok (.aload_n 0, 1) := by decide +kernel
theorem dM_comes_195 : decode bM_comes 195 = .ok (.getfield 7, 3) := by decide +kernel
theorem dM_comes_198 : decode bM_comes 198 = .ok (.if_icmp .ge 132, 3) := by decide +kernel
theorem dM_comes_201 : decode bM_comes 201 = .ok (.aload_n 0, 1) := by decide +kernel
theorem dM_comes_202 : decode bM_comes 202 = .ok (.getfield 33, 3) := by decide +kernel
theorem dM_comes_205 : decode bM_comes 205 = .ok (.iload 4, 2) := by decide +kernel
theorem dM_comes_207 : decode bM_comes 207 = .ok (.laload, 1) := by decide +kernel
theorem dM_comes_208 : decode bM_comes 208 = .ok (.lstore 5, 2) := by decide +kernel
theorem dM_comes_210 : decode bM_comes 210 = .ok (.aload_n 0, 1) := by decide +kernel
theorem dM_comes_211 : decode bM_comes 211 = .ok (.getfield 21, 3) := by decide +kernel
theorem dM_comes_214 : decode bM_comes 214 = .ok (.bipush 8, 2) := by decide +kernel
theorem dM_comes_216 : decode bM_comes 216 = .ok (.iload_n 2, 1) := by decide +kernel
theorem dM_comes_217 : decode bM_comes 217 = .ok (.imul, 1) := by decide +kernel
theorem dM_comes_218 : decode bM_comes 218 = .ok (.iload 4, 2) := by decide +kernel
theorem dM_comes_220 : decode bM_comes 220 = .ok (.iadd, 1) := by decide +kernel
theorem dM_comes_221 : decode bM_comes 221 = .ok (.dup2, 1) := by decide +kernel
theorem dM_comes_222 : decode bM_comes 222 = .ok (.laload, 1) := by decide +kernel
theorem dM_comes_223 : decode bM_comes 223 = .ok (.iload_n 1, 1) := by decide +kernel
theorem dM_comes_224 : decode bM_comes 224 = .ok (.i2l, 1) := by decide +kernel
theorem dM_comes_225 : decode bM_comes 225 = .ok (.lload 5, 2) := by decide +kernel
theorem dM_comes_227 : decode bM_comes 227 = .ok (.lmul, 1) := by decide +kernel
theorem dM_comes_228 : decode bM_comes 228 = .ok (.ladd, 1) := by decide +kernel
theorem dM_comes_229 : decode bM_comes 229 = .ok (.lastore, 1) := by decide +kernel
theorem dM_comes_230 : decode bM_comes 230 = .ok (.aload_n 0, 1) := by decide +kernel
theorem dM_comes_231 : decode bM_comes 231 = .ok (.getfield 24, 3) := by decide +kernel
theorem dM_comes_234 : decode bM_comes 234 = .ok (.bipush 8, 2) := by decide +kernel
theorem dM_comes_236 : decode bM_comes 236 = .ok (.iload_n 2, 1) := by decide +kernel
theorem dM_comes_237 : decode bM_comes 237 = .ok (.imul, 1) := by decide +kernel
theorem dM_comes_238 : decode bM_comes 238 = .ok (.iload 4, 2) := by decide +kernel
theorem dM_comes_240 : decode bM_comes 240 = .ok (.iadd, 1) := by decide +kernel
theorem dM_comes_241 : decode bM_comes 241 = .ok (.lload 5, 2) := by decide +kernel
theorem dM_comes_243 : decode bM_comes 243 = .ok (.aload_n 0, 1) := by decide +kernel
theorem dM_comes_244 : decode bM_comes 244 = .ok (.getfield 24, 3) := by decide +kernel
theorem dM_comes_247 : decode bM_comes 247 = .ok (.bipush 8, 2) := by decide +kernel
theorem dM_comes_249 : decode bM_comes 249 = .ok (.iload_n 2, 1) := by decide +kernel
theorem dM_comes_250 : decode bM_comes 250 = .ok (.imul, 1) := by decide +kernel
theorem dM_comes_251 : decode bM_comes 251 = .ok (.iload 4, 2) := by decide +kernel
theorem dM_comes_253 : decode bM_comes 253 = .ok (.iadd, 1) := by decide +kernel
theorem dM_comes_254 : decode bM_comes 254 = .ok (.laload, 1) := by decide +kernel
theorem dM_comes_255 : decode bM_comes 255 = .ok (.lcmp, 1) := by decide +kernel
theorem dM_comes_256 : decode bM_comes 256 = .ok (.ifCond .ge 8, 3) := by decide +kernel
theorem dM_comes_259 : decode bM_comes 259 = .ok (.lload 5, 2) := by decide +kernel
theorem dM_comes_261 : decode bM_comes 261 = .ok (.goto 15, 3) := by decide +kernel
theorem dM_comes_264 : decode bM_comes 264 = .ok (.aload_n 0, 1) := by decide +kernel
theorem dM_comes_265 : decode bM_comes 265 = .ok (.getfield 24, 3) := by decide +kernel
theorem dM_comes_268 : decode bM_comes 268 = .ok (.bipush 8, 2) := by decide +kernel
theorem dM_comes_270 : decode bM_comes 270 = .ok (.iload_n 2, 1) := by decide +kernel
theorem dM_comes_271 : decode bM_comes 271 = .ok (.imul, 1) := by decide +kernel
theorem dM_comes_272 : decode bM_comes 272 = .ok (.iload 4, 2) := by decide +kernel
theorem dM_comes_274 : decode bM_comes 274 = .ok (.iadd, 1) := by decide +kernel
theorem dM_comes_275 : decode bM_comes 275 = .ok (.laload, 1) := by decide +kernel
theorem dM_comes_276 : decode bM_comes 276 = .ok (.lastore, 1) := by decide +kernel
theorem dM_comes_277 : decode bM_comes 277 = .ok (.aload_n 0, 1) := by decide +kernel
theorem dM_comes_278 : decode bM_comes 278 = .ok (.getfield 27, 3) := by decide +kernel
theorem dM_comes_281 : decode bM_comes 281 = .ok (.bipush 8, 2) := by decide +kernel
theorem dM_comes_283 : decode bM_comes 283 = .ok (.iload_n 2, 1) := by decide +kernel
theorem dM_comes_284 : decode bM_comes 284 = .ok (.imul, 1) := by decide +kernel
theorem dM_comes_285 : decode bM_comes 285 = .ok (.iload 4, 2) := by decide +kernel
theorem dM_comes_287 : decode bM_comes 287 = .ok (.iadd, 1) := by decide +kernel
theorem dM_comes_288 : decode bM_comes 288 = .ok (.lload 5, 2) := by decide +kernel
theorem dM_comes_290 : decode bM_comes 290 = .ok (.aload_n 0, 1) := by decide +kernel
theorem dM_comes_291 : decode bM_comes 291 = .ok (.getfield 27, 3) := by decide +kernel
theorem dM_comes_294 : decode bM_comes 294 = .ok (.bipush 8, 2) := by decide +kernel
theorem dM_comes_296 : decode bM_comes 296 = .ok (.iload_n 2, 1) := by decide +kernel
theorem dM_comes_297 : decode bM_comes 297 = .ok (.imul, 1) := by decide +kernel
theorem dM_comes_298 : decode bM_comes 298 = .ok (.iload 4, 2) := by decide +kernel
theorem dM_comes_300 : decode bM_comes 300 = .ok (.iadd, 1) := by decide +kernel
theorem dM_comes_301 : decode bM_comes 301 = .ok (.laload, 1) := by decide +kernel
theorem dM_comes_302 : decode bM_comes 302 = .ok (.lcmp, 1) := by decide +kernel
theorem dM_comes_303 : decode bM_comes 303 = .ok (.ifCond .le 8, 3) := by decide +kernel
theorem dM_comes_306 : decode bM_comes 306 = .ok (.lload 5, 2) := by decide +kernel
theorem dM_comes_308 : decode bM_comes 308 = .ok (.goto 15, 3) := by decide +kernel
theorem dM_comes_311 : decode bM_comes 311 = .ok (.aload_n 0, 1) := by decide +kernel
theorem dM_comes_312 : decode bM_comes 312 = .ok (.getfield 27, 3) := by decide +kernel
theorem dM_comes_315 : decode bM_comes 315 = .ok (.bipush 8, 2) := by decide +kernel
theorem dM_comes_317 : decode bM_comes 317 = .ok (.iload_n 2, 1) := by decide +kernel
theorem dM_comes_318 : decode bM_comes 318 = .ok (.imul, 1) := by decide +kernel
theorem dM_comes_319 : decode bM_comes 319 = .ok (.iload 4, 2) := by decide +kernel
theorem dM_comes_321 : decode bM_comes 321 = .ok (.iadd, 1) := by decide +kernel
theorem dM_comes_322 : decode bM_comes 322 = .ok (.laload, 1) := by decide +kernel
theorem dM_comes_323 : decode bM_comes 323 = .ok (.lastore, 1) := by decide +kernel
theorem dM_comes_324 : decode bM_comes 324 = .ok (.iinc 4 1, 3) := by decide +kernel
theorem dM_comes_327 : decode bM_comes 327 = .ok (.goto (-135), 3) := by decide +kernel
theorem dM_comes_330 : decode bM_comes 330 = .ok (.iconst 1, 1) := by decide +kernel
theorem dM_comes_331 : decode bM_comes 331 = .ok (.ireturn, 1) := by decide +kernel
theorem dM_before_0 : decode bM_before 0 = .ok (.iconst 0, 1) := by decide +kernel
theorem dM_before_1 : decode bM_before 1 = .ok (.istore_n 1, 1) := by decide +kernel
theorem dM_before_2 : decode bM_before 2 = .ok (.iload_n 1, 1) := by decide +kernel
theorem dM_before_3 : decode bM_before 3 = .ok (.aload_n 0, 1) := by decide +kernel
theorem dM_before_4 : decode bM_before 4 = .ok (.getfield 42, 3) := by decide +kernel
theorem dM_before_7 : decode bM_before 7 = .ok (.if_icmp .ge 17, 3) := by decide +kernel
theorem dM_before_10 : decode bM_before 10 = .ok (.aload_n 0, 1) := by decide +kernel
theorem dM_before_11 : decode bM_before 11 = .ok (.iload_n 1, 1) := by decide +kernel
theorem dM_before_12 : decode bM_before 12 = .ok (.invokevirtual 45, 3) := by decide +kernel
theorem dM_before_15 : decode bM_before 15 = .ok (.ifCond .le 9, 3) := by decide +kernel
theorem dM_before_18 : decode bM_before 18 = .ok (.iinc 1 1, 3) := by decide +kernel
theorem dM_before_21 : decode bM_before 21 = .ok (.goto (-19), 3) := by decide +kernel
theorem dM_before_24 : decode bM_before 24 = .ok (.iload_n 1, 1) := by decide +kernel
theorem dM_before_25 : decode bM_before 25 = .ok (.ireturn, 1) := by decide +kernel
theorem dM_against_0 : decode bM_against 0 = .ok (.iconst 0, 1) := by decide +kernel
theorem dM_against_1 : decode bM_against 1 = .ok (.istore_n 2, 1) := by decide +kernel
theorem dM_against_2 : decode bM_against 2 = .ok (.iload_n 2, 1) := by decide +kernel
theorem dM_against_3 : decode bM_against 3 = .ok (.aload_n 0, 1) := by decide +kernel
theorem dM_against_4 : decode bM_against 4 = .ok (.getfield 39, 3) := by decide +kernel
theorem dM_against_7 : decode bM_against 7 = .ok (.if_icmp .ge 55, 3) := by decide +kernel
theorem dM_against_10 : decode bM_against 10 = .ok (.aload_n 0, 1) := by decide +kernel
theorem dM_against_11 : decode bM_against 11 = .ok (.getfield 30, 3) := by decide +kernel
theorem dM_against_14 : decode bM_against 14 = .ok (.iload_n 2, 1) := by decide +kernel
theorem dM_against_15 : decode bM_against 15 = .ok (.iaload, 1) := by decide +kernel
theorem dM_against_16 : decode bM_against 16 = .ok (.aload_n 0, 1) := by decide +kernel
theorem dM_against_17 : decode bM_against 17 = .ok (.getfield 13, 3) := by decide +kernel
theorem dM_against_20 : decode bM_against 20 = .ok (.bipush 8, 2) := by decide +kernel
theorem dM_against_22 : decode bM_against 22 = .ok (.iload_n 1, 1) := by decide +kernel
theorem dM_against_23 : decode bM_against 23 = .ok (.imul, 1) := by decide +kernel
theorem dM_against_24 : decode bM_against 24 = .ok (.iload_n 2, 1) := by decide +kernel
theorem dM_against_25 : decode bM_against 25 = .ok (.iadd, 1) := by decide +kernel
theorem dM_against_26 : decode bM_against 26 = .ok (.iaload, 1) := by decide +kernel
theorem dM_against_27 : decode bM_against 27 = .ok (.if_icmp .eq 29, 3) := by decide +kernel
theorem dM_against_30 : decode bM_against 30 = .ok (.aload_n 0, 1) := by decide +kernel
theorem dM_against_31 : decode bM_against 31 = .ok (.getfield 30, 3) := by decide +kernel
theorem dM_against_34 : decode bM_against 34 = .ok (.iload_n 2, 1) := by decide +kernel
theorem dM_against_35 : decode bM_against 35 = .ok (.iaload, 1) := by decide +kernel
theorem dM_against_36 : decode bM_against 36 = .ok (.aload_n 0, 1) := by decide +kernel
theorem dM_against_37 : decode bM_against 37 = .ok (.getfield 13, 3) := by decide +kernel
theorem dM_against_40 : decode bM_against 40 = .ok (.bipush 8, 2) := by decide +kernel
theorem dM_against_42 : decode bM_against 42 = .ok (.iload_n 1, 1) := by decide +kernel
theorem dM_against_43 : decode bM_against 43 = .ok (.imul, 1) := by decide +kernel
theorem dM_against_44 : decode bM_against 44 = .ok (.iload_n 2, 1) := by decide +kernel
theorem dM_against_45 : decode bM_against 45 = .ok (.iadd, 1) := by decide +kernel
theorem dM_against_46 : decode bM_against 46 = .ok (.iaload, 1) := by decide +kernel
theorem dM_against_47 : decode bM_against 47 = .ok (.if_icmp .ge 7, 3) := by decide +kernel
theorem dM_against_50 : decode bM_against 50 = .ok (.iconst (-1), 1) := by decide +kernel
theorem dM_against_51 : decode bM_against 51 = .ok (.goto 4, 3) := by decide +kernel
theorem dM_against_54 : decode bM_against 54 = .ok (.iconst 1, 1) := by decide +kernel
theorem dM_against_55 : decode bM_against 55 = .ok (.ireturn, 1) := by decide +kernel
theorem dM_against_56 : decode bM_against 56 = .ok (.iinc 2 1, 3) := by decide +kernel
theorem dM_against_59 : decode bM_against 59 = .ok (.goto (-57), 3) := by decide +kernel
theorem dM_against_62 : decode bM_against 62 = .ok (.iconst 0, 1) := by decide +kernel
theorem dM_against_63 : decode bM_against 63 = .ok (.ireturn, 1) := by decide +kernel
theorem dM_copy_0 : decode bM_copy 0 = .ok (.iconst 0, 1) := by decide +kernel
theorem dM_copy_1 : decode bM_copy 1 = .ok (.istore_n 3, 1) := by decide +kernel
theorem dM_copy_2 : decode bM_copy 2 = .ok (.iload_n 3, 1) := by decide +kernel
theorem dM_copy_3 : decode bM_copy 3 = .ok (.bipush 8, 2) := by decide +kernel
theorem dM_copy_5 : decode bM_copy 5 = .ok (.if_icmp .ge 97, 3) := by decide +kernel
theorem dM_copy_8 : decode bM_copy 8 = .ok (.aload_n 0, 1) := by decide +kernel
theorem dM_copy_9 : decode bM_copy 9 = .ok (.getfield 13, 3) := by decide +kernel
theorem dM_copy_12 : decode bM_copy 12 = .ok (.bipush 8, 2) := by decide +kernel
theorem dM_copy_14 : decode bM_copy 14 = .ok (.iload_n 2, 1) := by decide +kernel
theorem dM_copy_15 : decode bM_copy 15 = .ok (.imul, 1) := by decide +kernel
theorem dM_copy_16 : decode bM_copy 16 = .ok (.iload_n 3, 1) := by decide +kernel
theorem dM_copy_17 : decode bM_copy 17 = .ok (.iadd, 1) := by decide +kernel
theorem dM_copy_18 : decode bM_copy 18 = .ok (.aload_n 0, 1) := by decide +kernel
theorem dM_copy_19 : decode bM_copy 19 = .ok (.getfield 13, 3) := by decide +kernel
theorem dM_copy_22 : decode bM_copy 22 = .ok (.bipush 8, 2) := by decide +kernel
theorem dM_copy_24 : decode bM_copy 24 = .ok (.iload_n 1, 1) := by decide +kernel
theorem dM_copy_25 : decode bM_copy 25 = .ok (.imul, 1) := by decide +kernel
theorem dM_copy_26 : decode bM_copy 26 = .ok (.iload_n 3, 1) := by decide +kernel
theorem dM_copy_27 : decode bM_copy 27 = .ok (.iadd, 1) := by decide +kernel
theorem dM_copy_28 : decode bM_copy 28 = .ok (.iaload, 1) := by decide +kernel
theorem dM_copy_29 : decode bM_copy 29 = .ok (.iastore, 1) := by decide +kernel
theorem dM_copy_30 : decode bM_copy 30 = .ok (.aload_n 0, 1) := by decide +kernel
theorem dM_copy_31 : decode bM_copy 31 = .ok (.getfield 21, 3) := by decide +kernel
theorem dM_copy_34 : decode bM_copy 34 = .ok (.bipush 8, 2) := by decide +kernel
theorem dM_copy_36 : decode bM_copy 36 = .ok (.iload_n 2, 1) := by decide +kernel
theorem dM_copy_37 : decode bM_copy 37 = .ok (.imul, 1) := by decide +kernel
theorem dM_copy_38 : decode bM_copy 38 = .ok (.iload_n 3, 1) := by decide +kernel
theorem dM_copy_39 : decode bM_copy 39 = .ok (.iadd, 1) := by decide +kernel
theorem dM_copy_40 : decode bM_copy 40 = .ok (.aload_n 0, 1) := by decide +kernel
theorem dM_copy_41 : decode bM_copy 41 = .ok (.getfield 21, 3) := by decide +kernel
theorem dM_copy_44 : decode bM_copy 44 = .ok (.bipush 8, 2) := by decide +kernel
theorem dM_copy_46 : decode bM_copy 46 = .ok (.iload_n 1, 1) := by decide +kernel
theorem dM_copy_47 : decode bM_copy 47 = .ok (.imul, 1) := by decide +kernel
theorem dM_copy_48 : decode bM_copy 48 = .ok (.iload_n 3, 1) := by decide +kernel
theorem dM_copy_49 : decode bM_copy 49 = .ok (.iadd, 1) := by decide +kernel
theorem dM_copy_50 : decode bM_copy 50 = .ok (.laload, 1) := by decide +kernel
theorem dM_copy_51 : decode bM_copy 51 = .ok (.lastore, 1) := by decide +kernel
theorem dM_copy_52 : decode bM_copy 52 = .ok (.aload_n 0, 1) := by decide +kernel
theorem dM_copy_53 : decode bM_copy 53 = .ok (.getfield 24, 3) := by decide +kernel
theorem dM_copy_56 : decode bM_copy 56 = .ok (.bipush 8, 2) := by decide +kernel
theorem dM_copy_58 : decode bM_copy 58 = .ok (.iload_n 2, 1) := by decide +kernel
theorem dM_copy_59 : decode bM_copy 59 = .ok (.imul, 1) := by decide +kernel
theorem dM_copy_60 : decode bM_copy 60 = .ok (.iload_n 3, 1) := by decide +kernel
theorem dM_copy_61 : decode bM_copy 61 = .ok (.iadd, 1) := by decide +kernel
theorem dM_copy_62 : decode bM_copy 62 = .ok (.aload_n 0, 1) := by decide +kernel
theorem dM_copy_63 : decode bM_copy 63 = .ok (.getfield 24, 3) := by decide +kernel
theorem dM_copy_66 : decode bM_copy 66 = .ok (.bipush 8, 2) := by decide +kernel
theorem dM_copy_68 : decode bM_copy 68 = .ok (.iload_n 1, 1) := by decide +kernel
theorem dM_copy_69 : decode bM_copy 69 = .ok (.imul, 1) := by decide +kernel
theorem dM_copy_70 : decode bM_copy 70 = .ok (.iload_n 3, 1) := by decide +kernel
theorem dM_copy_71 : decode bM_copy 71 = .ok (.iadd, 1) := by decide +kernel
theorem dM_copy_72 : decode bM_copy 72 = .ok (.laload, 1) := by decide +kernel
theorem dM_copy_73 : decode bM_copy 73 = .ok (.lastore, 1) := by decide +kernel
theorem dM_copy_74 : decode bM_copy 74 = .ok (.aload_n 0, 1) := by decide +kernel
theorem dM_copy_75 : decode bM_copy 75 = .ok (.getfield 27, 3) := by decide +kernel
theorem dM_copy_78 : decode bM_copy 78 = .ok (.bipush 8, 2) := by decide +kernel
theorem dM_copy_80 : decode bM_copy 80 = .ok (.iload_n 2, 1) := by decide +kernel
theorem dM_copy_81 : decode bM_copy 81 = .ok (.imul, 1) := by decide +kernel
theorem dM_copy_82 : decode bM_copy 82 = .ok (.iload_n 3, 1) := by decide +kernel
theorem dM_copy_83 : decode bM_copy 83 = .ok (.iadd, 1) := by decide +kernel
theorem dM_copy_84 : decode bM_copy 84 = .ok (.aload_n 0, 1) := by decide +kernel
theorem dM_copy_85 : decode bM_copy 85 = .ok (.getfield 27, 3) := by decide +kernel
theorem dM_copy_88 : decode bM_copy 88 = .ok (.bipush 8, 2) := by decide +kernel
theorem dM_copy_90 : decode bM_copy 90 = .ok (.iload_n 1, 1) := by decide +kernel
theorem dM_copy_91 : decode bM_copy 91 = .ok (.imul, 1) := by decide +kernel
theorem dM_copy_92 : decode bM_copy 92 = .ok (.iload_n 3, 1) := by decide +kernel
theorem dM_copy_93 : decode bM_copy 93 = .ok (.iadd, 1) := by decide +kernel
theorem dM_copy_94 : decode bM_copy 94 = .ok (.laload, 1) := by decide +kernel
theorem dM_copy_95 : decode bM_copy 95 = .ok (.lastore, 1) := by decide +kernel
theorem dM_copy_96 : decode bM_copy 96 = .ok (.iinc 3 1, 3) := by decide +kernel
theorem dM_copy_99 : decode bM_copy 99 = .ok (.goto (-97), 3) := by decide +kernel
theorem dM_copy_102 : decode bM_copy 102 = .ok (.aload_n 0, 1) := by decide +kernel
theorem dM_copy_103 : decode bM_copy 103 = .ok (.getfield 17, 3) := by decide +kernel
theorem dM_copy_106 : decode bM_copy 106 = .ok (.iload_n 2, 1) := by decide +kernel
theorem dM_copy_107 : decode bM_copy 107 = .ok (.aload_n 0, 1) := by decide +kernel
theorem dM_copy_108 : decode bM_copy 108 = .ok (.getfield 17, 3) := by decide +kernel
theorem dM_copy_111 : decode bM_copy 111 = .ok (.iload_n 1, 1) := by decide +kernel
theorem dM_copy_112 : decode bM_copy 112 = .ok (.laload, 1) := by decide +kernel
theorem dM_copy_113 : decode bM_copy 113 = .ok (.lastore, 1) := by decide +kernel
theorem dM_copy_114 : decode bM_copy 114 = .ok (.return_, 1) := by decide +kernel
theorem dM_spread_0 : decode bM_spread 0 = .ok (.aload_n 0, 1) := by decide +kernel
theorem dM_spread_1 : decode bM_spread 1 = .ok (.iload_n 2, 1) := by decide +kernel
theorem dM_spread_2 : decode bM_spread 2 = .ok (.ifCond .lt 23, 3) := by decide +kernel
theorem dM_spread_5 : decode bM_spread 5 = .ok (.iload_n 2, 1) := by decide +kernel
theorem dM_spread_6 : decode bM_spread 6 = .ok (.aload_n 0, 1) := by decide +kernel
theorem dM_spread_7 : decode bM_spread 7 = .ok (.getfield 39, 3) := by decide +kernel
theorem dM_spread_10 : decode bM_spread 10 = .ok (.if_icmp .ge 15, 3) := by decide +kernel
theorem dM_spread_13 : decode bM_spread 13 = .ok (.iload_n 1, 1) := by decide +kernel
theorem dM_spread_14 : decode bM_spread 14 = .ok (.iconst 1, 1) := by decide +kernel
theorem dM_spread_15 : decode bM_spread 15 = .ok (.if_icmp .lt 10, 3) := by decide +kernel
theorem dM_spread_18 : decode bM_spread 18 = .ok (.iload_n 1, 1) := by decide +kernel
theorem dM_spread_19 : decode bM_spread 19 = .ok (.sipush 5000, 3) := by decide +kernel
theorem dM_spread_22 : decode bM_spread 22 = .ok (.if_icmp .le 7, 3) := by decide +kernel
theorem dM_spread_25 : decode bM_spread 25 = .ok (.iconst 1, 1) := by decide +kernel
theorem dM_spread_26 : decode bM_spread 26 = .ok (.goto 4, 3) := by decide +kernel
theorem dM_spread_29 : decode bM_spread 29 = .ok (.iconst 0, 1) := by decide +kernel
theorem dM_spread_30 : decode bM_spread 30 = .ok (.putfield 36, 3) := by decide +kernel
theorem dM_spread_33 : decode bM_spread 33 = .ok (.aload_n 0, 1) := by decide +kernel
theorem dM_spread_34 : decode bM_spread 34 = .ok (.getfield 36, 3) := by decide +kernel
theorem dM_spread_37 : decode bM_spread 37 = .ok (.ifCond .le 5, 3) := by decide +kernel
theorem dM_spread_40 : decode bM_spread 40 = .ok (.iconst 0, 1) := by decide +kernel
theorem dM_spread_41 : decode bM_spread 41 = .ok (.ireturn, 1) := by decide +kernel
theorem dM_spread_42 : decode bM_spread 42 = .ok (.iconst 0, 1) := by decide +kernel
theorem dM_spread_43 : decode bM_spread 43 = .ok (.istore 4, 2) := by decide +kernel
theorem dM_spread_45 : decode bM_spread 45 = .ok (.iload 4, 2) := by decide +kernel
theorem dM_spread_47 : decode bM_spread 47 = .ok (.iload_n 1, 1) := by decide +kernel
theorem dM_spread_48 : decode bM_spread 48 = .ok (.if_icmp .ge 65, 3) := by decide +kernel
theorem dM_spread_51 : decode bM_spread 51 = .ok (.iload 4, 2) := by decide +kernel
theorem dM_spread_53 : decode bM_spread 53 = .ok (.ifCond .le 43, 3) := by decide +kernel
theorem dM_spread_56 : decode bM_spread 56 = .ok (.aload_n 0, 1) := by decide +kernel
theorem dM_spread_57 : decode bM_spread 57 = .ok (.getfield 30, 3) := by decide +kernel
theorem dM_spread_60 : decode bM_spread 60 = .ok (.iload_n 2, 1) := by decide +kernel
theorem dM_spread_61 : decode bM_spread 61 = .ok (.dup2, 1) := by decide +kernel
theorem dM_spread_62 : decode bM_spread 62 = .ok (.iaload, 1) := by decide +kernel
theorem dM_spread_63 : decode bM_spread 63 = .ok (.iload_n 3, 1) := by decide +kernel
theorem dM_spread_64 : decode bM_spread 64 = .ok (.iadd, 1) := by decide +kernel
theorem dM_spread_65 : decode bM_spread 65 = .ok (.iastore, 1) := by decide +kernel
theorem dM_spread_66 : decode bM_spread 66 = .ok (.iconst 0, 1) := by decide +kernel
theorem dM_spread_67 : decode bM_spread 67 = .ok (.istore 5, 2) := by decide +kernel
theorem dM_spread_69 : decode bM_spread 69 = .ok (.iload 5, 2) := by decide +kernel
theorem dM_spread_71 : decode bM_spread 71 = .ok (.aload_n 0, 1) := by decide +kernel
theorem dM_spread_72 : decode bM_spread 72 = .ok (.getfield 7, 3) := by decide +kernel
theorem dM_spread_75 : decode bM_spread 75 = .ok (.if_icmp .ge 21, 3) := by decide +kernel
theorem dM_spread_78 : decode bM_spread 78 = .ok (.aload_n 0, 1) := by decide +kernel
theorem dM_spread_79 : decode bM_spread 79 = .ok (.getfield 33, 3) := by decide +kernel
theorem dM_spread_82 : decode bM_spread 82 = .ok (.iload 5, 2) := by decide +kernel
theorem dM_spread_84 : decode bM_spread 84 = .ok (.dup2, 1) := by decide +kernel
theorem dM_spread_85 : decode bM_spread 85 = .ok (.laload, 1) := by decide +kernel
theorem dM_spread_86 : decode bM_spread 86 = .ok (.iload_n 3, 1) := by decide +kernel
theorem dM_spread_87 : decode bM_spread 87 = .ok (.i2l, 1) := by decide +kernel
theorem dM_spread_88 : decode bM_spread 88 = .ok (.ladd, 1) := by decide +kernel
theorem dM_spread_89 : decode bM_spread 89 = .ok (.lastore, 1) := by decide +kernel
theorem dM_spread_90 : decode bM_spread 90 = .ok (.iinc 5 1, 3) := by decide +kernel
theorem dM_spread_93 : decode bM_spread 93 = .ok (.goto (-24), 3) := by decide +kernel
theorem dM_spread_96 : decode bM_spread 96 = .ok (.aload_n 0, 1) := by decide +kernel
theorem dM_spread_97 : decode bM_spread 97 = .ok (.iconst 1, 1) := by decide +kernel
theorem dM_spread_98 : decode bM_spread 98 = .ok (.invokevirtual 58, 3) := by decide +kernel
theorem dM_spread_101 : decode bM_spread 101 = .ok (.ifCond .ne 6, 3) := by decide +kernel
theorem dM_spread_104 : decode bM_spread 104 = .ok (.iload 4, 2) := by decide +kernel
theorem dM_spread_106 : decode bM_spread 106 = .ok (.ireturn, 1) := by decide +kernel
theorem dM_spread_107 : decode bM_spread 107 = .ok (.iinc 4 1, 3) := by decide +kernel
theorem dM_spread_110 : decode bM_spread 110 = .ok (.goto (-65), 3) := by decide +kernel
theorem dM_spread_113 : decode bM_spread 113 = .ok (.iload_n 1, 1) := by decide +kernel
theorem dM_spread_114 : decode bM_spread 114 = .ok (.ireturn, 1) := by decide +kernel
theorem dM_roll_0 : decode bM_roll 0 = .ok (.aload_n 0, 1) := by decide +kernel
theorem dM_roll_1 : decode bM_roll 1 = .ok (.iload_n 1, 1) := by decide +kernel
theorem dM_roll_2 : decode bM_roll 2 = .ok (.ifCond .lt 11, 3) := by decide +kernel
theorem dM_roll_5 : decode bM_roll 5 = .ok (.iload_n 1, 1) := by decide +kernel
theorem dM_roll_6 : decode bM_roll 6 = .ok (.aload_n 0, 1) := by decide +kernel
theorem dM_roll_7 : decode bM_roll 7 = .ok (.getfield 39, 3) := by decide +kernel
theorem dM_roll_10 : decode bM_roll 10 = .ok (.if_icmp .lt 7, 3) := by decide +kernel
theorem dM_roll_13 : decode bM_roll 13 = .ok (.iconst 1, 1) := by decide +kernel
theorem dM_roll_14 : decode bM_roll 14 = .ok (.goto 4, 3) := by decide +kernel
theorem dM_roll_17 : decode bM_roll 17 = .ok (.iconst 0, 1) := by decide +kernel
theorem dM_roll_18 : decode bM_roll 18 = .ok (.putfield 36, 3) := by decide +kernel
theorem dM_roll_21 : decode bM_roll 21 = .ok (.aload_n 0, 1) := by decide +kernel
theorem dM_roll_22 : decode bM_roll 22 = .ok (.getfield 36, 3) := by decide +kernel
theorem dM_roll_25 : decode bM_roll 25 = .ok (.ifCond .le 5, 3) := by decide +kernel
theorem dM_roll_28 : decode bM_roll 28 = .ok (.iconst 0, 1) := by decide +kernel
theorem dM_roll_29 : decode bM_roll 29 = .ok (.ireturn, 1) := by decide +kernel
theorem dM_roll_30 : decode bM_roll 30 = .ok (.iconst 0, 1) := by decide +kernel
theorem dM_roll_31 : decode bM_roll 31 = .ok (.istore_n 2, 1) := by decide +kernel
theorem dM_roll_32 : decode bM_roll 32 = .ok (.iload_n 2, 1) := by decide +kernel
theorem dM_roll_33 : decode bM_roll 33 = .ok (.aload_n 0, 1) := by decide +kernel
theorem dM_roll_34 : decode bM_roll 34 = .ok (.getfield 42, 3) := by decide +kernel
theorem dM_roll_37 : decode bM_roll 37 = .ok (.if_icmp .ge 22, 3) := by decide +kernel
theorem dM_roll_40 : decode bM_roll 40 = .ok (.aload_n 0, 1) := by decide +kernel
theorem dM_roll_41 : decode bM_roll 41 = .ok (.getfield 13, 3) := by decide +kernel
theorem dM_roll_44 : decode bM_roll 44 = .ok (.bipush 8, 2) := by decide +kernel
theorem dM_roll_46 : decode bM_roll 46 = .ok (.iload_n 2, 1) := by decide +kernel
theorem dM_roll_47 : decode bM_roll 47 = .ok (.imul, 1) := by decide +kernel
theorem dM_roll_48 : decode bM_roll 48 = .ok (.iload_n 1, 1) := by decide +kernel
theorem dM_roll_49 : decode bM_roll 49 = .ok (.iadd, 1) := by decide +kernel
theorem dM_roll_50 : decode bM_roll 50 = .ok (.ldc 62, 2) := by decide +kernel
theorem dM_roll_52 : decode bM_roll 52 = .ok (.iastore, 1) := by decide +kernel
theorem dM_roll_53 : decode bM_roll 53 = .ok (.iinc 2 1, 3) := by decide +kernel
theorem dM_roll_56 : decode bM_roll 56 = .ok (.goto (-24), 3) := by decide +kernel
theorem dM_roll_59 : decode bM_roll 59 = .ok (.iconst 0, 1) := by decide +kernel
theorem dM_roll_60 : decode bM_roll 60 = .ok (.istore_n 2, 1) := by decide +kernel
theorem dM_roll_61 : decode bM_roll 61 = .ok (.iconst 0, 1) := by decide +kernel
theorem dM_roll_62 : decode bM_roll 62 = .ok (.istore_n 3, 1) := by decide +kernel
theorem dM_roll_63 : decode bM_roll 63 = .ok (.iload_n 3, 1) := by decide +kernel
theorem dM_roll_64 : decode bM_roll 64 = .ok (.aload_n 0, 1) := by decide +kernel
theorem dM_roll_65 : decode bM_roll 65 = .ok (.getfield 42, 3) := by decide +kernel
theorem dM_roll_68 : decode bM_roll 68 = .ok (.if_icmp .ge 74, 3) := by decide +kernel
theorem dM_roll_71 : decode bM_roll 71 = .ok (.iconst (-1), 1) := by decide +kernel
theorem dM_roll_72 : decode bM_roll 72 = .ok (.istore 4, 2) := by decide +kernel
theorem dM_roll_74 : decode bM_roll 74 = .ok (.iconst 0, 1) := by decide +kernel
theorem dM_roll_75 : decode bM_roll 75 = .ok (.istore 5, 2) := by decide +kernel
theorem dM_roll_77 : decode bM_roll 77 = .ok (.iload 5, 2) := by decide +kernel
theorem dM_roll_79 : decode bM_roll 79 = .ok (.iload_n 2, 1) := by decide +kernel
theorem dM_roll_80 : decode bM_roll 80 = .ok (.if_icmp .ge 32, 3) := by decide +kernel
theorem dM_roll_83 : decode bM_roll 83 = .ok (.iload 4, 2) := by decide +kernel
theorem dM_roll_85 : decode bM_roll 85 = .ok (.ifCond .ge 27, 3) := by decide +kernel
theorem dM_roll_88 : decode bM_roll 88 = .ok (.aload_n 0, 1) := by decide +kernel
theorem dM_roll_89 : decode bM_roll 89 = .ok (.iload 5, 2) := by decide +kernel
theorem dM_roll_91 : decode bM_roll 91 = .ok (.iload_n 3, 1) := by decide +kernel
theorem dM_roll_92 : decode bM_roll 92 = .ok (.invokevirtual 63, 3) := by decide +kernel
theorem dM_roll_95 : decode bM_roll 95 = .ok (.ifCond .ne 8, 3) := by decide +kernel
theorem dM_roll_98 : decode bM_roll 98 = .ok (.iload 5, 2) := by decide +kernel
theorem dM_roll_100 : decode bM_roll 100 = .ok (.goto 4, 3) := by decide +kernel
theorem dM_roll_103 : decode bM_roll 103 = .ok (.iconst (-1), 1) := by decide +kernel
theorem dM_roll_104 : decode bM_roll 104 = .ok (.istore 4, 2) := by decide +kernel
theorem dM_roll_106 : decode bM_roll 106 = .ok (.iinc 5 1, 3) := by decide +kernel
theorem dM_roll_109 : decode bM_roll 109 = .ok (.goto (-32), 3) := by decide +kernel
theorem dM_roll_112 : decode bM_roll 112 = .ok (.iload 4, 2) := by decide +kernel
theorem dM_roll_114 : decode bM_roll 114 = .ok (.ifCond .lt 13, 3) := by decide +kernel
theorem dM_roll_117 : decode bM_roll 117 = .ok (.aload_n 0, 1) := by decide +kernel
theorem dM_roll_118 : decode bM_roll 118 = .ok (.iload_n 3, 1) := by decide +kernel
theorem dM_roll_119 : decode bM_roll 119 = .ok (.iload 4, 2) := by decide +kernel
theorem dM_roll_121 : decode bM_roll 121 = .ok (.invokevirtual 67, 3) := by decide +kernel
theorem dM_roll_124 : decode bM_roll 124 = .ok (.goto 12, 3) := by decide +kernel
theorem dM_roll_127 : decode bM_roll 127 = .ok (.aload_n 0, 1) := by decide +kernel
theorem dM_roll_128 : decode bM_roll 128 = .ok (.iload_n 3, 1) := by decide +kernel
theorem dM_roll_129 : decode bM_roll 129 = .ok (.iload_n 2, 1) := by decide +kernel
theorem dM_roll_130 : decode bM_roll 130 = .ok (.invokevirtual 53, 3) := by decide +kernel
theorem dM_roll_133 : decode bM_roll 133 = .ok (.iinc 2 1, 3) := by decide +kernel
theorem dM_roll_136 : decode bM_roll 136 = .ok (.iinc 3 1, 3) := by decide +kernel
theorem dM_roll_139 : decode bM_roll 139 = .ok (.goto (-76), 3) := by decide +kernel
theorem dM_roll_142 : decode bM_roll 142 = .ok (.aload_n 0, 1) := by decide +kernel
theorem dM_roll_143 : decode bM_roll 143 = .ok (.iload_n 2, 1) := by decide +kernel
theorem dM_roll_144 : decode bM_roll 144 = .ok (.putfield 42, 3) := by decide +kernel
theorem dM_roll_147 : decode bM_roll 147 = .ok (.aload_n 0, 1) := by decide +kernel
theorem dM_roll_148 : decode bM_roll 148 = .ok (.invokevirtual 70, 3) := by decide +kernel
theorem dM_roll_151 : decode bM_roll 151 = .ok (.aload_n 0, 1) := by decide +kernel
theorem dM_roll_152 : decode bM_roll 152 = .ok (.getfield 42, 3) := by decide +kernel
theorem dM_roll_155 : decode bM_roll 155 = .ok (.ireturn, 1) := by decide +kernel
theorem dM_compared_0 : decode bM_compared 0 = .ok (.iconst 0, 1) := by decide +kernel
theorem dM_compared_1 : decode bM_compared 1 = .ok (.istore_n 3, 1) := by decide +kernel
theorem dM_compared_2 : decode bM_compared 2 = .ok (.iload_n 3, 1) := by decide +kernel
theorem dM_compared_3 : decode bM_compared 3 = .ok (.aload_n 0, 1) := by decide +kernel
theorem dM_compared_4 : decode bM_compared 4 = .ok (.getfield 39, 3) := by decide +kernel
theorem dM_compared_7 : decode bM_compared 7 = .ok (.if_icmp .ge 65, 3) := by decide +kernel
theorem dM_compared_10 : decode bM_compared 10 = .ok (.aload_n 0, 1) := by decide +kernel
theorem dM_compared_11 : decode bM_compared 11 = .ok (.getfield 13, 3) := by decide +kernel
theorem dM_compared_14 : decode bM_compared 14 = .ok (.bipush 8, 2) := by decide +kernel
theorem dM_compared_16 : decode bM_compared 16 = .ok (.iload_n 1, 1) := by decide +kernel
theorem dM_compared_17 : decode bM_compared 17 = .ok (.imul, 1) := by decide +kernel
theorem dM_compared_18 : decode bM_compared 18 = .ok (.iload_n 3, 1) := by decide +kernel
theorem dM_compared_19 : decode bM_compared 19 = .ok (.iadd, 1) := by decide +kernel
theorem dM_compared_20 : decode bM_compared 20 = .ok (.iaload, 1) := by decide +kernel
theorem dM_compared_21 : decode bM_compared 21 = .ok (.aload_n 0, 1) := by decide +kernel
theorem dM_compared_22 : decode bM_compared 22 = .ok (.getfield 13, 3) := by decide +kernel
theorem dM_compared_25 : decode bM_compared 25 = .ok (.bipush 8, 2) := by decide +kernel
theorem dM_compared_27 : decode bM_compared 27 = .ok (.iload_n 2, 1) := by decide +kernel
theorem dM_compared_28 : decode bM_compared 28 = .ok (.imul, 1) := by decide +kernel
theorem dM_compared_29 : decode bM_compared 29 = .ok (.iload_n 3, 1) := by decide +kernel
theorem dM_compared_30 : decode bM_compared 30 = .ok (.iadd, 1) := by decide +kernel
theorem dM_compared_31 : decode bM_compared 31 = .ok (.iaload, 1) := by decide +kernel
theorem dM_compared_32 : decode bM_compared 32 = .ok (.if_icmp .eq 34, 3) := by decide +kernel
theorem dM_compared_35 : decode bM_compared 35 = .ok (.aload_n 0, 1) := by decide +kernel
theorem dM_compared_36 : decode bM_compared 36 = .ok (.getfield 13, 3) := by decide +kernel
theorem dM_compared_39 : decode bM_compared 39 = .ok (.bipush 8, 2) := by decide +kernel
theorem dM_compared_41 : decode bM_compared 41 = .ok (.iload_n 1, 1) := by decide +kernel
theorem dM_compared_42 : decode bM_compared 42 = .ok (.imul, 1) := by decide +kernel
theorem dM_compared_43 : decode bM_compared 43 = .ok (.iload_n 3, 1) := by decide +kernel
theorem dM_compared_44 : decode bM_compared 44 = .ok (.iadd, 1) := by decide +kernel
theorem dM_compared_45 : decode bM_compared 45 = .ok (.iaload, 1) := by decide +kernel
theorem dM_compared_46 : decode bM_compared 46 = .ok (.aload_n 0, 1) := by decide +kernel
theorem dM_compared_47 : decode bM_compared 47 = .ok (.getfield 13, 3) := by decide +kernel
theorem dM_compared_50 : decode bM_compared 50 = .ok (.bipush 8, 2) := by decide +kernel
theorem dM_compared_52 : decode bM_compared 52 = .ok (.iload_n 2, 1) := by decide +kernel
theorem dM_compared_53 : decode bM_compared 53 = .ok (.imul, 1) := by decide +kernel
theorem dM_compared_54 : decode bM_compared 54 = .ok (.iload_n 3, 1) := by decide +kernel
theorem dM_compared_55 : decode bM_compared 55 = .ok (.iadd, 1) := by decide +kernel
theorem dM_compared_56 : decode bM_compared 56 = .ok (.iaload, 1) := by decide +kernel
theorem dM_compared_57 : decode bM_compared 57 = .ok (.if_icmp .ge 7, 3) := by decide +kernel
theorem dM_compared_60 : decode bM_compared 60 = .ok (.iconst (-1), 1) := by decide +kernel
theorem dM_compared_61 : decode bM_compared 61 = .ok (.goto 4, 3) := by decide +kernel
theorem dM_compared_64 : decode bM_compared 64 = .ok (.iconst 1, 1) := by decide +kernel
theorem dM_compared_65 : decode bM_compared 65 = .ok (.ireturn, 1) := by decide +kernel
theorem dM_compared_66 : decode bM_compared 66 = .ok (.iinc 3 1, 3) := by decide +kernel
theorem dM_compared_69 : decode bM_compared 69 = .ok (.goto (-67), 3) := by decide +kernel
theorem dM_compared_72 : decode bM_compared 72 = .ok (.iconst 0, 1) := by decide +kernel
theorem dM_compared_73 : decode bM_compared 73 = .ok (.ireturn, 1) := by decide +kernel
theorem dM_join_0 : decode bM_join 0 = .ok (.aload_n 0, 1) := by decide +kernel
theorem dM_join_1 : decode bM_join 1 = .ok (.getfield 17, 3) := by decide +kernel
theorem dM_join_4 : decode bM_join 4 = .ok (.iload_n 2, 1) := by decide +kernel
theorem dM_join_5 : decode bM_join 5 = .ok (.dup2, 1) := by decide +kernel
theorem dM_join_6 : decode bM_join 6 = .ok (.laload, 1) := by decide +kernel
theorem dM_join_7 : decode bM_join 7 = .ok (.aload_n 0, 1) := by decide +kernel
theorem dM_join_8 : decode bM_join 8 = .ok (.getfield 17, 3) := by decide +kernel
theorem dM_join_11 : decode bM_join 11 = .ok (.iload_n 1, 1) := by decide +kernel
theorem dM_join_12 : decode bM_join 12 = .ok (.laload, 1) := by decide +kernel
theorem dM_join_13 : decode bM_join 13 = .ok (.ladd, 1) := by decide +kernel
theorem dM_join_14 : decode bM_join 14 = .ok (.lastore, 1) := by decide +kernel
theorem dM_join_15 : decode bM_join 15 = .ok (.iconst 0, 1) := by decide +kernel
theorem dM_join_16 : decode bM_join 16 = .ok (.istore_n 3, 1) := by decide +kernel
theorem dM_join_17 : decode bM_join 17 = .ok (.iload_n 3, 1) := by decide +kernel
theorem dM_join_18 : decode bM_join 18 = .ok (.aload_n 0, 1) := by decide +kernel
theorem dM_join_19 : decode bM_join 19 = .ok (.getfield 7, 3) := by decide +kernel
theorem dM_join_22 : decode bM_join 22 = .ok (.if_icmp .ge 126, 3) := by decide +kernel
theorem dM_join_25 : decode bM_join 25 = .ok (.bipush 8, 2) := by decide +kernel
theorem dM_join_27 : decode bM_join 27 = .ok (.iload_n 1, 1) := by decide +kernel
theorem dM_join_28 : decode bM_join 28 = .ok (.imul, 1) := by decide +kernel
theorem dM_join_29 : decode bM_join 29 = .ok (.iload_n 3, 1) := by decide +kernel
theorem dM_join_30 : decode bM_join 30 = .ok (.iadd, 1) := by decide +kernel
theorem dM_join_31 : decode bM_join 31 = .ok (.istore 4, 2) := by decide +kernel
theorem dM_join_33 : decode bM_join 33 = .ok (.bipush 8, 2) := by decide +kernel
theorem dM_join_35 : decode bM_join 35 = .ok (.iload_n 2, 1) := by decide +kernel
theorem dM_join_36 : decode bM_join 36 = .ok (.imul, 1) := by decide +kernel
theorem dM_join_37 : decode bM_join 37 = .ok (.iload_n 3, 1) := by decide +kernel
theorem dM_join_38 : decode bM_join 38 = .ok (.iadd, 1) := by decide +kernel
theorem dM_join_39 : decode bM_join 39 = .ok (.istore 5, 2) := by decide +kernel
theorem dM_join_41 : decode bM_join 41 = .ok (.aload_n 0, 1) := by decide +kernel
theorem dM_join_42 : decode bM_join 42 = .ok (.getfield 21, 3) := by decide +kernel
theorem dM_join_45 : decode bM_join 45 = .ok (.iload 5, 2) := by decide +kernel
theorem dM_join_47 : decode bM_join 47 = .ok (.dup2, 1) := by decide +kernel
theorem dM_join_48 : decode bM_join 48 = .ok (.laload, 1) := by decide +kernel
theorem dM_join_49 : decode bM_join 49 = .ok (.aload_n 0, 1) := by decide +kernel
theorem dM_join_50 : decode bM_join 50 = .ok (.getfield 21, 3) := by decide +kernel
theorem dM_join_53 : decode bM_join 53 = .ok (.iload 4, 2) := by decide +kernel
theorem dM_join_55 : decode bM_join 55 = .ok (.laload, 1) := by decide +kernel
theorem dM_join_56 : decode bM_join 56 = .ok (.ladd, 1) := by decide +kernel
theorem dM_join_57 : decode bM_join 57 = .ok (.lastore, 1) := by decide +kernel
theorem dM_join_58 : decode bM_join 58 = .ok (.aload_n 0, 1) := by decide +kernel
theorem dM_join_59 : decode bM_join 59 = .ok (.getfield 24, 3) := by decide +kernel
theorem dM_join_62 : decode bM_join 62 = .ok (.iload 5, 2) := by decide +kernel
theorem dM_join_64 : decode bM_join 64 = .ok (.aload_n 0, 1) := by decide +kernel
theorem dM_join_65 : decode bM_join 65 = .ok (.getfield 24, 3) := by decide +kernel
theorem dM_join_68 : decode bM_join 68 = .ok (.iload 4, 2) := by decide +kernel
theorem dM_join_70 : decode bM_join 70 = .ok (.laload, 1) := by decide +kernel
theorem dM_join_71 : decode bM_join 71 = .ok (.aload_n 0, 1) := by decide +kernel
theorem dM_join_72 : decode bM_join 72 = .ok (.getfield 24, 3) := by decide +kernel
theorem dM_join_75 : decode bM_join 75 = .ok (.iload 5, 2) := by decide +kernel
theorem dM_join_77 : decode bM_join 77 = .ok (.laload, 1) := by decide +kernel
theorem dM_join_78 : decode bM_join 78 = .ok (.lcmp, 1) := by decide +kernel
theorem dM_join_79 : decode bM_join 79 = .ok (.ifCond .ge 13, 3) := by decide +kernel
theorem dM_join_82 : decode bM_join 82 = .ok (.aload_n 0, 1) := by decide +kernel
theorem dM_join_83 : decode bM_join 83 = .ok (.getfield 24, 3) := by decide +kernel
theorem dM_join_86 : decode bM_join 86 = .ok (.iload 4, 2) := by decide +kernel
theorem dM_join_88 : decode bM_join 88 = .ok (.laload, 1) := by decide +kernel
theorem dM_join_89 : decode bM_join 89 = .ok (.goto 10, 3) := by decide +kernel
theorem dM_join_92 : decode bM_join 92 = .ok (.aload_n 0, 1) := by decide +kernel
theorem dM_join_93 : decode bM_join 93 = .ok (.getfield 24, 3) := by decide +kernel
theorem dM_join_96 : decode bM_join 96 = .ok (.iload 5, 2) := by decide +kernel
theorem dM_join_98 : decode bM_join 98 = .ok (.laload, 1) := by decide +kernel
theorem dM_join_99 : decode bM_join 99 = .ok (.lastore, 1) := by decide +kernel
theorem dM_join_100 : decode bM_join 100 = .ok (.aload_n 0, 1) := by decide +kernel
theorem dM_join_101 : decode bM_join 101 = .ok (.getfield 27, 3) := by decide +kernel
theorem dM_join_104 : decode bM_join 104 = .ok (.iload 5, 2) := by decide +kernel
theorem dM_join_106 : decode bM_join 106 = .ok (.aload_n 0, 1) := by decide +kernel
theorem dM_join_107 : decode bM_join 107 = .ok (.getfield 27, 3) := by decide +kernel
theorem dM_join_110 : decode bM_join 110 = .ok (.iload 4, 2) := by decide +kernel
theorem dM_join_112 : decode bM_join 112 = .ok (.laload, 1) := by decide +kernel
theorem dM_join_113 : decode bM_join 113 = .ok (.aload_n 0, 1) := by decide +kernel
theorem dM_join_114 : decode bM_join 114 = .ok (.getfield 27, 3) := by decide +kernel
theorem dM_join_117 : decode bM_join 117 = .ok (.iload 5, 2) := by decide +kernel
theorem dM_join_119 : decode bM_join 119 = .ok (.laload, 1) := by decide +kernel
theorem dM_join_120 : decode bM_join 120 = .ok (.lcmp, 1) := by decide +kernel
theorem dM_join_121 : decode bM_join 121 = .ok (.ifCond .le 13, 3) := by decide +kernel
theorem dM_join_124 : decode bM_join 124 = .ok (.aload_n 0, 1) := by decide +kernel
theorem dM_join_125 : decode bM_join 125 = .ok (.getfield 27, 3) := by decide +kernel
theorem dM_join_128 : decode bM_join 128 = .ok (.iload 4, 2) := by decide +kernel
theorem dM_join_130 : decode bM_join 130 = .ok (.laload, 1) := by decide +kernel
theorem dM_join_131 : decode bM_join 131 = .ok (.goto 10, 3) := by decide +kernel
theorem dM_join_134 : decode bM_join 134 = .ok (.aload_n 0, 1) := by decide +kernel
theorem dM_join_135 : decode bM_join 135 = .ok (.getfield 27, 3) := by decide +kernel
theorem dM_join_138 : decode bM_join 138 = .ok (.iload 5, 2) := by decide +kernel
theorem dM_join_140 : decode bM_join 140 = .ok (.laload, 1) := by decide +kernel
theorem dM_join_141 : decode bM_join 141 = .ok (.lastore, 1) := by decide +kernel
theorem dM_join_142 : decode bM_join 142 = .ok (.iinc 3 1, 3) := by decide +kernel
theorem dM_join_145 : decode bM_join 145 = .ok (.goto (-128), 3) := by decide +kernel
theorem dM_join_148 : decode bM_join 148 = .ok (.return_, 1) := by decide +kernel
theorem dM_sort_0 : decode bM_sort 0 = .ok (.iconst 0, 1) := by decide +kernel
theorem dM_sort_1 : decode bM_sort 1 = .ok (.istore_n 1, 1) := by decide +kernel
theorem dM_sort_2 : decode bM_sort 2 = .ok (.iload_n 1, 1) := by decide +kernel
theorem dM_sort_3 : decode bM_sort 3 = .ok (.aload_n 0, 1) := by decide +kernel
theorem dM_sort_4 : decode bM_sort 4 = .ok (.getfield 42, 3) := by decide +kernel
theorem dM_sort_7 : decode bM_sort 7 = .ok (.if_icmp .ge 55, 3) := by decide +kernel
theorem dM_sort_10 : decode bM_sort 10 = .ok (.iload_n 1, 1) := by decide +kernel
theorem dM_sort_11 : decode bM_sort 11 = .ok (.istore_n 2, 1) := by decide +kernel
theorem dM_sort_12 : decode bM_sort 12 = .ok (.iload_n 1, 1) := by decide +kernel
theorem dM_sort_13 : decode bM_sort 13 = .ok (.iconst 1, 1) := by decide +kernel
theorem dM_sort_14 : decode bM_sort 14 = .ok (.iadd, 1) := by decide +kernel
theorem dM_sort_15 : decode bM_sort 15 = .ok (.istore_n 3, 1) := by decide +kernel
theorem dM_sort_16 : decode bM_sort 16 = .ok (.iload_n 3, 1) := by decide +kernel
theorem dM_sort_17 : decode bM_sort 17 = .ok (.aload_n 0, 1) := by decide +kernel
theorem dM_sort_18 : decode bM_sort 18 = .ok (.getfield 42, 3) := by decide +kernel
theorem dM_sort_21 : decode bM_sort 21 = .ok (.if_icmp .ge 24, 3) := by decide +kernel
theorem dM_sort_24 : decode bM_sort 24 = .ok (.aload_n 0, 1) := by decide +kernel
theorem dM_sort_25 : decode bM_sort 25 = .ok (.iload_n 3, 1) := by decide +kernel
theorem dM_sort_26 : decode bM_sort 26 = .ok (.iload_n 2, 1) := by decide +kernel
theorem dM_sort_27 : decode bM_sort 27 = .ok (.invokevirtual 63, 3) := by decide +kernel
theorem dM_sort_30 : decode bM_sort 30 = .ok (.ifCond .ge 7, 3) := by decide +kernel
theorem dM_sort_33 : decode bM_sort 33 = .ok (.iload_n 3, 1) := by decide +kernel
theorem dM_sort_34 : decode bM_sort 34 = .ok (.goto 4, 3) := by decide +kernel
theorem dM_sort_37 : decode bM_sort 37 = .ok (.iload_n 2, 1) := by decide +kernel
theorem dM_sort_38 : decode bM_sort 38 = .ok (.istore_n 2, 1) := by decide +kernel
theorem dM_sort_39 : decode bM_sort 39 = .ok (.iinc 3 1, 3) := by decide +kernel
theorem dM_sort_42 : decode bM_sort 42 = .ok (.goto (-26), 3) := by decide +kernel
theorem dM_sort_45 : decode bM_sort 45 = .ok (.iload_n 2, 1) := by decide +kernel
theorem dM_sort_46 : decode bM_sort 46 = .ok (.iload_n 1, 1) := by decide +kernel
theorem dM_sort_47 : decode bM_sort 47 = .ok (.if_icmp .eq 9, 3) := by decide +kernel
theorem dM_sort_50 : decode bM_sort 50 = .ok (.aload_n 0, 1) := by decide +kernel
theorem dM_sort_51 : decode bM_sort 51 = .ok (.iload_n 1, 1) := by decide +kernel
theorem dM_sort_52 : decode bM_sort 52 = .ok (.iload_n 2, 1) := by decide +kernel
theorem dM_sort_53 : decode bM_sort 53 = .ok (.invokevirtual 73, 3) := by decide +kernel
theorem dM_sort_56 : decode bM_sort 56 = .ok (.iinc 1 1, 3) := by decide +kernel
theorem dM_sort_59 : decode bM_sort 59 = .ok (.goto (-57), 3) := by decide +kernel
theorem dM_sort_62 : decode bM_sort 62 = .ok (.return_, 1) := by decide +kernel
theorem dM_swap_0 : decode bM_swap 0 = .ok (.aload_n 0, 1) := by decide +kernel
theorem dM_swap_1 : decode bM_swap 1 = .ok (.getfield 17, 3) := by decide +kernel
theorem dM_swap_4 : decode bM_swap 4 = .ok (.iload_n 1, 1) := by decide +kernel
theorem dM_swap_5 : decode bM_swap 5 = .ok (.laload, 1) := by decide +kernel
theorem dM_swap_6 : decode bM_swap 6 = .ok (.lstore_n 3, 1) := by decide +kernel
theorem dM_swap_7 : decode bM_swap 7 = .ok (.aload_n 0, 1) := by decide +kernel
theorem dM_swap_8 : decode bM_swap 8 = .ok (.getfield 17, 3) := by decide +kernel
theorem dM_swap_11 : decode bM_swap 11 = .ok (.iload_n 1, 1) := by decide +kernel
theorem dM_swap_12 : decode bM_swap 12 = .ok (.aload_n 0, 1) := by decide +kernel
theorem dM_swap_13 : decode bM_swap 13 = .ok (.getfield 17, 3) := by decide +kernel
theorem dM_swap_16 : decode bM_swap 16 = .ok (.iload_n 2, 1) := by decide +kernel
theorem dM_swap_17 : decode bM_swap 17 = .ok (.laload, 1) := by decide +kernel
theorem dM_swap_18 : decode bM_swap 18 = .ok (.lastore, 1) := by decide +kernel
theorem dM_swap_19 : decode bM_swap 19 = .ok (.aload_n 0, 1) := by decide +kernel
theorem dM_swap_20 : decode bM_swap 20 = .ok (.getfield 17, 3) := by decide +kernel
theorem dM_swap_23 : decode bM_swap 23 = .ok (.iload_n 2, 1) := by decide +kernel
theorem dM_swap_24 : decode bM_swap 24 = .ok (.lload_n 3, 1) := by decide +kernel
theorem dM_swap_25 : decode bM_swap 25 = .ok (.lastore, 1) := by decide +kernel
theorem dM_swap_26 : decode bM_swap 26 = .ok (.iconst 0, 1) := by decide +kernel
theorem dM_swap_27 : decode bM_swap 27 = .ok (.istore 5, 2) := by decide +kernel
theorem dM_swap_29 : decode bM_swap 29 = .ok (.iload 5, 2) := by decide +kernel
theorem dM_swap_31 : decode bM_swap 31 = .ok (.bipush 8, 2) := by decide +kernel
theorem dM_swap_33 : decode bM_swap 33 = .ok (.if_icmp .ge 155, 3) := by decide +kernel
theorem dM_swap_36 : decode bM_swap 36 = .ok (.bipush 8, 2) := by decide +kernel
theorem dM_swap_38 : decode bM_swap 38 = .ok (.iload_n 1, 1) := by decide +kernel
theorem dM_swap_39 : decode bM_swap 39 = .ok (.imul, 1) := by decide +kernel
theorem dM_swap_40 : decode bM_swap 40 = .ok (.iload 5, 2) := by decide +kernel
theorem dM_swap_42 : decode bM_swap 42 = .ok (.iadd, 1) := by decide +kernel
theorem dM_swap_43 : decode bM_swap 43 = .ok (.istore 6, 2) := by decide +kernel
theorem dM_swap_45 : decode bM_swap 45 = .ok (.bipush 8, 2) := by decide +kernel
theorem dM_swap_47 : decode bM_swap 47 = .ok (.iload_n 2, 1) := by decide +kernel
theorem dM_swap_48 : decode bM_swap 48 = .ok (.imul, 1) := by decide +kernel
theorem dM_swap_49 : decode bM_swap 49 = .ok (.iload 5, 2) := by decide +kernel
theorem dM_swap_51 : decode bM_swap 51 = .ok (.iadd, 1) := by decide +kernel
theorem dM_swap_52 : decode bM_swap 52 = .ok (.istore 7, 2) := by decide +kernel
theorem dM_swap_54 : decode bM_swap 54 = .ok (.aload_n 0, 1) := by decide +kernel
theorem dM_swap_55 : decode bM_swap 55 = .ok (.getfield 13, 3) := by decide +kernel
theorem dM_swap_58 : decode bM_swap 58 = .ok (.iload 6, 2) := by decide +kernel
theorem dM_swap_60 : decode bM_swap 60 = .ok (.iaload, 1) := by decide +kernel
theorem dM_swap_61 : decode bM_swap 61 = .ok (.istore 8, 2) := by decide +kernel
theorem dM_swap_63 : decode bM_swap 63 = .ok (.aload_n 0, 1) := by decide +kernel
theorem dM_swap_64 : decode bM_swap 64 = .ok (.getfield 13, 3) := by decide +kernel
theorem dM_swap_67 : decode bM_swap 67 = .ok (.iload 6, 2) := by decide +kernel
theorem dM_swap_69 : decode bM_swap 69 = .ok (.aload_n 0, 1) := by decide +kernel
theorem dM_swap_70 : decode bM_swap 70 = .ok (.getfield 13, 3) := by decide +kernel
theorem dM_swap_73 : decode bM_swap 73 = .ok (.iload 7, 2) := by decide +kernel
theorem dM_swap_75 : decode bM_swap 75 = .ok (.iaload, 1) := by decide +kernel
theorem dM_swap_76 : decode bM_swap 76 = .ok (.iastore, 1) := by decide +kernel
theorem dM_swap_77 : decode bM_swap 77 = .ok (.aload_n 0, 1) := by decide +kernel
theorem dM_swap_78 : decode bM_swap 78 = .ok (.getfield 13, 3) := by decide +kernel
theorem dM_swap_81 : decode bM_swap 81 = .ok (.iload 7, 2) := by decide +kernel
theorem dM_swap_83 : decode bM_swap 83 = .ok (.iload 8, 2) := by decide +kernel
theorem dM_swap_85 : decode bM_swap 85 = .ok (.iastore, 1) := by decide +kernel
theorem dM_swap_86 : decode bM_swap 86 = .ok (.aload_n 0, 1) := by decide +kernel
theorem dM_swap_87 : decode bM_swap 87 = .ok (.getfield 21, 3) := by decide +kernel
theorem dM_swap_90 : decode bM_swap 90 = .ok (.iload 6, 2) := by decide +kernel
theorem dM_swap_92 : decode bM_swap 92 = .ok (.laload, 1) := by decide +kernel
theorem dM_swap_93 : decode bM_swap 93 = .ok (.lstore 9, 2) := by decide +kernel
theorem dM_swap_95 : decode bM_swap 95 = .ok (.aload_n 0, 1) := by decide +kernel
theorem dM_swap_96 : decode bM_swap 96 = .ok (.getfield 21, 3) := by decide +kernel
theorem dM_swap_99 : decode bM_swap 99 = .ok (.iload 6, 2) := by decide +kernel
theorem dM_swap_101 : decode bM_swap 101 = .ok (.aload_n 0, 1) := by decide +kernel
theorem dM_swap_102 : decode bM_swap 102 = .ok (.getfield 21, 3) := by decide +kernel
theorem dM_swap_105 : decode bM_swap 105 = .ok (.iload 7, 2) := by decide +kernel
theorem dM_swap_107 : decode bM_swap 107 = .ok (.laload, 1) := by decide +kernel
theorem dM_swap_108 : decode bM_swap 108 = .ok (.lastore, 1) := by decide +kernel
theorem dM_swap_109 : decode bM_swap 109 = .ok (.aload_n 0, 1) := by decide +kernel
theorem dM_swap_110 : decode bM_swap 110 = .ok (.getfield 21, 3) := by decide +kernel
theorem dM_swap_113 : decode bM_swap 113 = .ok (.iload 7, 2) := by decide +kernel
theorem dM_swap_115 : decode bM_swap 115 = .ok (.lload 9, 2) := by decide +kernel
theorem dM_swap_117 : decode bM_swap 117 = .ok (.lastore, 1) := by decide +kernel
theorem dM_swap_118 : decode bM_swap 118 = .ok (.aload_n 0, 1) := by decide +kernel
theorem dM_swap_119 : decode bM_swap 119 = .ok (.getfield 24, 3) := by decide +kernel
theorem dM_swap_122 : decode bM_swap 122 = .ok (.iload 6, 2) := by decide +kernel
theorem dM_swap_124 : decode bM_swap 124 = .ok (.laload, 1) := by decide +kernel
theorem dM_swap_125 : decode bM_swap 125 = .ok (.lstore 11, 2) := by decide +kernel
theorem dM_swap_127 : decode bM_swap 127 = .ok (.aload_n 0, 1) := by decide +kernel
theorem dM_swap_128 : decode bM_swap 128 = .ok (.getfield 24, 3) := by decide +kernel
theorem dM_swap_131 : decode bM_swap 131 = .ok (.iload 6, 2) := by decide +kernel
theorem dM_swap_133 : decode bM_swap 133 = .ok (.aload_n 0, 1) := by decide +kernel
theorem dM_swap_134 : decode bM_swap 134 = .ok (.getfield 24, 3) := by decide +kernel
theorem dM_swap_137 : decode bM_swap 137 = .ok (.iload 7, 2) := by decide +kernel
theorem dM_swap_139 : decode bM_swap 139 = .ok (.laload, 1) := by decide +kernel
theorem dM_swap_140 : decode bM_swap 140 = .ok (.lastore, 1) := by decide +kernel
theorem dM_swap_141 : decode bM_swap 141 = .ok (.aload_n 0, 1) := by decide +kernel
theorem dM_swap_142 : decode bM_swap 142 = .ok (.getfield 24, 3) := by decide +kernel
theorem dM_swap_145 : decode bM_swap 145 = .ok (.iload 7, 2) := by decide +kernel
theorem dM_swap_147 : decode bM_swap 147 = .ok (.lload 11, 2) := by decide +kernel
theorem dM_swap_149 : decode bM_swap 149 = .ok (.lastore, 1) := by decide +kernel
theorem dM_swap_150 : decode bM_swap 150 = .ok (.aload_n 0, 1) := by decide +kernel
theorem dM_swap_151 : decode bM_swap 151 = .ok (.getfield 27, 3) := by decide +kernel
theorem dM_swap_154 : decode bM_swap 154 = .ok (.iload 6, 2) := by decide +kernel
theorem dM_swap_156 : decode bM_swap 156 = .ok (.laload, 1) := by decide +kernel
theorem dM_swap_157 : decode bM_swap 157 = .ok (.lstore 13, 2) := by decide +kernel
theorem dM_swap_159 : decode bM_swap 159 = .ok (.aload_n 0, 1) := by decide +kernel
theorem dM_swap_160 : decode bM_swap 160 = .ok (.getfield 27, 3) := by decide +kernel
theorem dM_swap_163 : decode bM_swap 163 = .ok (.iload 6, 2) := by decide +kernel
theorem dM_swap_165 : decode bM_swap 165 = .ok (.aload_n 0, 1) := by decide +kernel
theorem dM_swap_166 : decode bM_swap 166 = .ok (.getfield 27, 3) := by decide +kernel
theorem dM_swap_169 : decode bM_swap 169 = .ok (.iload 7, 2) := by decide +kernel
theorem dM_swap_171 : decode bM_swap 171 = .ok (.laload, 1) := by decide +kernel
theorem dM_swap_172 : decode bM_swap 172 = .ok (.lastore, 1) := by decide +kernel
theorem dM_swap_173 : decode bM_swap 173 = .ok (.aload_n 0, 1) := by decide +kernel
theorem dM_swap_174 : decode bM_swap 174 = .ok (.getfield 27, 3) := by decide +kernel
theorem dM_swap_177 : decode bM_swap 177 = .ok (.iload 7, 2) := by decide +kernel
theorem dM_swap_179 : decode bM_swap 179 = .ok (.lload 13, 2) := by decide +kernel
theorem dM_swap_181 : decode bM_swap 181 = .ok (.lastore, 1) := by decide +kernel
theorem dM_swap_182 : decode bM_swap 182 = .ok (.iinc 5 1, 3) := by decide +kernel
theorem dM_swap_185 : decode bM_swap 185 = .ok (.goto (-156), 3) := by decide +kernel
theorem dM_swap_188 : decode bM_swap 188 = .ok (.return_, 1) := by decide +kernel
theorem dM_rows_0 : decode bM_rows 0 = .ok (.aload_n 0, 1) := by decide +kernel
theorem dM_rows_1 : decode bM_rows 1 = .ok (.iconst 0, 1) := by decide +kernel
theorem dM_rows_2 : decode bM_rows 2 = .ok (.putfield 36, 3) := by decide +kernel
theorem dM_rows_5 : decode bM_rows 5 = .ok (.aload_n 0, 1) := by decide +kernel
theorem dM_rows_6 : decode bM_rows 6 = .ok (.getfield 42, 3) := by decide +kernel
theorem dM_rows_9 : decode bM_rows 9 = .ok (.ireturn, 1) := by decide +kernel
theorem dM_find_0 : decode bM_find 0 = .ok (.aload_n 0, 1) := by decide +kernel
theorem dM_find_1 : decode bM_find 1 = .ok (.iconst 0, 1) := by decide +kernel
theorem dM_find_2 : decode bM_find 2 = .ok (.putfield 36, 3) := by decide +kernel
theorem dM_find_5 : decode bM_find 5 = .ok (.aload_n 0, 1) := by decide +kernel
theorem dM_find_6 : decode bM_find 6 = .ok (.invokevirtual 49, 3) := by decide +kernel
theorem dM_find_9 : decode bM_find 9 = .ok (.istore_n 1, 1) := by decide +kernel
theorem dM_find_10 : decode bM_find 10 = .ok (.iload_n 1, 1) := by decide +kernel
theorem dM_find_11 : decode bM_find 11 = .ok (.aload_n 0, 1) := by decide +kernel
theorem dM_find_12 : decode bM_find 12 = .ok (.getfield 42, 3) := by decide +kernel
theorem dM_find_15 : decode bM_find 15 = .ok (.if_icmp .ge 15, 3) := by decide +kernel
theorem dM_find_18 : decode bM_find 18 = .ok (.aload_n 0, 1) := by decide +kernel
theorem dM_find_19 : decode bM_find 19 = .ok (.iload_n 1, 1) := by decide +kernel
theorem dM_find_20 : decode bM_find 20 = .ok (.invokevirtual 45, 3) := by decide +kernel
theorem dM_find_23 : decode bM_find 23 = .ok (.ifCond .ne 7, 3) := by decide +kernel
theorem dM_find_26 : decode bM_find 26 = .ok (.iload_n 1, 1) := by decide +kernel
theorem dM_find_27 : decode bM_find 27 = .ok (.goto 4, 3) := by decide +kernel
theorem dM_find_30 : decode bM_find 30 = .ok (.iconst (-1), 1) := by decide +kernel
theorem dM_find_31 : decode bM_find 31 = .ok (.ireturn, 1) := by decide +kernel
theorem dM_keyAt_0 : decode bM_keyAt 0 = .ok (.aload_n 0, 1) := by decide +kernel
theorem dM_keyAt_1 : decode bM_keyAt 1 = .ok (.aload_n 0, 1) := by decide +kernel
theorem dM_keyAt_2 : decode bM_keyAt 2 = .ok (.iload_n 1, 1) := by decide +kernel
theorem dM_keyAt_3 : decode bM_keyAt 3 = .ok (.invokevirtual 76, 3) := by decide +kernel
theorem dM_keyAt_6 : decode bM_keyAt 6 = .ok (.ifCond .eq 19, 3) := by decide +kernel
theorem dM_keyAt_9 : decode bM_keyAt 9 = .ok (.iload_n 2, 1) := by decide +kernel
theorem dM_keyAt_10 : decode bM_keyAt 10 = .ok (.ifCond .lt 15, 3) := by decide +kernel
theorem dM_keyAt_13 : decode bM_keyAt 13 = .ok (.iload_n 2, 1) := by decide +kernel
theorem dM_keyAt_14 : decode bM_keyAt 14 = .ok (.aload_n 0, 1) := by decide +kernel
theorem dM_keyAt_15 : decode bM_keyAt 15 = .ok (.getfield 39, 3) := by decide +kernel
theorem dM_keyAt_18 : decode bM_keyAt 18 = .ok (.if_icmp .ge 7, 3) := by decide +kernel
theorem dM_keyAt_21 : decode bM_keyAt 21 = .ok (.iconst 0, 1) := by decide +kernel
theorem dM_keyAt_22 : decode bM_keyAt 22 = .ok (.goto 4, 3) := by decide +kernel
theorem dM_keyAt_25 : decode bM_keyAt 25 = .ok (.iconst 1, 1) := by decide +kernel
theorem dM_keyAt_26 : decode bM_keyAt 26 = .ok (.putfield 36, 3) := by decide +kernel
theorem dM_keyAt_29 : decode bM_keyAt 29 = .ok (.aload_n 0, 1) := by decide +kernel
theorem dM_keyAt_30 : decode bM_keyAt 30 = .ok (.getfield 36, 3) := by decide +kernel
theorem dM_keyAt_33 : decode bM_keyAt 33 = .ok (.ifCond .le 7, 3) := by decide +kernel
theorem dM_keyAt_36 : decode bM_keyAt 36 = .ok (.iconst 0, 1) := by decide +kernel
theorem dM_keyAt_37 : decode bM_keyAt 37 = .ok (.goto 14, 3) := by decide +kernel
theorem dM_keyAt_40 : decode bM_keyAt 40 = .ok (.aload_n 0, 1) := by decide +kernel
theorem dM_keyAt_41 : decode bM_keyAt 41 = .ok (.getfield 13, 3) := by decide +kernel
theorem dM_keyAt_44 : decode bM_keyAt 44 = .ok (.bipush 8, 2) := by decide +kernel
theorem dM_keyAt_46 : decode bM_keyAt 46 = .ok (.iload_n 1, 1) := by decide +kernel
theorem dM_keyAt_47 : decode bM_keyAt 47 = .ok (.imul, 1) := by decide +kernel
theorem dM_keyAt_48 : decode bM_keyAt 48 = .ok (.iload_n 2, 1) := by decide +kernel
theorem dM_keyAt_49 : decode bM_keyAt 49 = .ok (.iadd, 1) := by decide +kernel
theorem dM_keyAt_50 : decode bM_keyAt 50 = .ok (.iaload, 1) := by decide +kernel
theorem dM_keyAt_51 : decode bM_keyAt 51 = .ok (.ireturn, 1) := by decide +kernel
theorem dM_isRow_0 : decode bM_isRow 0 = .ok (.iload_n 1, 1) := by decide +kernel
theorem dM_isRow_1 : decode bM_isRow 1 = .ok (.ifCond .lt 15, 3) := by decide +kernel
theorem dM_isRow_4 : decode bM_isRow 4 = .ok (.iload_n 1, 1) := by decide +kernel
theorem dM_isRow_5 : decode bM_isRow 5 = .ok (.aload_n 0, 1) := by decide +kernel
theorem dM_isRow_6 : decode bM_isRow 6 = .ok (.getfield 42, 3) := by decide +kernel
theorem dM_isRow_9 : decode bM_isRow 9 = .ok (.if_icmp .ge 7, 3) := by decide +kernel
theorem dM_isRow_12 : decode bM_isRow 12 = .ok (.iconst 1, 1) := by decide +kernel
theorem dM_isRow_13 : decode bM_isRow 13 = .ok (.goto 4, 3) := by decide +kernel
theorem dM_isRow_16 : decode bM_isRow 16 = .ok (.iconst 0, 1) := by decide +kernel
theorem dM_isRow_17 : decode bM_isRow 17 = .ok (.ireturn, 1) := by decide +kernel
theorem dM_count_0 : decode bM_count 0 = .ok (.aload_n 0, 1) := by decide +kernel
theorem dM_count_1 : decode bM_count 1 = .ok (.aload_n 0, 1) := by decide +kernel
theorem dM_count_2 : decode bM_count 2 = .ok (.iload_n 1, 1) := by decide +kernel
theorem dM_count_3 : decode bM_count 3 = .ok (.invokevirtual 76, 3) := by decide +kernel
theorem dM_count_6 : decode bM_count 6 = .ok (.ifCond .eq 7, 3) := by decide +kernel
theorem dM_count_9 : decode bM_count 9 = .ok (.iconst 0, 1) := by decide +kernel
theorem dM_count_10 : decode bM_count 10 = .ok (.goto 4, 3) := by decide +kernel
theorem dM_count_13 : decode bM_count 13 = .ok (.iconst 1, 1) := by decide +kernel
theorem dM_count_14 : decode bM_count 14 = .ok (.putfield 36, 3) := by decide +kernel
theorem dM_count_17 : decode bM_count 17 = .ok (.aload_n 0, 1) := by decide +kernel
theorem dM_count_18 : decode bM_count 18 = .ok (.getfield 36, 3) := by decide +kernel
theorem dM_count_21 : decode bM_count 21 = .ok (.ifCond .le 7, 3) := by decide +kernel
theorem dM_count_24 : decode bM_count 24 = .ok (.lconst 0, 1) := by decide +kernel
theorem dM_count_25 : decode bM_count 25 = .ok (.goto 9, 3) := by decide +kernel
theorem dM_count_28 : decode bM_count 28 = .ok (.aload_n 0, 1) := by decide +kernel
theorem dM_count_29 : decode bM_count 29 = .ok (.getfield 17, 3) := by decide +kernel
theorem dM_count_32 : decode bM_count 32 = .ok (.iload_n 1, 1) := by decide +kernel
theorem dM_count_33 : decode bM_count 33 = .ok (.laload, 1) := by decide +kernel
theorem dM_count_34 : decode bM_count 34 = .ok (.lreturn, 1) := by decide +kernel
theorem dM_told_0 : decode bM_told 0 = .ok (.aload_n 0, 1) := by decide +kernel
theorem dM_told_1 : decode bM_told 1 = .ok (.aload_n 0, 1) := by decide +kernel
theorem dM_told_2 : decode bM_told 2 = .ok (.iload_n 1, 1) := by decide +kernel
theorem dM_told_3 : decode bM_told 3 = .ok (.invokevirtual 76, 3) := by decide +kernel
theorem dM_told_6 : decode bM_told 6 = .ok (.ifCond .eq 28, 3) := by decide +kernel
theorem dM_told_9 : decode bM_told 9 = .ok (.iload_n 2, 1) := by decide +kernel
theorem dM_told_10 : decode bM_told 10 = .ok (.ifCond .lt 24, 3) := by decide +kernel
theorem dM_told_13 : decode bM_told 13 = .ok (.iload_n 2, 1) := by decide +kernel
theorem dM_told_14 : decode bM_told 14 = .ok (.aload_n 0, 1) := by decide +kernel
theorem dM_told_15 : decode bM_told 15 = .ok (.getfield 7, 3) := by decide +kernel
theorem dM_told_18 : decode bM_told 18 = .ok (.if_icmp .ge 16, 3) := by decide +kernel
theorem dM_told_21 : decode bM_told 21 = .ok (.iload_n 3, 1) := by decide +kernel
theorem dM_told_22 : decode bM_told 22 = .ok (.ifCond .lt 12, 3) := by decide +kernel
theorem dM_told_25 : decode bM_told 25 = .ok (.iload_n 3, 1) := by decide +kernel
theorem dM_told_26 : decode bM_told 26 = .ok (.iconst 2, 1) := by decide +kernel
theorem dM_told_27 : decode bM_told 27 = .ok (.if_icmp .gt 7, 3) := by decide +kernel
theorem dM_told_30 : decode bM_told 30 = .ok (.iconst 0, 1) := by decide +kernel
theorem dM_told_31 : decode bM_told 31 = .ok (.goto 4, 3) := by decide +kernel
theorem dM_told_34 : decode bM_told 34 = .ok (.iconst 1, 1) := by decide +kernel
theorem dM_told_35 : decode bM_told 35 = .ok (.putfield 36, 3) := by decide +kernel
theorem dM_told_38 : decode bM_told 38 = .ok (.aload_n 0, 1) := by decide +kernel
theorem dM_told_39 : decode bM_told 39 = .ok (.getfield 36, 3) := by decide +kernel
theorem dM_told_42 : decode bM_told 42 = .ok (.ifCond .le 5, 3) := by decide +kernel
theorem dM_told_45 : decode bM_told 45 = .ok (.lconst 0, 1) := by decide +kernel
theorem dM_told_46 : decode bM_told 46 = .ok (.lreturn, 1) := by decide +kernel
theorem dM_told_47 : decode bM_told 47 = .ok (.iload_n 3, 1) := by decide +kernel
theorem dM_told_48 : decode bM_told 48 = .ok (.ifCond .ne 17, 3) := by decide +kernel
theorem dM_told_51 : decode bM_told 51 = .ok (.aload_n 0, 1) := by decide +kernel
theorem dM_told_52 : decode bM_told 52 = .ok (.getfield 21, 3) := by decide +kernel
theorem dM_told_55 : decode bM_told 55 = .ok (.bipush 8, 2) := by decide +kernel
theorem dM_told_57 : decode bM_told 57 = .ok (.iload_n 1, 1) := by decide +kernel
theorem dM_told_58 : decode bM_told 58 = .ok (.imul, 1) := by decide +kernel
theorem dM_told_59 : decode bM_told 59 = .ok (.iload_n 2, 1) := by decide +kernel
theorem dM_told_60 : decode bM_told 60 = .ok (.iadd, 1) := by decide +kernel
theorem dM_told_61 : decode bM_told 61 = .ok (.laload, 1) := by decide +kernel
theorem dM_told_62 : decode bM_told 62 = .ok (.goto 33, 3) := by decide +kernel
theorem dM_told_65 : decode bM_told 65 = .ok (.iload_n 3, 1) := by decide +kernel
theorem dM_told_66 : decode bM_told 66 = .ok (.iconst 1, 1) := by decide +kernel
theorem dM_told_67 : decode bM_told 67 = .ok (.if_icmp .ne 17, 3) := by decide +kernel
theorem dM_told_70 : decode bM_told 70 = .ok (.aload_n 0, 1) := by decide +kernel
theorem dM_told_71 : decode bM_told 71 = .ok (.getfield 24, 3) := by decide +kernel
theorem dM_told_74 : decode bM_told 74 = .ok (.bipush 8, 2) := by decide +kernel
theorem dM_told_76 : decode bM_told 76 = .ok (.iload_n 1, 1) := by decide +kernel
theorem dM_told_77 : decode bM_told 77 = .ok (.imul, 1) := by decide +kernel
theorem dM_told_78 : decode bM_told 78 = .ok (.iload_n 2, 1) := by decide +kernel
theorem dM_told_79 : decode bM_told 79 = .ok (.iadd, 1) := by decide +kernel
theorem dM_told_80 : decode bM_told 80 = .ok (.laload, 1) := by decide +kernel
theorem dM_told_81 : decode bM_told 81 = .ok (.goto 14, 3) := by decide +kernel
theorem dM_told_84 : decode bM_told 84 = .ok (.aload_n 0, 1) := by decide +kernel
theorem dM_told_85 : decode bM_told 85 = .ok (.getfield 27, 3) := by decide +kernel
theorem dM_told_88 : decode bM_told 88 = .ok (.bipush 8, 2) := by decide +kernel
theorem dM_told_90 : decode bM_told 90 = .ok (.iload_n 1, 1) := by decide +kernel
theorem dM_told_91 : decode bM_told 91 = .ok (.imul, 1) := by decide +kernel
theorem dM_told_92 : decode bM_told 92 = .ok (.iload_n 2, 1) := by decide +kernel
theorem dM_told_93 : decode bM_told 93 = .ok (.iadd, 1) := by decide +kernel
theorem dM_told_94 : decode bM_told 94 = .ok (.laload, 1) := by decide +kernel
theorem dM_told_95 : decode bM_told 95 = .ok (.lreturn, 1) := by decide +kernel
