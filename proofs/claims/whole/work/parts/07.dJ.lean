theorem dJO_init_0 : decode bJO_init 0 = .ok (.return_, 1) := by decide +kernel
theorem dJI_compare_0 : decode bJI_compare 0 = .ok (.iload_n 0, 1) := by decide +kernel
theorem dJI_compare_1 : decode bJI_compare 1 = .ok (.iload_n 1, 1) := by decide +kernel
theorem dJI_compare_2 : decode bJI_compare 2 = .ok (.if_icmp .ge 7, 3) := by decide +kernel
theorem dJI_compare_5 : decode bJI_compare 5 = .ok (.iconst (-1), 1) := by decide +kernel
theorem dJI_compare_6 : decode bJI_compare 6 = .ok (.goto 13, 3) := by decide +kernel
theorem dJI_compare_9 : decode bJI_compare 9 = .ok (.iload_n 0, 1) := by decide +kernel
theorem dJI_compare_10 : decode bJI_compare 10 = .ok (.iload_n 1, 1) := by decide +kernel
theorem dJI_compare_11 : decode bJI_compare 11 = .ok (.if_icmp .ne 7, 3) := by decide +kernel
theorem dJI_compare_14 : decode bJI_compare 14 = .ok (.iconst 0, 1) := by decide +kernel
theorem dJI_compare_15 : decode bJI_compare 15 = .ok (.goto 4, 3) := by decide +kernel
theorem dJI_compare_18 : decode bJI_compare 18 = .ok (.iconst 1, 1) := by decide +kernel
theorem dJI_compare_19 : decode bJI_compare 19 = .ok (.ireturn, 1) := by decide +kernel
theorem dJA_fillI_0 : decode bJA_fillI 0 = .ok (.iconst 0, 1) := by decide +kernel
theorem dJA_fillI_1 : decode bJA_fillI 1 = .ok (.istore_n 2, 1) := by decide +kernel
theorem dJA_fillI_2 : decode bJA_fillI 2 = .ok (.aload_n 0, 1) := by decide +kernel
theorem dJA_fillI_3 : decode bJA_fillI 3 = .ok (.arraylength, 1) := by decide +kernel
theorem dJA_fillI_4 : decode bJA_fillI 4 = .ok (.istore_n 3, 1) := by decide +kernel
theorem dJA_fillI_5 : decode bJA_fillI 5 = .ok (.iload_n 2, 1) := by decide +kernel
theorem dJA_fillI_6 : decode bJA_fillI 6 = .ok (.iload_n 3, 1) := by decide +kernel
theorem dJA_fillI_7 : decode bJA_fillI 7 = .ok (.if_icmp .ge 13, 3) := by decide +kernel
theorem dJA_fillI_10 : decode bJA_fillI 10 = .ok (.aload_n 0, 1) := by decide +kernel
theorem dJA_fillI_11 : decode bJA_fillI 11 = .ok (.iload_n 2, 1) := by decide +kernel
theorem dJA_fillI_12 : decode bJA_fillI 12 = .ok (.iload_n 1, 1) := by decide +kernel
theorem dJA_fillI_13 : decode bJA_fillI 13 = .ok (.iastore, 1) := by decide +kernel
theorem dJA_fillI_14 : decode bJA_fillI 14 = .ok (.iinc 2 1, 3) := by decide +kernel
theorem dJA_fillI_17 : decode bJA_fillI 17 = .ok (.goto (-12), 3) := by decide +kernel
theorem dJA_fillI_20 : decode bJA_fillI 20 = .ok (.return_, 1) := by decide +kernel
theorem dJA_fillJ_0 : decode bJA_fillJ 0 = .ok (.iconst 0, 1) := by decide +kernel
theorem dJA_fillJ_1 : decode bJA_fillJ 1 = .ok (.istore_n 3, 1) := by decide +kernel
theorem dJA_fillJ_2 : decode bJA_fillJ 2 = .ok (.aload_n 0, 1) := by decide +kernel
theorem dJA_fillJ_3 : decode bJA_fillJ 3 = .ok (.arraylength, 1) := by decide +kernel
theorem dJA_fillJ_4 : decode bJA_fillJ 4 = .ok (.istore 4, 2) := by decide +kernel
theorem dJA_fillJ_6 : decode bJA_fillJ 6 = .ok (.iload_n 3, 1) := by decide +kernel
theorem dJA_fillJ_7 : decode bJA_fillJ 7 = .ok (.iload 4, 2) := by decide +kernel
theorem dJA_fillJ_9 : decode bJA_fillJ 9 = .ok (.if_icmp .ge 13, 3) := by decide +kernel
theorem dJA_fillJ_12 : decode bJA_fillJ 12 = .ok (.aload_n 0, 1) := by decide +kernel
theorem dJA_fillJ_13 : decode bJA_fillJ 13 = .ok (.iload_n 3, 1) := by decide +kernel
theorem dJA_fillJ_14 : decode bJA_fillJ 14 = .ok (.lload_n 1, 1) := by decide +kernel
theorem dJA_fillJ_15 : decode bJA_fillJ 15 = .ok (.lastore, 1) := by decide +kernel
theorem dJA_fillJ_16 : decode bJA_fillJ 16 = .ok (.iinc 3 1, 3) := by decide +kernel
theorem dJA_fillJ_19 : decode bJA_fillJ 19 = .ok (.goto (-13), 3) := by decide +kernel
theorem dJA_fillJ_22 : decode bJA_fillJ 22 = .ok (.return_, 1) := by decide +kernel
theorem dJM_min_0 : decode bJM_min 0 = .ok (.lload_n 0, 1) := by decide +kernel
theorem dJM_min_1 : decode bJM_min 1 = .ok (.lload_n 2, 1) := by decide +kernel
theorem dJM_min_2 : decode bJM_min 2 = .ok (.lcmp, 1) := by decide +kernel
theorem dJM_min_3 : decode bJM_min 3 = .ok (.ifCond .gt 7, 3) := by decide +kernel
theorem dJM_min_6 : decode bJM_min 6 = .ok (.lload_n 0, 1) := by decide +kernel
theorem dJM_min_7 : decode bJM_min 7 = .ok (.goto 4, 3) := by decide +kernel
theorem dJM_min_10 : decode bJM_min 10 = .ok (.lload_n 2, 1) := by decide +kernel
theorem dJM_min_11 : decode bJM_min 11 = .ok (.lreturn, 1) := by decide +kernel
theorem dJM_max_0 : decode bJM_max 0 = .ok (.lload_n 0, 1) := by decide +kernel
theorem dJM_max_1 : decode bJM_max 1 = .ok (.lload_n 2, 1) := by decide +kernel
theorem dJM_max_2 : decode bJM_max 2 = .ok (.lcmp, 1) := by decide +kernel
theorem dJM_max_3 : decode bJM_max 3 = .ok (.ifCond .lt 7, 3) := by decide +kernel
theorem dJM_max_6 : decode bJM_max 6 = .ok (.lload_n 0, 1) := by decide +kernel
theorem dJM_max_7 : decode bJM_max 7 = .ok (.goto 4, 3) := by decide +kernel
theorem dJM_max_10 : decode bJM_max 10 = .ok (.lload_n 2, 1) := by decide +kernel
theorem dJM_max_11 : decode bJM_max 11 = .ok (.lreturn, 1) := by decide +kernel
