theorem dL_behind_95 : decode cL_behind 95 = .ok (.iadd, 1) := by decide +kernel
theorem dL_behind_96 : decode cL_behind 96 = .ok (.invokestatic 38, 3) := by decide +kernel
theorem dL_behind_99 : decode cL_behind 99 = .ok (.ireturn, 1) := by decide +kernel
theorem dL_many_0 : decode cL_many 0 = .ok (.iconst 0, 1) := by decide +kernel
theorem dL_many_1 : decode cL_many 1 = .ok (.istore_n 1, 1) := by decide +kernel
theorem dL_many_2 : decode cL_many 2 = .ok (.iconst 0, 1) := by decide +kernel
theorem dL_many_3 : decode cL_many 3 = .ok (.istore_n 2, 1) := by decide +kernel
theorem dL_many_4 : decode cL_many 4 = .ok (.iload_n 2, 1) := by decide +kernel
theorem dL_many_5 : decode cL_many 5 = .ok (.bipush 6, 2) := by decide +kernel
theorem dL_many_7 : decode cL_many 7 = .ok (.if_icmp .ge 17, 3) := by decide +kernel
theorem dL_many_10 : decode cL_many 10 = .ok (.iload_n 1, 1) := by decide +kernel
theorem dL_many_11 : decode cL_many 11 = .ok (.iload_n 0, 1) := by decide +kernel
theorem dL_many_12 : decode cL_many 12 = .ok (.iload_n 2, 1) := by decide +kernel
theorem dL_many_13 : decode cL_many 13 = .ok (.ishr, 1) := by decide +kernel
theorem dL_many_14 : decode cL_many 14 = .ok (.iconst 1, 1) := by decide +kernel
theorem dL_many_15 : decode cL_many 15 = .ok (.iand, 1) := by decide +kernel
theorem dL_many_16 : decode cL_many 16 = .ok (.iadd, 1) := by decide +kernel
theorem dL_many_17 : decode cL_many 17 = .ok (.istore_n 1, 1) := by decide +kernel
theorem dL_many_18 : decode cL_many 18 = .ok (.iinc 2 1, 3) := by decide +kernel
theorem dL_many_21 : decode cL_many 21 = .ok (.goto (-17), 3) := by decide +kernel
theorem dL_many_24 : decode cL_many 24 = .ok (.iload_n 1, 1) := by decide +kernel
theorem dL_many_25 : decode cL_many 25 = .ok (.ireturn, 1) := by decide +kernel
theorem dL_sum_0 : decode cL_sum 0 = .ok (.aload_n 0, 1) := by decide +kernel
theorem dL_sum_1 : decode cL_sum 1 = .ok (.iconst 0, 1) := by decide +kernel
theorem dL_sum_2 : decode cL_sum 2 = .ok (.iaload, 1) := by decide +kernel
theorem dL_sum_3 : decode cL_sum 3 = .ok (.aload_n 0, 1) := by decide +kernel
theorem dL_sum_4 : decode cL_sum 4 = .ok (.iconst 1, 1) := by decide +kernel
theorem dL_sum_5 : decode cL_sum 5 = .ok (.iaload, 1) := by decide +kernel
theorem dL_sum_6 : decode cL_sum 6 = .ok (.iadd, 1) := by decide +kernel
theorem dL_sum_7 : decode cL_sum 7 = .ok (.aload_n 0, 1) := by decide +kernel
theorem dL_sum_8 : decode cL_sum 8 = .ok (.iconst 2, 1) := by decide +kernel
theorem dL_sum_9 : decode cL_sum 9 = .ok (.iaload, 1) := by decide +kernel
theorem dL_sum_10 : decode cL_sum 10 = .ok (.iadd, 1) := by decide +kernel
theorem dL_sum_11 : decode cL_sum 11 = .ok (.aload_n 0, 1) := by decide +kernel
theorem dL_sum_12 : decode cL_sum 12 = .ok (.iconst 3, 1) := by decide +kernel
theorem dL_sum_13 : decode cL_sum 13 = .ok (.iaload, 1) := by decide +kernel
theorem dL_sum_14 : decode cL_sum 14 = .ok (.iadd, 1) := by decide +kernel
theorem dL_sum_15 : decode cL_sum 15 = .ok (.aload_n 0, 1) := by decide +kernel
theorem dL_sum_16 : decode cL_sum 16 = .ok (.iconst 4, 1) := by decide +kernel
theorem dL_sum_17 : decode cL_sum 17 = .ok (.iaload, 1) := by decide +kernel
theorem dL_sum_18 : decode cL_sum 18 = .ok (.iadd, 1) := by decide +kernel
theorem dL_sum_19 : decode cL_sum 19 = .ok (.aload_n 0, 1) := by decide +kernel
theorem dL_sum_20 : decode cL_sum 20 = .ok (.iconst 5, 1) := by decide +kernel
theorem dL_sum_21 : decode cL_sum 21 = .ok (.iaload, 1) := by decide +kernel
theorem dL_sum_22 : decode cL_sum 22 = .ok (.iadd, 1) := by decide +kernel
theorem dL_sum_23 : decode cL_sum 23 = .ok (.ireturn, 1) := by decide +kernel
