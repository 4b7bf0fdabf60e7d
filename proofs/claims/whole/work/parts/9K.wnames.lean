/-! Names of the law's wrappers. -/
theorem dL_load_0 : decode cL_load 0 = .ok (.aload_n 2, 1) := by decide +kernel
theorem dL_load_1 : decode cL_load 1 = .ok (.iconst 0, 1) := by decide +kernel
theorem dL_load_2 : decode cL_load 2 = .ok (.aload_n 0, 1) := by decide +kernel
theorem dL_load_3 : decode cL_load 3 = .ok (.iload_n 1, 1) := by decide +kernel
theorem dL_load_4 : decode cL_load 4 = .ok (.invokevirtual 7, 3) := by decide +kernel
theorem dL_load_7 : decode cL_load 7 = .ok (.i2l, 1) := by decide +kernel
theorem dL_load_8 : decode cL_load 8 = .ok (.lastore, 1) := by decide +kernel
theorem dL_load_9 : decode cL_load 9 = .ok (.goto 9, 3) := by decide +kernel
theorem dL_load_12 : decode cL_load 12 = .ok (.astore_n 3, 1) := by decide +kernel
theorem dL_load_13 : decode cL_load 13 = .ok (.iconst 1, 1) := by decide +kernel
theorem dL_load_14 : decode cL_load 14 = .ok (.ireturn, 1) := by decide +kernel
theorem dL_load_15 : decode cL_load 15 = .ok (.astore_n 3, 1) := by decide +kernel
theorem dL_load_16 : decode cL_load 16 = .ok (.iconst 2, 1) := by decide +kernel
theorem dL_load_17 : decode cL_load 17 = .ok (.ireturn, 1) := by decide +kernel
theorem dL_load_18 : decode cL_load 18 = .ok (.iconst 0, 1) := by decide +kernel
theorem dL_load_19 : decode cL_load 19 = .ok (.ireturn, 1) := by decide +kernel
theorem dL_find_0 : decode cL_find 0 = .ok (.aload_n 2, 1) := by decide +kernel
theorem dL_find_1 : decode cL_find 1 = .ok (.iconst 0, 1) := by decide +kernel
theorem dL_find_2 : decode cL_find 2 = .ok (.aload_n 0, 1) := by decide +kernel
theorem dL_find_3 : decode cL_find 3 = .ok (.iload_n 1, 1) := by decide +kernel
theorem dL_find_4 : decode cL_find 4 = .ok (.invokevirtual 17, 3) := by decide +kernel
theorem dL_find_7 : decode cL_find 7 = .ok (.i2l, 1) := by decide +kernel
theorem dL_find_8 : decode cL_find 8 = .ok (.lastore, 1) := by decide +kernel
theorem dL_find_9 : decode cL_find 9 = .ok (.goto 9, 3) := by decide +kernel
theorem dL_find_12 : decode cL_find 12 = .ok (.astore_n 3, 1) := by decide +kernel
theorem dL_find_13 : decode cL_find 13 = .ok (.iconst 1, 1) := by decide +kernel
theorem dL_find_14 : decode cL_find 14 = .ok (.ireturn, 1) := by decide +kernel
theorem dL_find_15 : decode cL_find 15 = .ok (.astore_n 3, 1) := by decide +kernel
theorem dL_find_16 : decode cL_find 16 = .ok (.iconst 2, 1) := by decide +kernel
theorem dL_find_17 : decode cL_find 17 = .ok (.ireturn, 1) := by decide +kernel
theorem dL_find_18 : decode cL_find 18 = .ok (.iconst 0, 1) := by decide +kernel
theorem dL_find_19 : decode cL_find 19 = .ok (.ireturn, 1) := by decide +kernel
theorem dL_checks_0 : decode cL_checks 0 = .ok (.aload_n 2, 1) := by decide +kernel
theorem dL_checks_1 : decode cL_checks 1 = .ok (.iconst 0, 1) := by decide +kernel
theorem dL_checks_2 : decode cL_checks 2 = .ok (.aload_n 0, 1) := by decide +kernel
theorem dL_checks_3 : decode cL_checks 3 = .ok (.iload_n 1, 1) := by decide +kernel
theorem dL_checks_4 : decode cL_checks 4 = .ok (.invokevirtual 22, 3) := by decide +kernel
theorem dL_checks_7 : decode cL_checks 7 = .ok (.i2l, 1) := by decide +kernel
theorem dL_checks_8 : decode cL_checks 8 = .ok (.lastore, 1) := by decide +kernel
theorem dL_checks_9 : decode cL_checks 9 = .ok (.goto 9, 3) := by decide +kernel
theorem dL_checks_12 : decode cL_checks 12 = .ok (.astore_n 3, 1) := by decide +kernel
theorem dL_checks_13 : decode cL_checks 13 = .ok (.iconst 1, 1) := by decide +kernel
theorem dL_checks_14 : decode cL_checks 14 = .ok (.ireturn, 1) := by decide +kernel
theorem dL_checks_15 : decode cL_checks 15 = .ok (.astore_n 3, 1) := by decide +kernel
theorem dL_checks_16 : decode cL_checks 16 = .ok (.iconst 2, 1) := by decide +kernel
theorem dL_checks_17 : decode cL_checks 17 = .ok (.ireturn, 1) := by decide +kernel
theorem dL_checks_18 : decode cL_checks 18 = .ok (.iconst 0, 1) := by decide +kernel
theorem dL_checks_19 : decode cL_checks 19 = .ok (.ireturn, 1) := by decide +kernel
theorem dL_count_0 : decode cL_count 0 = .ok (.aload_n 2, 1) := by decide +kernel
theorem dL_count_1 : decode cL_count 1 = .ok (.iconst 0, 1) := by decide +kernel
theorem dL_count_2 : decode cL_count 2 = .ok (.aload_n 0, 1) := by decide +kernel
theorem dL_count_3 : decode cL_count 3 = .ok (.iload_n 1, 1) := by decide +kernel
theorem dL_count_4 : decode cL_count 4 = .ok (.invokevirtual 25, 3) := by decide +kernel
theorem dL_count_7 : decode cL_count 7 = .ok (.i2l, 1) := by decide +kernel
theorem dL_count_8 : decode cL_count 8 = .ok (.lastore, 1) := by decide +kernel
theorem dL_count_9 : decode cL_count 9 = .ok (.goto 9, 3) := by decide +kernel
theorem dL_count_12 : decode cL_count 12 = .ok (.astore_n 3, 1) := by decide +kernel
theorem dL_count_13 : decode cL_count 13 = .ok (.iconst 1, 1) := by decide +kernel
theorem dL_count_14 : decode cL_count 14 = .ok (.ireturn, 1) := by decide +kernel
theorem dL_count_15 : decode cL_count 15 = .ok (.astore_n 3, 1) := by decide +kernel
theorem dL_count_16 : decode cL_count 16 = .ok (.iconst 2, 1) := by decide +kernel
theorem dL_count_17 : decode cL_count 17 = .ok (.ireturn, 1) := by decide +kernel
theorem dL_count_18 : decode cL_count 18 = .ok (.iconst 0, 1) := by decide +kernel
theorem dL_count_19 : decode cL_count 19 = .ok (.ireturn, 1) := by decide +kernel
theorem dL_bit_0 : decode cL_bit 0 = .ok (.aload_n 3, 1) := by decide +kernel
theorem dL_bit_1 : decode cL_bit 1 = .ok (.iconst 0, 1) := by decide +kernel
theorem dL_bit_2 : decode cL_bit 2 = .ok (.aload_n 0, 1) := by decide +kernel
theorem dL_bit_3 : decode cL_bit 3 = .ok (.iload_n 1, 1) := by decide +kernel
theorem dL_bit_4 : decode cL_bit 4 = .ok (.iload_n 2, 1) := by decide +kernel
theorem dL_bit_5 : decode cL_bit 5 = .ok (.invokevirtual 28, 3) := by decide +kernel
theorem dL_bit_8 : decode cL_bit 8 = .ok (.i2l, 1) := by decide +kernel
theorem dL_bit_9 : decode cL_bit 9 = .ok (.lastore, 1) := by decide +kernel
theorem dL_bit_10 : decode cL_bit 10 = .ok (.goto 11, 3) := by decide +kernel
theorem dL_bit_13 : decode cL_bit 13 = .ok (.astore 4, 2) := by decide +kernel
theorem dL_bit_15 : decode cL_bit 15 = .ok (.iconst 1, 1) := by decide +kernel
theorem dL_bit_16 : decode cL_bit 16 = .ok (.ireturn, 1) := by decide +kernel
theorem dL_bit_17 : decode cL_bit 17 = .ok (.astore 4, 2) := by decide +kernel
theorem dL_bit_19 : decode cL_bit 19 = .ok (.iconst 2, 1) := by decide +kernel
theorem dL_bit_20 : decode cL_bit 20 = .ok (.ireturn, 1) := by decide +kernel
theorem dL_bit_21 : decode cL_bit 21 = .ok (.iconst 0, 1) := by decide +kernel
theorem dL_bit_22 : decode cL_bit 22 = .ok (.ireturn, 1) := by decide +kernel
theorem dL_ones_0 : decode cL_ones 0 = .ok (.aload 4, 2) := by decide +kernel
theorem dL_ones_2 : decode cL_ones 2 = .ok (.iconst 0, 1) := by decide +kernel
theorem dL_ones_3 : decode cL_ones 3 = .ok (.aload_n 0, 1) := by decide +kernel
theorem dL_ones_4 : decode cL_ones 4 = .ok (.iload_n 1, 1) := by decide +kernel
theorem dL_ones_5 : decode cL_ones 5 = .ok (.iload_n 2, 1) := by decide +kernel
theorem dL_ones_6 : decode cL_ones 6 = .ok (.iload_n 3, 1) := by decide +kernel
theorem dL_ones_7 : decode cL_ones 7 = .ok (.invokevirtual 32, 3) := by decide +kernel
theorem dL_ones_10 : decode cL_ones 10 = .ok (.i2l, 1) := by decide +kernel
theorem dL_ones_11 : decode cL_ones 11 = .ok (.lastore, 1) := by decide +kernel
theorem dL_ones_12 : decode cL_ones 12 = .ok (.goto 11, 3) := by decide +kernel
theorem dL_ones_15 : decode cL_ones 15 = .ok (.astore 5, 2) := by decide +kernel
theorem dL_ones_17 : decode cL_ones 17 = .ok (.iconst 1, 1) := by decide +kernel
theorem dL_ones_18 : decode cL_ones 18 = .ok (.ireturn, 1) := by decide +kernel
theorem dL_ones_19 : decode cL_ones 19 = .ok (.astore 5, 2) := by decide +kernel
theorem dL_ones_21 : decode cL_ones 21 = .ok (.iconst 2, 1) := by decide +kernel
theorem dL_ones_22 : decode cL_ones 22 = .ok (.ireturn, 1) := by decide +kernel
theorem dL_ones_23 : decode cL_ones 23 = .ok (.iconst 0, 1) := by decide +kernel
theorem dL_ones_24 : decode cL_ones 24 = .ok (.ireturn, 1) := by decide +kernel
theorem dL_next_0 : decode cL_next 0 = .ok (.aload 4, 2) := by decide +kernel
theorem dL_next_2 : decode cL_next 2 = .ok (.iconst 0, 1) := by decide +kernel
theorem dL_next_3 : decode cL_next 3 = .ok (.aload_n 0, 1) := by decide +kernel
theorem dL_next_4 : decode cL_next 4 = .ok (.iload_n 1, 1) := by decide +kernel
theorem dL_next_5 : decode cL_next 5 = .ok (.iload_n 2, 1) := by decide +kernel
theorem dL_next_6 : decode cL_next 6 = .ok (.iload_n 3, 1) := by decide +kernel
theorem dL_next_7 : decode cL_next 7 = .ok (.invokevirtual 36, 3) := by decide +kernel
theorem dL_next_10 : decode cL_next 10 = .ok (.i2l, 1) := by decide +kernel
theorem dL_next_11 : decode cL_next 11 = .ok (.lastore, 1) := by decide +kernel
theorem dL_next_12 : decode cL_next 12 = .ok (.goto 15, 3) := by decide +kernel
theorem dL_next_15 : decode cL_next 15 = .ok (.astore 5, 2) := by decide +kernel
theorem dL_next_17 : decode cL_next 17 = .ok (.iconst 1, 1) := by decide +kernel
theorem dL_next_18 : decode cL_next 18 = .ok (.ireturn, 1) := by decide +kernel
theorem dL_next_19 : decode cL_next 19 = .ok (.astore 5, 2) := by decide +kernel
theorem dL_next_21 : decode cL_next 21 = .ok (.iconst 2, 1) := by decide +kernel
theorem dL_next_22 : decode cL_next 22 = .ok (.ireturn, 1) := by decide +kernel
theorem dL_next_23 : decode cL_next 23 = .ok (.astore 5, 2) := by decide +kernel
theorem dL_next_25 : decode cL_next 25 = .ok (.iconst 3, 1) := by decide +kernel
theorem dL_next_26 : decode cL_next 26 = .ok (.ireturn, 1) := by decide +kernel
theorem dL_next_27 : decode cL_next 27 = .ok (.iconst 0, 1) := by decide +kernel
theorem dL_next_28 : decode cL_next 28 = .ok (.ireturn, 1) := by decide +kernel
theorem dL_select_0 : decode cL_select 0 = .ok (.aload_n 3, 1) := by decide +kernel
theorem dL_select_1 : decode cL_select 1 = .ok (.iconst 0, 1) := by decide +kernel
theorem dL_select_2 : decode cL_select 2 = .ok (.aload_n 0, 1) := by decide +kernel
theorem dL_select_3 : decode cL_select 3 = .ok (.iload_n 1, 1) := by decide +kernel
theorem dL_select_4 : decode cL_select 4 = .ok (.iload_n 2, 1) := by decide +kernel
theorem dL_select_5 : decode cL_select 5 = .ok (.invokevirtual 39, 3) := by decide +kernel
theorem dL_select_8 : decode cL_select 8 = .ok (.i2l, 1) := by decide +kernel
theorem dL_select_9 : decode cL_select 9 = .ok (.lastore, 1) := by decide +kernel
theorem dL_select_10 : decode cL_select 10 = .ok (.goto 11, 3) := by decide +kernel
theorem dL_select_13 : decode cL_select 13 = .ok (.astore 4, 2) := by decide +kernel
theorem dL_select_15 : decode cL_select 15 = .ok (.iconst 1, 1) := by decide +kernel
theorem dL_select_16 : decode cL_select 16 = .ok (.ireturn, 1) := by decide +kernel
theorem dL_select_17 : decode cL_select 17 = .ok (.astore 4, 2) := by decide +kernel
theorem dL_select_19 : decode cL_select 19 = .ok (.iconst 2, 1) := by decide +kernel
theorem dL_select_20 : decode cL_select 20 = .ok (.ireturn, 1) := by decide +kernel
theorem dL_select_21 : decode cL_select 21 = .ok (.iconst 0, 1) := by decide +kernel
theorem dL_select_22 : decode cL_select 22 = .ok (.ireturn, 1) := by decide +kernel
theorem dL_runs_0 : decode cL_runs 0 = .ok (.aload_n 3, 1) := by decide +kernel
theorem dL_runs_1 : decode cL_runs 1 = .ok (.iconst 0, 1) := by decide +kernel
theorem dL_runs_2 : decode cL_runs 2 = .ok (.aload_n 0, 1) := by decide +kernel
theorem dL_runs_3 : decode cL_runs 3 = .ok (.iload_n 1, 1) := by decide +kernel
theorem dL_runs_4 : decode cL_runs 4 = .ok (.iload_n 2, 1) := by decide +kernel
theorem dL_runs_5 : decode cL_runs 5 = .ok (.invokevirtual 42, 3) := by decide +kernel
theorem dL_runs_8 : decode cL_runs 8 = .ok (.i2l, 1) := by decide +kernel
theorem dL_runs_9 : decode cL_runs 9 = .ok (.lastore, 1) := by decide +kernel
theorem dL_runs_10 : decode cL_runs 10 = .ok (.goto 15, 3) := by decide +kernel
theorem dL_runs_13 : decode cL_runs 13 = .ok (.astore 4, 2) := by decide +kernel
theorem dL_runs_15 : decode cL_runs 15 = .ok (.iconst 1, 1) := by decide +kernel
theorem dL_runs_16 : decode cL_runs 16 = .ok (.ireturn, 1) := by decide +kernel
theorem dL_runs_17 : decode cL_runs 17 = .ok (.astore 4, 2) := by decide +kernel
theorem dL_runs_19 : decode cL_runs 19 = .ok (.iconst 2, 1) := by decide +kernel
theorem dL_runs_20 : decode cL_runs 20 = .ok (.ireturn, 1) := by decide +kernel
theorem dL_runs_21 : decode cL_runs 21 = .ok (.astore 4, 2) := by decide +kernel
theorem dL_runs_23 : decode cL_runs 23 = .ok (.iconst 3, 1) := by decide +kernel
theorem dL_runs_24 : decode cL_runs 24 = .ok (.ireturn, 1) := by decide +kernel
theorem dL_runs_25 : decode cL_runs 25 = .ok (.iconst 0, 1) := by decide +kernel
theorem dL_runs_26 : decode cL_runs 26 = .ok (.ireturn, 1) := by decide +kernel
theorem dL_longestRun_0 : decode cL_longestRun 0 = .ok (.aload_n 3, 1) := by decide +kernel
theorem dL_longestRun_1 : decode cL_longestRun 1 = .ok (.iconst 0, 1) := by decide +kernel
theorem dL_longestRun_2 : decode cL_longestRun 2 = .ok (.aload_n 0, 1) := by decide +kernel
theorem dL_longestRun_3 : decode cL_longestRun 3 = .ok (.iload_n 1, 1) := by decide +kernel
theorem dL_longestRun_4 : decode cL_longestRun 4 = .ok (.iload_n 2, 1) := by decide +kernel
theorem dL_longestRun_5 : decode cL_longestRun 5 = .ok (.invokevirtual 45, 3) := by decide +kernel
theorem dL_longestRun_8 : decode cL_longestRun 8 = .ok (.i2l, 1) := by decide +kernel
theorem dL_longestRun_9 : decode cL_longestRun 9 = .ok (.lastore, 1) := by decide +kernel
theorem dL_longestRun_10 : decode cL_longestRun 10 = .ok (.goto 15, 3) := by decide +kernel
theorem dL_longestRun_13 : decode cL_longestRun 13 = .ok (.astore 4, 2) := by decide +kernel
theorem dL_longestRun_15 : decode cL_longestRun 15 = .ok (.iconst 1, 1) := by decide +kernel
theorem dL_longestRun_16 : decode cL_longestRun 16 = .ok (.ireturn, 1) := by decide +kernel
theorem dL_longestRun_17 : decode cL_longestRun 17 = .ok (.astore 4, 2) := by decide +kernel
theorem dL_longestRun_19 : decode cL_longestRun 19 = .ok (.iconst 2, 1) := by decide +kernel
theorem dL_longestRun_20 : decode cL_longestRun 20 = .ok (.ireturn, 1) := by decide +kernel
theorem dL_longestRun_21 : decode cL_longestRun 21 = .ok (.astore 4, 2) := by decide +kernel
theorem dL_longestRun_23 : decode cL_longestRun 23 = .ok (.iconst 3, 1) := by decide +kernel
theorem dL_longestRun_24 : decode cL_longestRun 24 = .ok (.ireturn, 1) := by decide +kernel
theorem dL_longestRun_25 : decode cL_longestRun 25 = .ok (.iconst 0, 1) := by decide +kernel
theorem dL_longestRun_26 : decode cL_longestRun 26 = .ok (.ireturn, 1) := by decide +kernel
theorem dL_bytes_0 : decode cL_bytes 0 = .ok (.aload_n 2, 1) := by decide +kernel
theorem dL_bytes_1 : decode cL_bytes 1 = .ok (.iconst 0, 1) := by decide +kernel
theorem dL_bytes_2 : decode cL_bytes 2 = .ok (.aload_n 0, 1) := by decide +kernel
theorem dL_bytes_3 : decode cL_bytes 3 = .ok (.iload_n 1, 1) := by decide +kernel
theorem dL_bytes_4 : decode cL_bytes 4 = .ok (.invokevirtual 48, 3) := by decide +kernel
theorem dL_bytes_7 : decode cL_bytes 7 = .ok (.i2l, 1) := by decide +kernel
theorem dL_bytes_8 : decode cL_bytes 8 = .ok (.lastore, 1) := by decide +kernel
theorem dL_bytes_9 : decode cL_bytes 9 = .ok (.goto 9, 3) := by decide +kernel
theorem dL_bytes_12 : decode cL_bytes 12 = .ok (.astore_n 3, 1) := by decide +kernel
theorem dL_bytes_13 : decode cL_bytes 13 = .ok (.iconst 1, 1) := by decide +kernel
theorem dL_bytes_14 : decode cL_bytes 14 = .ok (.ireturn, 1) := by decide +kernel
theorem dL_bytes_15 : decode cL_bytes 15 = .ok (.astore_n 3, 1) := by decide +kernel
theorem dL_bytes_16 : decode cL_bytes 16 = .ok (.iconst 2, 1) := by decide +kernel
theorem dL_bytes_17 : decode cL_bytes 17 = .ok (.ireturn, 1) := by decide +kernel
theorem dL_bytes_18 : decode cL_bytes 18 = .ok (.iconst 0, 1) := by decide +kernel
theorem dL_bytes_19 : decode cL_bytes 19 = .ok (.ireturn, 1) := by decide +kernel
theorem dL_byteAt_0 : decode cL_byteAt 0 = .ok (.aload_n 3, 1) := by decide +kernel
theorem dL_byteAt_1 : decode cL_byteAt 1 = .ok (.iconst 0, 1) := by decide +kernel
theorem dL_byteAt_2 : decode cL_byteAt 2 = .ok (.aload_n 0, 1) := by decide +kernel
theorem dL_byteAt_3 : decode cL_byteAt 3 = .ok (.iload_n 1, 1) := by decide +kernel
theorem dL_byteAt_4 : decode cL_byteAt 4 = .ok (.iload_n 2, 1) := by decide +kernel
theorem dL_byteAt_5 : decode cL_byteAt 5 = .ok (.invokevirtual 51, 3) := by decide +kernel
theorem dL_byteAt_8 : decode cL_byteAt 8 = .ok (.i2l, 1) := by decide +kernel
theorem dL_byteAt_9 : decode cL_byteAt 9 = .ok (.lastore, 1) := by decide +kernel
theorem dL_byteAt_10 : decode cL_byteAt 10 = .ok (.goto 11, 3) := by decide +kernel
theorem dL_byteAt_13 : decode cL_byteAt 13 = .ok (.astore 4, 2) := by decide +kernel
theorem dL_byteAt_15 : decode cL_byteAt 15 = .ok (.iconst 1, 1) := by decide +kernel
theorem dL_byteAt_16 : decode cL_byteAt 16 = .ok (.ireturn, 1) := by decide +kernel
theorem dL_byteAt_17 : decode cL_byteAt 17 = .ok (.astore 4, 2) := by decide +kernel
theorem dL_byteAt_19 : decode cL_byteAt 19 = .ok (.iconst 2, 1) := by decide +kernel
theorem dL_byteAt_20 : decode cL_byteAt 20 = .ok (.ireturn, 1) := by decide +kernel
theorem dL_byteAt_21 : decode cL_byteAt 21 = .ok (.iconst 0, 1) := by decide +kernel
theorem dL_byteAt_22 : decode cL_byteAt 22 = .ok (.ireturn, 1) := by decide +kernel
theorem dL_parts_0 : decode cL_parts 0 = .ok (.aload_n 3, 1) := by decide +kernel
theorem dL_parts_1 : decode cL_parts 1 = .ok (.iconst 0, 1) := by decide +kernel
theorem dL_parts_2 : decode cL_parts 2 = .ok (.aload_n 0, 1) := by decide +kernel
theorem dL_parts_3 : decode cL_parts 3 = .ok (.iload_n 1, 1) := by decide +kernel
theorem dL_parts_4 : decode cL_parts 4 = .ok (.iload_n 2, 1) := by decide +kernel
theorem dL_parts_5 : decode cL_parts 5 = .ok (.invokevirtual 54, 3) := by decide +kernel
theorem dL_parts_8 : decode cL_parts 8 = .ok (.i2l, 1) := by decide +kernel
theorem dL_parts_9 : decode cL_parts 9 = .ok (.lastore, 1) := by decide +kernel
theorem dL_parts_10 : decode cL_parts 10 = .ok (.goto 15, 3) := by decide +kernel
theorem dL_parts_13 : decode cL_parts 13 = .ok (.astore 4, 2) := by decide +kernel
theorem dL_parts_15 : decode cL_parts 15 = .ok (.iconst 1, 1) := by decide +kernel
theorem dL_parts_16 : decode cL_parts 16 = .ok (.ireturn, 1) := by decide +kernel
theorem dL_parts_17 : decode cL_parts 17 = .ok (.astore 4, 2) := by decide +kernel
theorem dL_parts_19 : decode cL_parts 19 = .ok (.iconst 2, 1) := by decide +kernel
theorem dL_parts_20 : decode cL_parts 20 = .ok (.ireturn, 1) := by decide +kernel
theorem dL_parts_21 : decode cL_parts 21 = .ok (.astore 4, 2) := by decide +kernel
theorem dL_parts_23 : decode cL_parts 23 = .ok (.iconst 3, 1) := by decide +kernel
theorem dL_parts_24 : decode cL_parts 24 = .ok (.ireturn, 1) := by decide +kernel
theorem dL_parts_25 : decode cL_parts 25 = .ok (.iconst 0, 1) := by decide +kernel
theorem dL_parts_26 : decode cL_parts 26 = .ok (.ireturn, 1) := by decide +kernel
theorem dL_block_0 : decode cL_block 0 = .ok (.aload 5, 2) := by decide +kernel
theorem dL_block_2 : decode cL_block 2 = .ok (.iconst 0, 1) := by decide +kernel
theorem dL_block_3 : decode cL_block 3 = .ok (.aload_n 0, 1) := by decide +kernel
theorem dL_block_4 : decode cL_block 4 = .ok (.iload_n 1, 1) := by decide +kernel
theorem dL_block_5 : decode cL_block 5 = .ok (.iload_n 2, 1) := by decide +kernel
theorem dL_block_6 : decode cL_block 6 = .ok (.iload_n 3, 1) := by decide +kernel
theorem dL_block_7 : decode cL_block 7 = .ok (.iload 4, 2) := by decide +kernel
theorem dL_block_9 : decode cL_block 9 = .ok (.invokevirtual 57, 3) := by decide +kernel
theorem dL_block_12 : decode cL_block 12 = .ok (.i2l, 1) := by decide +kernel
theorem dL_block_13 : decode cL_block 13 = .ok (.lastore, 1) := by decide +kernel
theorem dL_block_14 : decode cL_block 14 = .ok (.goto 15, 3) := by decide +kernel
theorem dL_block_17 : decode cL_block 17 = .ok (.astore 6, 2) := by decide +kernel
theorem dL_block_19 : decode cL_block 19 = .ok (.iconst 1, 1) := by decide +kernel
theorem dL_block_20 : decode cL_block 20 = .ok (.ireturn, 1) := by decide +kernel
theorem dL_block_21 : decode cL_block 21 = .ok (.astore 6, 2) := by decide +kernel
theorem dL_block_23 : decode cL_block 23 = .ok (.iconst 2, 1) := by decide +kernel
theorem dL_block_24 : decode cL_block 24 = .ok (.ireturn, 1) := by decide +kernel
theorem dL_block_25 : decode cL_block 25 = .ok (.astore 6, 2) := by decide +kernel
theorem dL_block_27 : decode cL_block 27 = .ok (.iconst 3, 1) := by decide +kernel
theorem dL_block_28 : decode cL_block 28 = .ok (.ireturn, 1) := by decide +kernel
theorem dL_block_29 : decode cL_block 29 = .ok (.iconst 0, 1) := by decide +kernel
theorem dL_block_30 : decode cL_block 30 = .ok (.ireturn, 1) := by decide +kernel
theorem dL_teller_0 : decode cL_teller 0 = .ok (.aload_n 3, 1) := by decide +kernel
theorem dL_teller_1 : decode cL_teller 1 = .ok (.iconst 0, 1) := by decide +kernel
theorem dL_teller_2 : decode cL_teller 2 = .ok (.aload_n 0, 1) := by decide +kernel
theorem dL_teller_3 : decode cL_teller 3 = .ok (.iload_n 1, 1) := by decide +kernel
theorem dL_teller_4 : decode cL_teller 4 = .ok (.iload_n 2, 1) := by decide +kernel
theorem dL_teller_5 : decode cL_teller 5 = .ok (.invokevirtual 61, 3) := by decide +kernel
theorem dL_teller_8 : decode cL_teller 8 = .ok (.i2l, 1) := by decide +kernel
theorem dL_teller_9 : decode cL_teller 9 = .ok (.lastore, 1) := by decide +kernel
theorem dL_teller_10 : decode cL_teller 10 = .ok (.goto 11, 3) := by decide +kernel
theorem dL_teller_13 : decode cL_teller 13 = .ok (.astore 4, 2) := by decide +kernel
theorem dL_teller_15 : decode cL_teller 15 = .ok (.iconst 1, 1) := by decide +kernel
theorem dL_teller_16 : decode cL_teller 16 = .ok (.ireturn, 1) := by decide +kernel
theorem dL_teller_17 : decode cL_teller 17 = .ok (.astore 4, 2) := by decide +kernel
theorem dL_teller_19 : decode cL_teller 19 = .ok (.iconst 2, 1) := by decide +kernel
theorem dL_teller_20 : decode cL_teller 20 = .ok (.ireturn, 1) := by decide +kernel
theorem dL_teller_21 : decode cL_teller 21 = .ok (.iconst 0, 1) := by decide +kernel
theorem dL_teller_22 : decode cL_teller 22 = .ok (.ireturn, 1) := by decide +kernel
theorem dL_told_0 : decode cL_told 0 = .ok (.aload_n 3, 1) := by decide +kernel
theorem dL_told_1 : decode cL_told 1 = .ok (.iconst 0, 1) := by decide +kernel
theorem dL_told_2 : decode cL_told 2 = .ok (.aload_n 0, 1) := by decide +kernel
theorem dL_told_3 : decode cL_told 3 = .ok (.iload_n 1, 1) := by decide +kernel
theorem dL_told_4 : decode cL_told 4 = .ok (.iload_n 2, 1) := by decide +kernel
theorem dL_told_5 : decode cL_told 5 = .ok (.invokevirtual 64, 3) := by decide +kernel
theorem dL_told_8 : decode cL_told 8 = .ok (.i2l, 1) := by decide +kernel
theorem dL_told_9 : decode cL_told 9 = .ok (.lastore, 1) := by decide +kernel
theorem dL_told_10 : decode cL_told 10 = .ok (.goto 11, 3) := by decide +kernel
theorem dL_told_13 : decode cL_told 13 = .ok (.astore 4, 2) := by decide +kernel
theorem dL_told_15 : decode cL_told 15 = .ok (.iconst 1, 1) := by decide +kernel
theorem dL_told_16 : decode cL_told 16 = .ok (.ireturn, 1) := by decide +kernel
theorem dL_told_17 : decode cL_told 17 = .ok (.astore 4, 2) := by decide +kernel
theorem dL_told_19 : decode cL_told 19 = .ok (.iconst 2, 1) := by decide +kernel
theorem dL_told_20 : decode cL_told 20 = .ok (.ireturn, 1) := by decide +kernel
theorem dL_told_21 : decode cL_told 21 = .ok (.iconst 0, 1) := by decide +kernel
theorem dL_told_22 : decode cL_told 22 = .ok (.ireturn, 1) := by decide +kernel
theorem dL_lowest_0 : decode cL_lowest 0 = .ok (.aload_n 2, 1) := by decide +kernel
theorem dL_lowest_1 : decode cL_lowest 1 = .ok (.iconst 0, 1) := by decide +kernel
theorem dL_lowest_2 : decode cL_lowest 2 = .ok (.aload_n 0, 1) := by decide +kernel
theorem dL_lowest_3 : decode cL_lowest 3 = .ok (.iload_n 1, 1) := by decide +kernel
theorem dL_lowest_4 : decode cL_lowest 4 = .ok (.invokevirtual 67, 3) := by decide +kernel
theorem dL_lowest_7 : decode cL_lowest 7 = .ok (.i2l, 1) := by decide +kernel
theorem dL_lowest_8 : decode cL_lowest 8 = .ok (.lastore, 1) := by decide +kernel
theorem dL_lowest_9 : decode cL_lowest 9 = .ok (.goto 9, 3) := by decide +kernel
theorem dL_lowest_12 : decode cL_lowest 12 = .ok (.astore_n 3, 1) := by decide +kernel
theorem dL_lowest_13 : decode cL_lowest 13 = .ok (.iconst 1, 1) := by decide +kernel
theorem dL_lowest_14 : decode cL_lowest 14 = .ok (.ireturn, 1) := by decide +kernel
theorem dL_lowest_15 : decode cL_lowest 15 = .ok (.astore_n 3, 1) := by decide +kernel
theorem dL_lowest_16 : decode cL_lowest 16 = .ok (.iconst 2, 1) := by decide +kernel
theorem dL_lowest_17 : decode cL_lowest 17 = .ok (.ireturn, 1) := by decide +kernel
theorem dL_lowest_18 : decode cL_lowest 18 = .ok (.iconst 0, 1) := by decide +kernel
theorem dL_lowest_19 : decode cL_lowest 19 = .ok (.ireturn, 1) := by decide +kernel
theorem dL_biggest_0 : decode cL_biggest 0 = .ok (.aload_n 3, 1) := by decide +kernel
theorem dL_biggest_1 : decode cL_biggest 1 = .ok (.iconst 0, 1) := by decide +kernel
theorem dL_biggest_2 : decode cL_biggest 2 = .ok (.aload_n 0, 1) := by decide +kernel
theorem dL_biggest_3 : decode cL_biggest 3 = .ok (.iload_n 1, 1) := by decide +kernel
theorem dL_biggest_4 : decode cL_biggest 4 = .ok (.iload_n 2, 1) := by decide +kernel
theorem dL_biggest_5 : decode cL_biggest 5 = .ok (.invokevirtual 70, 3) := by decide +kernel
theorem dL_biggest_8 : decode cL_biggest 8 = .ok (.i2l, 1) := by decide +kernel
theorem dL_biggest_9 : decode cL_biggest 9 = .ok (.lastore, 1) := by decide +kernel
theorem dL_biggest_10 : decode cL_biggest 10 = .ok (.goto 15, 3) := by decide +kernel
theorem dL_biggest_13 : decode cL_biggest 13 = .ok (.astore 4, 2) := by decide +kernel
theorem dL_biggest_15 : decode cL_biggest 15 = .ok (.iconst 1, 1) := by decide +kernel
theorem dL_biggest_16 : decode cL_biggest 16 = .ok (.ireturn, 1) := by decide +kernel
theorem dL_biggest_17 : decode cL_biggest 17 = .ok (.astore 4, 2) := by decide +kernel
theorem dL_biggest_19 : decode cL_biggest 19 = .ok (.iconst 2, 1) := by decide +kernel
theorem dL_biggest_20 : decode cL_biggest 20 = .ok (.ireturn, 1) := by decide +kernel
theorem dL_biggest_21 : decode cL_biggest 21 = .ok (.astore 4, 2) := by decide +kernel
theorem dL_biggest_23 : decode cL_biggest 23 = .ok (.iconst 3, 1) := by decide +kernel
theorem dL_biggest_24 : decode cL_biggest 24 = .ok (.ireturn, 1) := by decide +kernel
theorem dL_biggest_25 : decode cL_biggest 25 = .ok (.iconst 0, 1) := by decide +kernel
theorem dL_biggest_26 : decode cL_biggest 26 = .ok (.ireturn, 1) := by decide +kernel
theorem dL_cheapest_0 : decode cL_cheapest 0 = .ok (.aload_n 1, 1) := by decide +kernel
theorem dL_cheapest_1 : decode cL_cheapest 1 = .ok (.iconst 0, 1) := by decide +kernel
theorem dL_cheapest_2 : decode cL_cheapest 2 = .ok (.aload_n 0, 1) := by decide +kernel
theorem dL_cheapest_3 : decode cL_cheapest 3 = .ok (.invokevirtual 73, 3) := by decide +kernel
theorem dL_cheapest_6 : decode cL_cheapest 6 = .ok (.i2l, 1) := by decide +kernel
theorem dL_cheapest_7 : decode cL_cheapest 7 = .ok (.lastore, 1) := by decide +kernel
theorem dL_cheapest_8 : decode cL_cheapest 8 = .ok (.goto 6, 3) := by decide +kernel
theorem dL_cheapest_11 : decode cL_cheapest 11 = .ok (.astore_n 2, 1) := by decide +kernel
theorem dL_cheapest_12 : decode cL_cheapest 12 = .ok (.iconst 1, 1) := by decide +kernel
theorem dL_cheapest_13 : decode cL_cheapest 13 = .ok (.ireturn, 1) := by decide +kernel
theorem dL_cheapest_14 : decode cL_cheapest 14 = .ok (.iconst 0, 1) := by decide +kernel
theorem dL_cheapest_15 : decode cL_cheapest 15 = .ok (.ireturn, 1) := by decide +kernel
theorem dL_meanBits_0 : decode cL_meanBits 0 = .ok (.aload_n 2, 1) := by decide +kernel
theorem dL_meanBits_1 : decode cL_meanBits 1 = .ok (.iconst 0, 1) := by decide +kernel
theorem dL_meanBits_2 : decode cL_meanBits 2 = .ok (.aload_n 0, 1) := by decide +kernel
theorem dL_meanBits_3 : decode cL_meanBits 3 = .ok (.iload_n 1, 1) := by decide +kernel
theorem dL_meanBits_4 : decode cL_meanBits 4 = .ok (.invokevirtual 77, 3) := by decide +kernel
theorem dL_meanBits_7 : decode cL_meanBits 7 = .ok (.dastore, 1) := by decide +kernel
theorem dL_meanBits_8 : decode cL_meanBits 8 = .ok (.goto 9, 3) := by decide +kernel
theorem dL_meanBits_11 : decode cL_meanBits 11 = .ok (.astore_n 3, 1) := by decide +kernel
theorem dL_meanBits_12 : decode cL_meanBits 12 = .ok (.iconst 1, 1) := by decide +kernel
theorem dL_meanBits_13 : decode cL_meanBits 13 = .ok (.ireturn, 1) := by decide +kernel
theorem dL_meanBits_14 : decode cL_meanBits 14 = .ok (.astore_n 3, 1) := by decide +kernel
theorem dL_meanBits_15 : decode cL_meanBits 15 = .ok (.iconst 2, 1) := by decide +kernel
theorem dL_meanBits_16 : decode cL_meanBits 16 = .ok (.ireturn, 1) := by decide +kernel
theorem dL_meanBits_17 : decode cL_meanBits 17 = .ok (.iconst 0, 1) := by decide +kernel
theorem dL_meanBits_18 : decode cL_meanBits 18 = .ok (.ireturn, 1) := by decide +kernel
theorem dL_share_0 : decode cL_share 0 = .ok (.aload_n 2, 1) := by decide +kernel
theorem dL_share_1 : decode cL_share 1 = .ok (.iconst 0, 1) := by decide +kernel
theorem dL_share_2 : decode cL_share 2 = .ok (.aload_n 0, 1) := by decide +kernel
theorem dL_share_3 : decode cL_share 3 = .ok (.iload_n 1, 1) := by decide +kernel
theorem dL_share_4 : decode cL_share 4 = .ok (.invokevirtual 81, 3) := by decide +kernel
theorem dL_share_7 : decode cL_share 7 = .ok (.f2d, 1) := by decide +kernel
theorem dL_share_8 : decode cL_share 8 = .ok (.dastore, 1) := by decide +kernel
theorem dL_share_9 : decode cL_share 9 = .ok (.goto 9, 3) := by decide +kernel
theorem dL_share_12 : decode cL_share 12 = .ok (.astore_n 3, 1) := by decide +kernel
theorem dL_share_13 : decode cL_share 13 = .ok (.iconst 1, 1) := by decide +kernel
theorem dL_share_14 : decode cL_share 14 = .ok (.ireturn, 1) := by decide +kernel
theorem dL_share_15 : decode cL_share 15 = .ok (.astore_n 3, 1) := by decide +kernel
theorem dL_share_16 : decode cL_share 16 = .ok (.iconst 2, 1) := by decide +kernel
theorem dL_share_17 : decode cL_share 17 = .ok (.ireturn, 1) := by decide +kernel
theorem dL_share_18 : decode cL_share 18 = .ok (.iconst 0, 1) := by decide +kernel
theorem dL_share_19 : decode cL_share 19 = .ok (.ireturn, 1) := by decide +kernel
theorem dL_common_0 : decode cL_common 0 = .ok (.aload_n 3, 1) := by decide +kernel
theorem dL_common_1 : decode cL_common 1 = .ok (.iconst 0, 1) := by decide +kernel
theorem dL_common_2 : decode cL_common 2 = .ok (.aload_n 0, 1) := by decide +kernel
theorem dL_common_3 : decode cL_common 3 = .ok (.iload_n 1, 1) := by decide +kernel
theorem dL_common_4 : decode cL_common 4 = .ok (.iload_n 2, 1) := by decide +kernel
theorem dL_common_5 : decode cL_common 5 = .ok (.invokevirtual 85, 3) := by decide +kernel
theorem dL_common_8 : decode cL_common 8 = .ok (.i2l, 1) := by decide +kernel
theorem dL_common_9 : decode cL_common 9 = .ok (.lastore, 1) := by decide +kernel
theorem dL_common_10 : decode cL_common 10 = .ok (.goto 11, 3) := by decide +kernel
theorem dL_common_13 : decode cL_common 13 = .ok (.astore 4, 2) := by decide +kernel
theorem dL_common_15 : decode cL_common 15 = .ok (.iconst 1, 1) := by decide +kernel
theorem dL_common_16 : decode cL_common 16 = .ok (.ireturn, 1) := by decide +kernel
theorem dL_common_17 : decode cL_common 17 = .ok (.astore 4, 2) := by decide +kernel
theorem dL_common_19 : decode cL_common 19 = .ok (.iconst 2, 1) := by decide +kernel
theorem dL_common_20 : decode cL_common 20 = .ok (.ireturn, 1) := by decide +kernel
theorem dL_common_21 : decode cL_common 21 = .ok (.iconst 0, 1) := by decide +kernel
theorem dL_common_22 : decode cL_common 22 = .ok (.ireturn, 1) := by decide +kernel
theorem dL_distance_0 : decode cL_distance 0 = .ok (.aload_n 3, 1) := by decide +kernel
theorem dL_distance_1 : decode cL_distance 1 = .ok (.iconst 0, 1) := by decide +kernel
theorem dL_distance_2 : decode cL_distance 2 = .ok (.aload_n 0, 1) := by decide +kernel
theorem dL_distance_3 : decode cL_distance 3 = .ok (.iload_n 1, 1) := by decide +kernel
theorem dL_distance_4 : decode cL_distance 4 = .ok (.iload_n 2, 1) := by decide +kernel
theorem dL_distance_5 : decode cL_distance 5 = .ok (.invokevirtual 88, 3) := by decide +kernel
theorem dL_distance_8 : decode cL_distance 8 = .ok (.i2l, 1) := by decide +kernel
theorem dL_distance_9 : decode cL_distance 9 = .ok (.lastore, 1) := by decide +kernel
theorem dL_distance_10 : decode cL_distance 10 = .ok (.goto 11, 3) := by decide +kernel
theorem dL_distance_13 : decode cL_distance 13 = .ok (.astore 4, 2) := by decide +kernel
theorem dL_distance_15 : decode cL_distance 15 = .ok (.iconst 1, 1) := by decide +kernel
theorem dL_distance_16 : decode cL_distance 16 = .ok (.ireturn, 1) := by decide +kernel
theorem dL_distance_17 : decode cL_distance 17 = .ok (.astore 4, 2) := by decide +kernel
theorem dL_distance_19 : decode cL_distance 19 = .ok (.iconst 2, 1) := by decide +kernel
theorem dL_distance_20 : decode cL_distance 20 = .ok (.ireturn, 1) := by decide +kernel
theorem dL_distance_21 : decode cL_distance 21 = .ok (.iconst 0, 1) := by decide +kernel
theorem dL_distance_22 : decode cL_distance 22 = .ok (.ireturn, 1) := by decide +kernel
theorem dL_differs_0 : decode cL_differs 0 = .ok (.aload_n 3, 1) := by decide +kernel
theorem dL_differs_1 : decode cL_differs 1 = .ok (.iconst 0, 1) := by decide +kernel
theorem dL_differs_2 : decode cL_differs 2 = .ok (.aload_n 0, 1) := by decide +kernel
theorem dL_differs_3 : decode cL_differs 3 = .ok (.iload_n 1, 1) := by decide +kernel
theorem dL_differs_4 : decode cL_differs 4 = .ok (.iload_n 2, 1) := by decide +kernel
theorem dL_differs_5 : decode cL_differs 5 = .ok (.invokevirtual 91, 3) := by decide +kernel
theorem dL_differs_8 : decode cL_differs 8 = .ok (.i2l, 1) := by decide +kernel
theorem dL_differs_9 : decode cL_differs 9 = .ok (.lastore, 1) := by decide +kernel
theorem dL_differs_10 : decode cL_differs 10 = .ok (.goto 11, 3) := by decide +kernel
theorem dL_differs_13 : decode cL_differs 13 = .ok (.astore 4, 2) := by decide +kernel
theorem dL_differs_15 : decode cL_differs 15 = .ok (.iconst 1, 1) := by decide +kernel
theorem dL_differs_16 : decode cL_differs 16 = .ok (.ireturn, 1) := by decide +kernel
theorem dL_differs_17 : decode cL_differs 17 = .ok (.astore 4, 2) := by decide +kernel
theorem dL_differs_19 : decode cL_differs 19 = .ok (.iconst 2, 1) := by decide +kernel
theorem dL_differs_20 : decode cL_differs 20 = .ok (.ireturn, 1) := by decide +kernel
theorem dL_differs_21 : decode cL_differs 21 = .ok (.iconst 0, 1) := by decide +kernel
theorem dL_differs_22 : decode cL_differs 22 = .ok (.ireturn, 1) := by decide +kernel
theorem dL_isWithin_0 : decode cL_isWithin 0 = .ok (.aload_n 3, 1) := by decide +kernel
theorem dL_isWithin_1 : decode cL_isWithin 1 = .ok (.iconst 0, 1) := by decide +kernel
theorem dL_isWithin_2 : decode cL_isWithin 2 = .ok (.aload_n 0, 1) := by decide +kernel
theorem dL_isWithin_3 : decode cL_isWithin 3 = .ok (.iload_n 1, 1) := by decide +kernel
theorem dL_isWithin_4 : decode cL_isWithin 4 = .ok (.iload_n 2, 1) := by decide +kernel
theorem dL_isWithin_5 : decode cL_isWithin 5 = .ok (.invokevirtual 94, 3) := by decide +kernel
theorem dL_isWithin_8 : decode cL_isWithin 8 = .ok (.ifCond .eq 7, 3) := by decide +kernel
theorem dL_isWithin_11 : decode cL_isWithin 11 = .ok (.lconst 1, 1) := by decide +kernel
theorem dL_isWithin_12 : decode cL_isWithin 12 = .ok (.goto 4, 3) := by decide +kernel
theorem dL_isWithin_15 : decode cL_isWithin 15 = .ok (.lconst 0, 1) := by decide +kernel
theorem dL_isWithin_16 : decode cL_isWithin 16 = .ok (.lastore, 1) := by decide +kernel
theorem dL_isWithin_17 : decode cL_isWithin 17 = .ok (.goto 11, 3) := by decide +kernel
theorem dL_isWithin_20 : decode cL_isWithin 20 = .ok (.astore 4, 2) := by decide +kernel
theorem dL_isWithin_22 : decode cL_isWithin 22 = .ok (.iconst 1, 1) := by decide +kernel
theorem dL_isWithin_23 : decode cL_isWithin 23 = .ok (.ireturn, 1) := by decide +kernel
theorem dL_isWithin_24 : decode cL_isWithin 24 = .ok (.astore 4, 2) := by decide +kernel
theorem dL_isWithin_26 : decode cL_isWithin 26 = .ok (.iconst 2, 1) := by decide +kernel
theorem dL_isWithin_27 : decode cL_isWithin 27 = .ok (.ireturn, 1) := by decide +kernel
theorem dL_isWithin_28 : decode cL_isWithin 28 = .ok (.iconst 0, 1) := by decide +kernel
theorem dL_isWithin_29 : decode cL_isWithin 29 = .ok (.ireturn, 1) := by decide +kernel
theorem dL_alike_0 : decode cL_alike 0 = .ok (.aload 4, 2) := by decide +kernel
theorem dL_alike_2 : decode cL_alike 2 = .ok (.iconst 0, 1) := by decide +kernel
theorem dL_alike_3 : decode cL_alike 3 = .ok (.aload_n 0, 1) := by decide +kernel
theorem dL_alike_4 : decode cL_alike 4 = .ok (.iload_n 1, 1) := by decide +kernel
theorem dL_alike_5 : decode cL_alike 5 = .ok (.iload_n 2, 1) := by decide +kernel
theorem dL_alike_6 : decode cL_alike 6 = .ok (.iload_n 3, 1) := by decide +kernel
theorem dL_alike_7 : decode cL_alike 7 = .ok (.invokevirtual 98, 3) := by decide +kernel
theorem dL_alike_10 : decode cL_alike 10 = .ok (.i2l, 1) := by decide +kernel
theorem dL_alike_11 : decode cL_alike 11 = .ok (.lastore, 1) := by decide +kernel
theorem dL_alike_12 : decode cL_alike 12 = .ok (.goto 11, 3) := by decide +kernel
theorem dL_alike_15 : decode cL_alike 15 = .ok (.astore 5, 2) := by decide +kernel
theorem dL_alike_17 : decode cL_alike 17 = .ok (.iconst 1, 1) := by decide +kernel
theorem dL_alike_18 : decode cL_alike 18 = .ok (.ireturn, 1) := by decide +kernel
theorem dL_alike_19 : decode cL_alike 19 = .ok (.astore 5, 2) := by decide +kernel
theorem dL_alike_21 : decode cL_alike 21 = .ok (.iconst 2, 1) := by decide +kernel
theorem dL_alike_22 : decode cL_alike 22 = .ok (.ireturn, 1) := by decide +kernel
theorem dL_alike_23 : decode cL_alike 23 = .ok (.iconst 0, 1) := by decide +kernel
theorem dL_alike_24 : decode cL_alike 24 = .ok (.ireturn, 1) := by decide +kernel
theorem dL_combined_0 : decode cL_combined 0 = .ok (.aload 4, 2) := by decide +kernel
theorem dL_combined_2 : decode cL_combined 2 = .ok (.iconst 0, 1) := by decide +kernel
theorem dL_combined_3 : decode cL_combined 3 = .ok (.aload_n 0, 1) := by decide +kernel
theorem dL_combined_4 : decode cL_combined 4 = .ok (.iload_n 1, 1) := by decide +kernel
theorem dL_combined_5 : decode cL_combined 5 = .ok (.iload_n 2, 1) := by decide +kernel
theorem dL_combined_6 : decode cL_combined 6 = .ok (.iload_n 3, 1) := by decide +kernel
theorem dL_combined_7 : decode cL_combined 7 = .ok (.invokevirtual 101, 3) := by decide +kernel
theorem dL_combined_10 : decode cL_combined 10 = .ok (.i2l, 1) := by decide +kernel
theorem dL_combined_11 : decode cL_combined 11 = .ok (.lastore, 1) := by decide +kernel
theorem dL_combined_12 : decode cL_combined 12 = .ok (.goto 15, 3) := by decide +kernel
theorem dL_combined_15 : decode cL_combined 15 = .ok (.astore 5, 2) := by decide +kernel
theorem dL_combined_17 : decode cL_combined 17 = .ok (.iconst 1, 1) := by decide +kernel
theorem dL_combined_18 : decode cL_combined 18 = .ok (.ireturn, 1) := by decide +kernel
theorem dL_combined_19 : decode cL_combined 19 = .ok (.astore 5, 2) := by decide +kernel
theorem dL_combined_21 : decode cL_combined 21 = .ok (.iconst 2, 1) := by decide +kernel
theorem dL_combined_22 : decode cL_combined 22 = .ok (.ireturn, 1) := by decide +kernel
theorem dL_combined_23 : decode cL_combined 23 = .ok (.astore 5, 2) := by decide +kernel
theorem dL_combined_25 : decode cL_combined 25 = .ok (.iconst 3, 1) := by decide +kernel
theorem dL_combined_26 : decode cL_combined 26 = .ok (.ireturn, 1) := by decide +kernel
theorem dL_combined_27 : decode cL_combined 27 = .ok (.iconst 0, 1) := by decide +kernel
theorem dL_combined_28 : decode cL_combined 28 = .ok (.ireturn, 1) := by decide +kernel
theorem dL_nearest_0 : decode cL_nearest 0 = .ok (.aload_n 2, 1) := by decide +kernel
theorem dL_nearest_1 : decode cL_nearest 1 = .ok (.iconst 0, 1) := by decide +kernel
theorem dL_nearest_2 : decode cL_nearest 2 = .ok (.aload_n 0, 1) := by decide +kernel
theorem dL_nearest_3 : decode cL_nearest 3 = .ok (.iload_n 1, 1) := by decide +kernel
theorem dL_nearest_4 : decode cL_nearest 4 = .ok (.invokevirtual 104, 3) := by decide +kernel
theorem dL_nearest_7 : decode cL_nearest 7 = .ok (.i2l, 1) := by decide +kernel
theorem dL_nearest_8 : decode cL_nearest 8 = .ok (.lastore, 1) := by decide +kernel
theorem dL_nearest_9 : decode cL_nearest 9 = .ok (.goto 9, 3) := by decide +kernel
theorem dL_nearest_12 : decode cL_nearest 12 = .ok (.astore_n 3, 1) := by decide +kernel
theorem dL_nearest_13 : decode cL_nearest 13 = .ok (.iconst 1, 1) := by decide +kernel
theorem dL_nearest_14 : decode cL_nearest 14 = .ok (.ireturn, 1) := by decide +kernel
theorem dL_nearest_15 : decode cL_nearest 15 = .ok (.astore_n 3, 1) := by decide +kernel
theorem dL_nearest_16 : decode cL_nearest 16 = .ok (.iconst 2, 1) := by decide +kernel
theorem dL_nearest_17 : decode cL_nearest 17 = .ok (.ireturn, 1) := by decide +kernel
theorem dL_nearest_18 : decode cL_nearest 18 = .ok (.iconst 0, 1) := by decide +kernel
theorem dL_nearest_19 : decode cL_nearest 19 = .ok (.ireturn, 1) := by decide +kernel
theorem dL_bytesIf_0 : decode cL_bytesIf 0 = .ok (.aload_n 3, 1) := by decide +kernel
theorem dL_bytesIf_1 : decode cL_bytesIf 1 = .ok (.iconst 0, 1) := by decide +kernel
theorem dL_bytesIf_2 : decode cL_bytesIf 2 = .ok (.aload_n 0, 1) := by decide +kernel
theorem dL_bytesIf_3 : decode cL_bytesIf 3 = .ok (.iload_n 1, 1) := by decide +kernel
theorem dL_bytesIf_4 : decode cL_bytesIf 4 = .ok (.iload_n 2, 1) := by decide +kernel
theorem dL_bytesIf_5 : decode cL_bytesIf 5 = .ok (.invokevirtual 107, 3) := by decide +kernel
theorem dL_bytesIf_8 : decode cL_bytesIf 8 = .ok (.i2l, 1) := by decide +kernel
theorem dL_bytesIf_9 : decode cL_bytesIf 9 = .ok (.lastore, 1) := by decide +kernel
theorem dL_bytesIf_10 : decode cL_bytesIf 10 = .ok (.goto 11, 3) := by decide +kernel
theorem dL_bytesIf_13 : decode cL_bytesIf 13 = .ok (.astore 4, 2) := by decide +kernel
theorem dL_bytesIf_15 : decode cL_bytesIf 15 = .ok (.iconst 1, 1) := by decide +kernel
theorem dL_bytesIf_16 : decode cL_bytesIf 16 = .ok (.ireturn, 1) := by decide +kernel
theorem dL_bytesIf_17 : decode cL_bytesIf 17 = .ok (.astore 4, 2) := by decide +kernel
theorem dL_bytesIf_19 : decode cL_bytesIf 19 = .ok (.iconst 2, 1) := by decide +kernel
theorem dL_bytesIf_20 : decode cL_bytesIf 20 = .ok (.ireturn, 1) := by decide +kernel
theorem dL_bytesIf_21 : decode cL_bytesIf 21 = .ok (.iconst 0, 1) := by decide +kernel
theorem dL_bytesIf_22 : decode cL_bytesIf 22 = .ok (.ireturn, 1) := by decide +kernel
theorem dL_bestFlip_0 : decode cL_bestFlip 0 = .ok (.aload 4, 2) := by decide +kernel
theorem dL_bestFlip_2 : decode cL_bestFlip 2 = .ok (.iconst 0, 1) := by decide +kernel
theorem dL_bestFlip_3 : decode cL_bestFlip 3 = .ok (.aload_n 0, 1) := by decide +kernel
theorem dL_bestFlip_4 : decode cL_bestFlip 4 = .ok (.iload_n 1, 1) := by decide +kernel
theorem dL_bestFlip_5 : decode cL_bestFlip 5 = .ok (.iload_n 2, 1) := by decide +kernel
theorem dL_bestFlip_6 : decode cL_bestFlip 6 = .ok (.iload_n 3, 1) := by decide +kernel
theorem dL_bestFlip_7 : decode cL_bestFlip 7 = .ok (.invokevirtual 110, 3) := by decide +kernel
theorem dL_bestFlip_10 : decode cL_bestFlip 10 = .ok (.i2l, 1) := by decide +kernel
theorem dL_bestFlip_11 : decode cL_bestFlip 11 = .ok (.lastore, 1) := by decide +kernel
theorem dL_bestFlip_12 : decode cL_bestFlip 12 = .ok (.goto 11, 3) := by decide +kernel
theorem dL_bestFlip_15 : decode cL_bestFlip 15 = .ok (.astore 5, 2) := by decide +kernel
theorem dL_bestFlip_17 : decode cL_bestFlip 17 = .ok (.iconst 1, 1) := by decide +kernel
theorem dL_bestFlip_18 : decode cL_bestFlip 18 = .ok (.ireturn, 1) := by decide +kernel
theorem dL_bestFlip_19 : decode cL_bestFlip 19 = .ok (.astore 5, 2) := by decide +kernel
theorem dL_bestFlip_21 : decode cL_bestFlip 21 = .ok (.iconst 2, 1) := by decide +kernel
theorem dL_bestFlip_22 : decode cL_bestFlip 22 = .ok (.ireturn, 1) := by decide +kernel
theorem dL_bestFlip_23 : decode cL_bestFlip 23 = .ok (.iconst 0, 1) := by decide +kernel
theorem dL_bestFlip_24 : decode cL_bestFlip 24 = .ok (.ireturn, 1) := by decide +kernel
theorem dL_bytesFilled_0 : decode cL_bytesFilled 0 = .ok (.aload 5, 2) := by decide +kernel
theorem dL_bytesFilled_2 : decode cL_bytesFilled 2 = .ok (.iconst 0, 1) := by decide +kernel
theorem dL_bytesFilled_3 : decode cL_bytesFilled 3 = .ok (.aload_n 0, 1) := by decide +kernel
theorem dL_bytesFilled_4 : decode cL_bytesFilled 4 = .ok (.iload_n 1, 1) := by decide +kernel
theorem dL_bytesFilled_5 : decode cL_bytesFilled 5 = .ok (.iload_n 2, 1) := by decide +kernel
theorem dL_bytesFilled_6 : decode cL_bytesFilled 6 = .ok (.iload_n 3, 1) := by decide +kernel
theorem dL_bytesFilled_7 : decode cL_bytesFilled 7 = .ok (.iload 4, 2) := by decide +kernel
theorem dL_bytesFilled_9 : decode cL_bytesFilled 9 = .ok (.invokevirtual 113, 3) := by decide +kernel
theorem dL_bytesFilled_12 : decode cL_bytesFilled 12 = .ok (.i2l, 1) := by decide +kernel
theorem dL_bytesFilled_13 : decode cL_bytesFilled 13 = .ok (.lastore, 1) := by decide +kernel
theorem dL_bytesFilled_14 : decode cL_bytesFilled 14 = .ok (.goto 15, 3) := by decide +kernel
theorem dL_bytesFilled_17 : decode cL_bytesFilled 17 = .ok (.astore 6, 2) := by decide +kernel
theorem dL_bytesFilled_19 : decode cL_bytesFilled 19 = .ok (.iconst 1, 1) := by decide +kernel
theorem dL_bytesFilled_20 : decode cL_bytesFilled 20 = .ok (.ireturn, 1) := by decide +kernel
theorem dL_bytesFilled_21 : decode cL_bytesFilled 21 = .ok (.astore 6, 2) := by decide +kernel
theorem dL_bytesFilled_23 : decode cL_bytesFilled 23 = .ok (.iconst 2, 1) := by decide +kernel
theorem dL_bytesFilled_24 : decode cL_bytesFilled 24 = .ok (.ireturn, 1) := by decide +kernel
theorem dL_bytesFilled_25 : decode cL_bytesFilled 25 = .ok (.astore 6, 2) := by decide +kernel
theorem dL_bytesFilled_27 : decode cL_bytesFilled 27 = .ok (.iconst 3, 1) := by decide +kernel
theorem dL_bytesFilled_28 : decode cL_bytesFilled 28 = .ok (.ireturn, 1) := by decide +kernel
theorem dL_bytesFilled_29 : decode cL_bytesFilled 29 = .ok (.iconst 0, 1) := by decide +kernel
theorem dL_bytesFilled_30 : decode cL_bytesFilled 30 = .ok (.ireturn, 1) := by decide +kernel
theorem dL_bytesShifted_0 : decode cL_bytesShifted 0 = .ok (.aload_n 3, 1) := by decide +kernel
theorem dL_bytesShifted_1 : decode cL_bytesShifted 1 = .ok (.iconst 0, 1) := by decide +kernel
theorem dL_bytesShifted_2 : decode cL_bytesShifted 2 = .ok (.aload_n 0, 1) := by decide +kernel
theorem dL_bytesShifted_3 : decode cL_bytesShifted 3 = .ok (.iload_n 1, 1) := by decide +kernel
theorem dL_bytesShifted_4 : decode cL_bytesShifted 4 = .ok (.iload_n 2, 1) := by decide +kernel
theorem dL_bytesShifted_5 : decode cL_bytesShifted 5 = .ok (.invokevirtual 116, 3) := by decide +kernel
theorem dL_bytesShifted_8 : decode cL_bytesShifted 8 = .ok (.i2l, 1) := by decide +kernel
theorem dL_bytesShifted_9 : decode cL_bytesShifted 9 = .ok (.lastore, 1) := by decide +kernel
theorem dL_bytesShifted_10 : decode cL_bytesShifted 10 = .ok (.goto 11, 3) := by decide +kernel
theorem dL_bytesShifted_13 : decode cL_bytesShifted 13 = .ok (.astore 4, 2) := by decide +kernel
theorem dL_bytesShifted_15 : decode cL_bytesShifted 15 = .ok (.iconst 1, 1) := by decide +kernel
theorem dL_bytesShifted_16 : decode cL_bytesShifted 16 = .ok (.ireturn, 1) := by decide +kernel
theorem dL_bytesShifted_17 : decode cL_bytesShifted 17 = .ok (.astore 4, 2) := by decide +kernel
theorem dL_bytesShifted_19 : decode cL_bytesShifted 19 = .ok (.iconst 2, 1) := by decide +kernel
theorem dL_bytesShifted_20 : decode cL_bytesShifted 20 = .ok (.ireturn, 1) := by decide +kernel
theorem dL_bytesShifted_21 : decode cL_bytesShifted 21 = .ok (.iconst 0, 1) := by decide +kernel
theorem dL_bytesShifted_22 : decode cL_bytesShifted 22 = .ok (.ireturn, 1) := by decide +kernel
theorem dL_mostLike_0 : decode cL_mostLike 0 = .ok (.aload 4, 2) := by decide +kernel
theorem dL_mostLike_2 : decode cL_mostLike 2 = .ok (.iconst 0, 1) := by decide +kernel
theorem dL_mostLike_3 : decode cL_mostLike 3 = .ok (.aload_n 0, 1) := by decide +kernel
theorem dL_mostLike_4 : decode cL_mostLike 4 = .ok (.iload_n 1, 1) := by decide +kernel
theorem dL_mostLike_5 : decode cL_mostLike 5 = .ok (.iload_n 2, 1) := by decide +kernel
theorem dL_mostLike_6 : decode cL_mostLike 6 = .ok (.iload_n 3, 1) := by decide +kernel
theorem dL_mostLike_7 : decode cL_mostLike 7 = .ok (.invokevirtual 119, 3) := by decide +kernel
theorem dL_mostLike_10 : decode cL_mostLike 10 = .ok (.i2l, 1) := by decide +kernel
theorem dL_mostLike_11 : decode cL_mostLike 11 = .ok (.lastore, 1) := by decide +kernel
theorem dL_mostLike_12 : decode cL_mostLike 12 = .ok (.goto 11, 3) := by decide +kernel
theorem dL_mostLike_15 : decode cL_mostLike 15 = .ok (.astore 5, 2) := by decide +kernel
theorem dL_mostLike_17 : decode cL_mostLike 17 = .ok (.iconst 1, 1) := by decide +kernel
theorem dL_mostLike_18 : decode cL_mostLike 18 = .ok (.ireturn, 1) := by decide +kernel
theorem dL_mostLike_19 : decode cL_mostLike 19 = .ok (.astore 5, 2) := by decide +kernel
theorem dL_mostLike_21 : decode cL_mostLike 21 = .ok (.iconst 2, 1) := by decide +kernel
theorem dL_mostLike_22 : decode cL_mostLike 22 = .ok (.ireturn, 1) := by decide +kernel
theorem dL_mostLike_23 : decode cL_mostLike 23 = .ok (.iconst 0, 1) := by decide +kernel
theorem dL_mostLike_24 : decode cL_mostLike 24 = .ok (.ireturn, 1) := by decide +kernel
theorem dL_writeBytes_0 : decode cL_writeBytes 0 = .ok (.aload_n 2, 1) := by decide +kernel
theorem dL_writeBytes_1 : decode cL_writeBytes 1 = .ok (.iconst 0, 1) := by decide +kernel
theorem dL_writeBytes_2 : decode cL_writeBytes 2 = .ok (.aload_n 0, 1) := by decide +kernel
theorem dL_writeBytes_3 : decode cL_writeBytes 3 = .ok (.iload_n 1, 1) := by decide +kernel
theorem dL_writeBytes_4 : decode cL_writeBytes 4 = .ok (.invokevirtual 122, 3) := by decide +kernel
theorem dL_writeBytes_7 : decode cL_writeBytes 7 = .ok (.i2l, 1) := by decide +kernel
theorem dL_writeBytes_8 : decode cL_writeBytes 8 = .ok (.lastore, 1) := by decide +kernel
theorem dL_writeBytes_9 : decode cL_writeBytes 9 = .ok (.goto 9, 3) := by decide +kernel
theorem dL_writeBytes_12 : decode cL_writeBytes 12 = .ok (.astore_n 3, 1) := by decide +kernel
theorem dL_writeBytes_13 : decode cL_writeBytes 13 = .ok (.iconst 1, 1) := by decide +kernel
theorem dL_writeBytes_14 : decode cL_writeBytes 14 = .ok (.ireturn, 1) := by decide +kernel
theorem dL_writeBytes_15 : decode cL_writeBytes 15 = .ok (.astore_n 3, 1) := by decide +kernel
theorem dL_writeBytes_16 : decode cL_writeBytes 16 = .ok (.iconst 2, 1) := by decide +kernel
theorem dL_writeBytes_17 : decode cL_writeBytes 17 = .ok (.ireturn, 1) := by decide +kernel
theorem dL_writeBytes_18 : decode cL_writeBytes 18 = .ok (.iconst 0, 1) := by decide +kernel
theorem dL_writeBytes_19 : decode cL_writeBytes 19 = .ok (.ireturn, 1) := by decide +kernel
theorem dL_writeBits_0 : decode cL_writeBits 0 = .ok (.aload 4, 2) := by decide +kernel
theorem dL_writeBits_2 : decode cL_writeBits 2 = .ok (.iconst 0, 1) := by decide +kernel
theorem dL_writeBits_3 : decode cL_writeBits 3 = .ok (.aload_n 0, 1) := by decide +kernel
theorem dL_writeBits_4 : decode cL_writeBits 4 = .ok (.iload_n 1, 1) := by decide +kernel
theorem dL_writeBits_5 : decode cL_writeBits 5 = .ok (.iload_n 2, 1) := by decide +kernel
theorem dL_writeBits_6 : decode cL_writeBits 6 = .ok (.iload_n 3, 1) := by decide +kernel
theorem dL_writeBits_7 : decode cL_writeBits 7 = .ok (.invokevirtual 125, 3) := by decide +kernel
theorem dL_writeBits_10 : decode cL_writeBits 10 = .ok (.i2l, 1) := by decide +kernel
theorem dL_writeBits_11 : decode cL_writeBits 11 = .ok (.lastore, 1) := by decide +kernel
theorem dL_writeBits_12 : decode cL_writeBits 12 = .ok (.goto 15, 3) := by decide +kernel
theorem dL_writeBits_15 : decode cL_writeBits 15 = .ok (.astore 5, 2) := by decide +kernel
theorem dL_writeBits_17 : decode cL_writeBits 17 = .ok (.iconst 1, 1) := by decide +kernel
theorem dL_writeBits_18 : decode cL_writeBits 18 = .ok (.ireturn, 1) := by decide +kernel
theorem dL_writeBits_19 : decode cL_writeBits 19 = .ok (.astore 5, 2) := by decide +kernel
theorem dL_writeBits_21 : decode cL_writeBits 21 = .ok (.iconst 2, 1) := by decide +kernel
theorem dL_writeBits_22 : decode cL_writeBits 22 = .ok (.ireturn, 1) := by decide +kernel
theorem dL_writeBits_23 : decode cL_writeBits 23 = .ok (.astore 5, 2) := by decide +kernel
theorem dL_writeBits_25 : decode cL_writeBits 25 = .ok (.iconst 3, 1) := by decide +kernel
theorem dL_writeBits_26 : decode cL_writeBits 26 = .ok (.ireturn, 1) := by decide +kernel
theorem dL_writeBits_27 : decode cL_writeBits 27 = .ok (.iconst 0, 1) := by decide +kernel
theorem dL_writeBits_28 : decode cL_writeBits 28 = .ok (.ireturn, 1) := by decide +kernel
theorem dL_writeTree_0 : decode cL_writeTree 0 = .ok (.aload_n 2, 1) := by decide +kernel
theorem dL_writeTree_1 : decode cL_writeTree 1 = .ok (.iconst 0, 1) := by decide +kernel
theorem dL_writeTree_2 : decode cL_writeTree 2 = .ok (.aload_n 0, 1) := by decide +kernel
theorem dL_writeTree_3 : decode cL_writeTree 3 = .ok (.iload_n 1, 1) := by decide +kernel
theorem dL_writeTree_4 : decode cL_writeTree 4 = .ok (.invokevirtual 128, 3) := by decide +kernel
theorem dL_writeTree_7 : decode cL_writeTree 7 = .ok (.i2l, 1) := by decide +kernel
theorem dL_writeTree_8 : decode cL_writeTree 8 = .ok (.lastore, 1) := by decide +kernel
theorem dL_writeTree_9 : decode cL_writeTree 9 = .ok (.goto 9, 3) := by decide +kernel
theorem dL_writeTree_12 : decode cL_writeTree 12 = .ok (.astore_n 3, 1) := by decide +kernel
theorem dL_writeTree_13 : decode cL_writeTree 13 = .ok (.iconst 1, 1) := by decide +kernel
theorem dL_writeTree_14 : decode cL_writeTree 14 = .ok (.ireturn, 1) := by decide +kernel
theorem dL_writeTree_15 : decode cL_writeTree 15 = .ok (.astore_n 3, 1) := by decide +kernel
theorem dL_writeTree_16 : decode cL_writeTree 16 = .ok (.iconst 2, 1) := by decide +kernel
theorem dL_writeTree_17 : decode cL_writeTree 17 = .ok (.ireturn, 1) := by decide +kernel
theorem dL_writeTree_18 : decode cL_writeTree 18 = .ok (.iconst 0, 1) := by decide +kernel
theorem dL_writeTree_19 : decode cL_writeTree 19 = .ok (.ireturn, 1) := by decide +kernel
theorem dL_textByte_0 : decode cL_textByte 0 = .ok (.aload_n 2, 1) := by decide +kernel
theorem dL_textByte_1 : decode cL_textByte 1 = .ok (.iconst 0, 1) := by decide +kernel
theorem dL_textByte_2 : decode cL_textByte 2 = .ok (.aload_n 0, 1) := by decide +kernel
theorem dL_textByte_3 : decode cL_textByte 3 = .ok (.iload_n 1, 1) := by decide +kernel
theorem dL_textByte_4 : decode cL_textByte 4 = .ok (.invokevirtual 131, 3) := by decide +kernel
theorem dL_textByte_7 : decode cL_textByte 7 = .ok (.i2l, 1) := by decide +kernel
theorem dL_textByte_8 : decode cL_textByte 8 = .ok (.lastore, 1) := by decide +kernel
theorem dL_textByte_9 : decode cL_textByte 9 = .ok (.goto 6, 3) := by decide +kernel
theorem dL_textByte_12 : decode cL_textByte 12 = .ok (.astore_n 3, 1) := by decide +kernel
theorem dL_textByte_13 : decode cL_textByte 13 = .ok (.iconst 1, 1) := by decide +kernel
theorem dL_textByte_14 : decode cL_textByte 14 = .ok (.ireturn, 1) := by decide +kernel
theorem dL_textByte_15 : decode cL_textByte 15 = .ok (.iconst 0, 1) := by decide +kernel
theorem dL_textByte_16 : decode cL_textByte 16 = .ok (.ireturn, 1) := by decide +kernel
theorem dL_fill_0 : decode cL_fill 0 = .ok (.aload 5, 2) := by decide +kernel
theorem dL_fill_2 : decode cL_fill 2 = .ok (.iconst 0, 1) := by decide +kernel
theorem dL_fill_3 : decode cL_fill 3 = .ok (.aload_n 0, 1) := by decide +kernel
theorem dL_fill_4 : decode cL_fill 4 = .ok (.iload_n 1, 1) := by decide +kernel
theorem dL_fill_5 : decode cL_fill 5 = .ok (.iload_n 2, 1) := by decide +kernel
theorem dL_fill_6 : decode cL_fill 6 = .ok (.iload_n 3, 1) := by decide +kernel
theorem dL_fill_7 : decode cL_fill 7 = .ok (.iload 4, 2) := by decide +kernel
theorem dL_fill_9 : decode cL_fill 9 = .ok (.invokevirtual 134, 3) := by decide +kernel
theorem dL_fill_12 : decode cL_fill 12 = .ok (.i2l, 1) := by decide +kernel
theorem dL_fill_13 : decode cL_fill 13 = .ok (.lastore, 1) := by decide +kernel
theorem dL_fill_14 : decode cL_fill 14 = .ok (.goto 15, 3) := by decide +kernel
theorem dL_fill_17 : decode cL_fill 17 = .ok (.astore 6, 2) := by decide +kernel
theorem dL_fill_19 : decode cL_fill 19 = .ok (.iconst 1, 1) := by decide +kernel
theorem dL_fill_20 : decode cL_fill 20 = .ok (.ireturn, 1) := by decide +kernel
theorem dL_fill_21 : decode cL_fill 21 = .ok (.astore 6, 2) := by decide +kernel
theorem dL_fill_23 : decode cL_fill 23 = .ok (.iconst 2, 1) := by decide +kernel
theorem dL_fill_24 : decode cL_fill 24 = .ok (.ireturn, 1) := by decide +kernel
theorem dL_fill_25 : decode cL_fill 25 = .ok (.astore 6, 2) := by decide +kernel
theorem dL_fill_27 : decode cL_fill 27 = .ok (.iconst 3, 1) := by decide +kernel
theorem dL_fill_28 : decode cL_fill 28 = .ok (.ireturn, 1) := by decide +kernel
theorem dL_fill_29 : decode cL_fill 29 = .ok (.iconst 0, 1) := by decide +kernel
theorem dL_fill_30 : decode cL_fill 30 = .ok (.ireturn, 1) := by decide +kernel
theorem dL_flip_0 : decode cL_flip 0 = .ok (.aload 4, 2) := by decide +kernel
theorem dL_flip_2 : decode cL_flip 2 = .ok (.iconst 0, 1) := by decide +kernel
theorem dL_flip_3 : decode cL_flip 3 = .ok (.aload_n 0, 1) := by decide +kernel
theorem dL_flip_4 : decode cL_flip 4 = .ok (.iload_n 1, 1) := by decide +kernel
theorem dL_flip_5 : decode cL_flip 5 = .ok (.iload_n 2, 1) := by decide +kernel
theorem dL_flip_6 : decode cL_flip 6 = .ok (.iload_n 3, 1) := by decide +kernel
theorem dL_flip_7 : decode cL_flip 7 = .ok (.invokevirtual 137, 3) := by decide +kernel
theorem dL_flip_10 : decode cL_flip 10 = .ok (.i2l, 1) := by decide +kernel
theorem dL_flip_11 : decode cL_flip 11 = .ok (.lastore, 1) := by decide +kernel
theorem dL_flip_12 : decode cL_flip 12 = .ok (.goto 11, 3) := by decide +kernel
theorem dL_flip_15 : decode cL_flip 15 = .ok (.astore 5, 2) := by decide +kernel
theorem dL_flip_17 : decode cL_flip 17 = .ok (.iconst 1, 1) := by decide +kernel
theorem dL_flip_18 : decode cL_flip 18 = .ok (.ireturn, 1) := by decide +kernel
theorem dL_flip_19 : decode cL_flip 19 = .ok (.astore 5, 2) := by decide +kernel
theorem dL_flip_21 : decode cL_flip 21 = .ok (.iconst 2, 1) := by decide +kernel
theorem dL_flip_22 : decode cL_flip 22 = .ok (.ireturn, 1) := by decide +kernel
theorem dL_flip_23 : decode cL_flip 23 = .ok (.iconst 0, 1) := by decide +kernel
theorem dL_flip_24 : decode cL_flip 24 = .ok (.ireturn, 1) := by decide +kernel
theorem dL_combine_0 : decode cL_combine 0 = .ok (.aload 5, 2) := by decide +kernel
theorem dL_combine_2 : decode cL_combine 2 = .ok (.iconst 0, 1) := by decide +kernel
theorem dL_combine_3 : decode cL_combine 3 = .ok (.aload_n 0, 1) := by decide +kernel
theorem dL_combine_4 : decode cL_combine 4 = .ok (.iload_n 1, 1) := by decide +kernel
theorem dL_combine_5 : decode cL_combine 5 = .ok (.iload_n 2, 1) := by decide +kernel
theorem dL_combine_6 : decode cL_combine 6 = .ok (.iload_n 3, 1) := by decide +kernel
theorem dL_combine_7 : decode cL_combine 7 = .ok (.iload 4, 2) := by decide +kernel
theorem dL_combine_9 : decode cL_combine 9 = .ok (.invokevirtual 140, 3) := by decide +kernel
theorem dL_combine_12 : decode cL_combine 12 = .ok (.i2l, 1) := by decide +kernel
theorem dL_combine_13 : decode cL_combine 13 = .ok (.lastore, 1) := by decide +kernel
theorem dL_combine_14 : decode cL_combine 14 = .ok (.goto 15, 3) := by decide +kernel
theorem dL_combine_17 : decode cL_combine 17 = .ok (.astore 6, 2) := by decide +kernel
theorem dL_combine_19 : decode cL_combine 19 = .ok (.iconst 1, 1) := by decide +kernel
theorem dL_combine_20 : decode cL_combine 20 = .ok (.ireturn, 1) := by decide +kernel
theorem dL_combine_21 : decode cL_combine 21 = .ok (.astore 6, 2) := by decide +kernel
theorem dL_combine_23 : decode cL_combine 23 = .ok (.iconst 2, 1) := by decide +kernel
theorem dL_combine_24 : decode cL_combine 24 = .ok (.ireturn, 1) := by decide +kernel
theorem dL_combine_25 : decode cL_combine 25 = .ok (.astore 6, 2) := by decide +kernel
theorem dL_combine_27 : decode cL_combine 27 = .ok (.iconst 3, 1) := by decide +kernel
theorem dL_combine_28 : decode cL_combine 28 = .ok (.ireturn, 1) := by decide +kernel
theorem dL_combine_29 : decode cL_combine 29 = .ok (.iconst 0, 1) := by decide +kernel
theorem dL_combine_30 : decode cL_combine 30 = .ok (.ireturn, 1) := by decide +kernel
theorem dL_copyBlock_0 : decode cL_copyBlock 0 = .ok (.aload 5, 2) := by decide +kernel
theorem dL_copyBlock_2 : decode cL_copyBlock 2 = .ok (.iconst 0, 1) := by decide +kernel
theorem dL_copyBlock_3 : decode cL_copyBlock 3 = .ok (.aload_n 0, 1) := by decide +kernel
theorem dL_copyBlock_4 : decode cL_copyBlock 4 = .ok (.iload_n 1, 1) := by decide +kernel
theorem dL_copyBlock_5 : decode cL_copyBlock 5 = .ok (.iload_n 2, 1) := by decide +kernel
theorem dL_copyBlock_6 : decode cL_copyBlock 6 = .ok (.iload_n 3, 1) := by decide +kernel
theorem dL_copyBlock_7 : decode cL_copyBlock 7 = .ok (.iload 4, 2) := by decide +kernel
theorem dL_copyBlock_9 : decode cL_copyBlock 9 = .ok (.invokevirtual 143, 3) := by decide +kernel
theorem dL_copyBlock_12 : decode cL_copyBlock 12 = .ok (.i2l, 1) := by decide +kernel
theorem dL_copyBlock_13 : decode cL_copyBlock 13 = .ok (.lastore, 1) := by decide +kernel
theorem dL_copyBlock_14 : decode cL_copyBlock 14 = .ok (.goto 11, 3) := by decide +kernel
theorem dL_copyBlock_17 : decode cL_copyBlock 17 = .ok (.astore 6, 2) := by decide +kernel
theorem dL_copyBlock_19 : decode cL_copyBlock 19 = .ok (.iconst 1, 1) := by decide +kernel
theorem dL_copyBlock_20 : decode cL_copyBlock 20 = .ok (.ireturn, 1) := by decide +kernel
theorem dL_copyBlock_21 : decode cL_copyBlock 21 = .ok (.astore 6, 2) := by decide +kernel
theorem dL_copyBlock_23 : decode cL_copyBlock 23 = .ok (.iconst 2, 1) := by decide +kernel
theorem dL_copyBlock_24 : decode cL_copyBlock 24 = .ok (.ireturn, 1) := by decide +kernel
theorem dL_copyBlock_25 : decode cL_copyBlock 25 = .ok (.iconst 0, 1) := by decide +kernel
theorem dL_copyBlock_26 : decode cL_copyBlock 26 = .ok (.ireturn, 1) := by decide +kernel
theorem dL_shift_0 : decode cL_shift 0 = .ok (.aload_n 3, 1) := by decide +kernel
theorem dL_shift_1 : decode cL_shift 1 = .ok (.iconst 0, 1) := by decide +kernel
theorem dL_shift_2 : decode cL_shift 2 = .ok (.aload_n 0, 1) := by decide +kernel
theorem dL_shift_3 : decode cL_shift 3 = .ok (.iload_n 1, 1) := by decide +kernel
theorem dL_shift_4 : decode cL_shift 4 = .ok (.iload_n 2, 1) := by decide +kernel
theorem dL_shift_5 : decode cL_shift 5 = .ok (.invokevirtual 146, 3) := by decide +kernel
theorem dL_shift_8 : decode cL_shift 8 = .ok (.i2l, 1) := by decide +kernel
theorem dL_shift_9 : decode cL_shift 9 = .ok (.lastore, 1) := by decide +kernel
theorem dL_shift_10 : decode cL_shift 10 = .ok (.goto 11, 3) := by decide +kernel
theorem dL_shift_13 : decode cL_shift 13 = .ok (.astore 4, 2) := by decide +kernel
theorem dL_shift_15 : decode cL_shift 15 = .ok (.iconst 1, 1) := by decide +kernel
theorem dL_shift_16 : decode cL_shift 16 = .ok (.ireturn, 1) := by decide +kernel
theorem dL_shift_17 : decode cL_shift 17 = .ok (.astore 4, 2) := by decide +kernel
theorem dL_shift_19 : decode cL_shift 19 = .ok (.iconst 2, 1) := by decide +kernel
theorem dL_shift_20 : decode cL_shift 20 = .ok (.ireturn, 1) := by decide +kernel
theorem dL_shift_21 : decode cL_shift 21 = .ok (.iconst 0, 1) := by decide +kernel
theorem dL_shift_22 : decode cL_shift 22 = .ok (.ireturn, 1) := by decide +kernel
theorem dL_mirror_0 : decode cL_mirror 0 = .ok (.aload_n 2, 1) := by decide +kernel
theorem dL_mirror_1 : decode cL_mirror 1 = .ok (.iconst 0, 1) := by decide +kernel
theorem dL_mirror_2 : decode cL_mirror 2 = .ok (.aload_n 0, 1) := by decide +kernel
theorem dL_mirror_3 : decode cL_mirror 3 = .ok (.iload_n 1, 1) := by decide +kernel
theorem dL_mirror_4 : decode cL_mirror 4 = .ok (.invokevirtual 149, 3) := by decide +kernel
theorem dL_mirror_7 : decode cL_mirror 7 = .ok (.i2l, 1) := by decide +kernel
theorem dL_mirror_8 : decode cL_mirror 8 = .ok (.lastore, 1) := by decide +kernel
theorem dL_mirror_9 : decode cL_mirror 9 = .ok (.goto 9, 3) := by decide +kernel
theorem dL_mirror_12 : decode cL_mirror 12 = .ok (.astore_n 3, 1) := by decide +kernel
theorem dL_mirror_13 : decode cL_mirror 13 = .ok (.iconst 1, 1) := by decide +kernel
theorem dL_mirror_14 : decode cL_mirror 14 = .ok (.ireturn, 1) := by decide +kernel
theorem dL_mirror_15 : decode cL_mirror 15 = .ok (.astore_n 3, 1) := by decide +kernel
theorem dL_mirror_16 : decode cL_mirror 16 = .ok (.iconst 2, 1) := by decide +kernel
theorem dL_mirror_17 : decode cL_mirror 17 = .ok (.ireturn, 1) := by decide +kernel
theorem dL_mirror_18 : decode cL_mirror 18 = .ok (.iconst 0, 1) := by decide +kernel
theorem dL_mirror_19 : decode cL_mirror 19 = .ok (.ireturn, 1) := by decide +kernel
theorem dL_read_0 : decode cL_read 0 = .ok (.aload_n 3, 1) := by decide +kernel
theorem dL_read_1 : decode cL_read 1 = .ok (.iconst 0, 1) := by decide +kernel
theorem dL_read_2 : decode cL_read 2 = .ok (.aload_n 0, 1) := by decide +kernel
theorem dL_read_3 : decode cL_read 3 = .ok (.iload_n 1, 1) := by decide +kernel
theorem dL_read_4 : decode cL_read 4 = .ok (.iload_n 2, 1) := by decide +kernel
theorem dL_read_5 : decode cL_read 5 = .ok (.invokevirtual 152, 3) := by decide +kernel
theorem dL_read_8 : decode cL_read 8 = .ok (.i2l, 1) := by decide +kernel
theorem dL_read_9 : decode cL_read 9 = .ok (.lastore, 1) := by decide +kernel
theorem dL_read_10 : decode cL_read 10 = .ok (.goto 15, 3) := by decide +kernel
theorem dL_read_13 : decode cL_read 13 = .ok (.astore 4, 2) := by decide +kernel
theorem dL_read_15 : decode cL_read 15 = .ok (.iconst 1, 1) := by decide +kernel
theorem dL_read_16 : decode cL_read 16 = .ok (.ireturn, 1) := by decide +kernel
theorem dL_read_17 : decode cL_read 17 = .ok (.astore 4, 2) := by decide +kernel
theorem dL_read_19 : decode cL_read 19 = .ok (.iconst 2, 1) := by decide +kernel
theorem dL_read_20 : decode cL_read 20 = .ok (.ireturn, 1) := by decide +kernel
theorem dL_read_21 : decode cL_read 21 = .ok (.astore 4, 2) := by decide +kernel
theorem dL_read_23 : decode cL_read 23 = .ok (.iconst 3, 1) := by decide +kernel
theorem dL_read_24 : decode cL_read 24 = .ok (.ireturn, 1) := by decide +kernel
theorem dL_read_25 : decode cL_read 25 = .ok (.iconst 0, 1) := by decide +kernel
theorem dL_read_26 : decode cL_read 26 = .ok (.ireturn, 1) := by decide +kernel
theorem dL_undo_0 : decode cL_undo 0 = .ok (.aload_n 1, 1) := by decide +kernel
theorem dL_undo_1 : decode cL_undo 1 = .ok (.iconst 0, 1) := by decide +kernel
theorem dL_undo_2 : decode cL_undo 2 = .ok (.aload_n 0, 1) := by decide +kernel
theorem dL_undo_3 : decode cL_undo 3 = .ok (.invokevirtual 155, 3) := by decide +kernel
theorem dL_undo_6 : decode cL_undo 6 = .ok (.i2l, 1) := by decide +kernel
theorem dL_undo_7 : decode cL_undo 7 = .ok (.lastore, 1) := by decide +kernel
theorem dL_undo_8 : decode cL_undo 8 = .ok (.goto 6, 3) := by decide +kernel
theorem dL_undo_11 : decode cL_undo 11 = .ok (.astore_n 2, 1) := by decide +kernel
theorem dL_undo_12 : decode cL_undo 12 = .ok (.iconst 1, 1) := by decide +kernel
theorem dL_undo_13 : decode cL_undo 13 = .ok (.ireturn, 1) := by decide +kernel
theorem dL_undo_14 : decode cL_undo 14 = .ok (.iconst 0, 1) := by decide +kernel
theorem dL_undo_15 : decode cL_undo 15 = .ok (.ireturn, 1) := by decide +kernel
theorem dL_save_0 : decode cL_save 0 = .ok (.aload_n 2, 1) := by decide +kernel
theorem dL_save_1 : decode cL_save 1 = .ok (.iconst 0, 1) := by decide +kernel
theorem dL_save_2 : decode cL_save 2 = .ok (.aload_n 0, 1) := by decide +kernel
theorem dL_save_3 : decode cL_save 3 = .ok (.iload_n 1, 1) := by decide +kernel
theorem dL_save_4 : decode cL_save 4 = .ok (.invokevirtual 158, 3) := by decide +kernel
theorem dL_save_7 : decode cL_save 7 = .ok (.i2l, 1) := by decide +kernel
theorem dL_save_8 : decode cL_save 8 = .ok (.lastore, 1) := by decide +kernel
theorem dL_save_9 : decode cL_save 9 = .ok (.goto 9, 3) := by decide +kernel
theorem dL_save_12 : decode cL_save 12 = .ok (.astore_n 3, 1) := by decide +kernel
theorem dL_save_13 : decode cL_save 13 = .ok (.iconst 1, 1) := by decide +kernel
theorem dL_save_14 : decode cL_save 14 = .ok (.ireturn, 1) := by decide +kernel
theorem dL_save_15 : decode cL_save 15 = .ok (.astore_n 3, 1) := by decide +kernel
theorem dL_save_16 : decode cL_save 16 = .ok (.iconst 2, 1) := by decide +kernel
theorem dL_save_17 : decode cL_save 17 = .ok (.ireturn, 1) := by decide +kernel
theorem dL_save_18 : decode cL_save 18 = .ok (.iconst 0, 1) := by decide +kernel
theorem dL_save_19 : decode cL_save 19 = .ok (.ireturn, 1) := by decide +kernel
theorem dL_restore_0 : decode cL_restore 0 = .ok (.aload_n 2, 1) := by decide +kernel
theorem dL_restore_1 : decode cL_restore 1 = .ok (.iconst 0, 1) := by decide +kernel
theorem dL_restore_2 : decode cL_restore 2 = .ok (.aload_n 0, 1) := by decide +kernel
theorem dL_restore_3 : decode cL_restore 3 = .ok (.iload_n 1, 1) := by decide +kernel
theorem dL_restore_4 : decode cL_restore 4 = .ok (.invokevirtual 161, 3) := by decide +kernel
theorem dL_restore_7 : decode cL_restore 7 = .ok (.i2l, 1) := by decide +kernel
theorem dL_restore_8 : decode cL_restore 8 = .ok (.lastore, 1) := by decide +kernel
theorem dL_restore_9 : decode cL_restore 9 = .ok (.goto 9, 3) := by decide +kernel
theorem dL_restore_12 : decode cL_restore 12 = .ok (.astore_n 3, 1) := by decide +kernel
theorem dL_restore_13 : decode cL_restore 13 = .ok (.iconst 1, 1) := by decide +kernel
theorem dL_restore_14 : decode cL_restore 14 = .ok (.ireturn, 1) := by decide +kernel
theorem dL_restore_15 : decode cL_restore 15 = .ok (.astore_n 3, 1) := by decide +kernel
theorem dL_restore_16 : decode cL_restore 16 = .ok (.iconst 2, 1) := by decide +kernel
theorem dL_restore_17 : decode cL_restore 17 = .ok (.ireturn, 1) := by decide +kernel
theorem dL_restore_18 : decode cL_restore 18 = .ok (.iconst 0, 1) := by decide +kernel
theorem dL_restore_19 : decode cL_restore 19 = .ok (.ireturn, 1) := by decide +kernel
abbrev mL_load : lY := (yL_load, cL_load, 4, [(0, 9, 12, 13), (0, 9, 15, 15)])
theorem mdL_load : l_Md mL_load 3 := ⟨qT_of 397 (by decide +kernel) (by decide +kernel), qT_of 109 (by decide +kernel) (by decide +kernel), qT_of 396 (by decide +kernel) (by decide +kernel), by decide +kernel, by decide +kernel, by decide +kernel, rfl⟩
abbrev mL_find : lY := (yL_find, cL_find, 4, [(0, 9, 12, 20), (0, 9, 15, 13)])
theorem mdL_find : l_Md mL_find 3 := ⟨qT_of 761 (by decide +kernel) (by decide +kernel), qT_of 109 (by decide +kernel) (by decide +kernel), qT_of 760 (by decide +kernel) (by decide +kernel), by decide +kernel, by decide +kernel, by decide +kernel, rfl⟩
abbrev mL_checks : lY := (yL_checks, cL_checks, 4, [(0, 9, 12, 20), (0, 9, 15, 13)])
theorem mdL_checks : l_Md mL_checks 3 := ⟨qT_of 794 (by decide +kernel) (by decide +kernel), qT_of 109 (by decide +kernel) (by decide +kernel), qT_of 793 (by decide +kernel) (by decide +kernel), by decide +kernel, by decide +kernel, by decide +kernel, rfl⟩
abbrev mL_count : lY := (yL_count, cL_count, 4, [(0, 9, 12, 20), (0, 9, 15, 15)])
theorem mdL_count : l_Md mL_count 3 := ⟨qT_of 809 (by decide +kernel) (by decide +kernel), qT_of 109 (by decide +kernel) (by decide +kernel), qT_of 808 (by decide +kernel) (by decide +kernel), by decide +kernel, by decide +kernel, by decide +kernel, rfl⟩
abbrev mL_bit : lY := (yL_bit, cL_bit, 5, [(0, 10, 13, 20), (0, 10, 17, 13)])
theorem mdL_bit : l_Md mL_bit 4 := ⟨qT_of 875 (by decide +kernel) (by decide +kernel), qT_of 109 (by decide +kernel) (by decide +kernel), qT_of 874 (by decide +kernel) (by decide +kernel), by decide +kernel, by decide +kernel, by decide +kernel, rfl⟩
abbrev mL_ones : lY := (yL_ones, cL_ones, 6, [(0, 12, 15, 20), (0, 12, 19, 13)])
theorem mdL_ones : l_Md mL_ones 5 := ⟨qT_of 896 (by decide +kernel) (by decide +kernel), qT_of 109 (by decide +kernel) (by decide +kernel), qT_of 895 (by decide +kernel) (by decide +kernel), by decide +kernel, by decide +kernel, by decide +kernel, rfl⟩
abbrev mL_next : lY := (yL_next, cL_next, 6, [(0, 12, 15, 20), (0, 12, 19, 13), (0, 12, 23, 15)])
theorem mdL_next : l_Md mL_next 5 := ⟨qT_of 912 (by decide +kernel) (by decide +kernel), qT_of 109 (by decide +kernel) (by decide +kernel), qT_of 911 (by decide +kernel) (by decide +kernel), by decide +kernel, by decide +kernel, by decide +kernel, rfl⟩
abbrev mL_select : lY := (yL_select, cL_select, 5, [(0, 10, 13, 20), (0, 10, 17, 13)])
theorem mdL_select : l_Md mL_select 4 := ⟨qT_of 924 (by decide +kernel) (by decide +kernel), qT_of 109 (by decide +kernel) (by decide +kernel), qT_of 923 (by decide +kernel) (by decide +kernel), by decide +kernel, by decide +kernel, by decide +kernel, rfl⟩
abbrev mL_runs : lY := (yL_runs, cL_runs, 5, [(0, 10, 13, 20), (0, 10, 17, 13), (0, 10, 21, 15)])
theorem mdL_runs : l_Md mL_runs 4 := ⟨qT_of 932 (by decide +kernel) (by decide +kernel), qT_of 109 (by decide +kernel) (by decide +kernel), qT_of 931 (by decide +kernel) (by decide +kernel), by decide +kernel, by decide +kernel, by decide +kernel, rfl⟩
abbrev mL_longestRun : lY := (yL_longestRun, cL_longestRun, 5, [(0, 10, 13, 20), (0, 10, 17, 13), (0, 10, 21, 15)])
theorem mdL_longestRun : l_Md mL_longestRun 4 := ⟨qT_of 939 (by decide +kernel) (by decide +kernel), qT_of 109 (by decide +kernel) (by decide +kernel), qT_of 938 (by decide +kernel) (by decide +kernel), by decide +kernel, by decide +kernel, by decide +kernel, rfl⟩
abbrev mL_bytes : lY := (yL_bytes, cL_bytes, 4, [(0, 9, 12, 20), (0, 9, 15, 13)])
theorem mdL_bytes : l_Md mL_bytes 3 := ⟨qT_of 947 (by decide +kernel) (by decide +kernel), qT_of 109 (by decide +kernel) (by decide +kernel), qT_of 946 (by decide +kernel) (by decide +kernel), by decide +kernel, by decide +kernel, by decide +kernel, rfl⟩
abbrev mL_byteAt : lY := (yL_byteAt, cL_byteAt, 5, [(0, 10, 13, 20), (0, 10, 17, 13)])
theorem mdL_byteAt : l_Md mL_byteAt 4 := ⟨qT_of 954 (by decide +kernel) (by decide +kernel), qT_of 109 (by decide +kernel) (by decide +kernel), qT_of 953 (by decide +kernel) (by decide +kernel), by decide +kernel, by decide +kernel, by decide +kernel, rfl⟩
abbrev mL_parts : lY := (yL_parts, cL_parts, 5, [(0, 10, 13, 20), (0, 10, 17, 13), (0, 10, 21, 15)])
theorem mdL_parts : l_Md mL_parts 4 := ⟨qT_of 970 (by decide +kernel) (by decide +kernel), qT_of 109 (by decide +kernel) (by decide +kernel), qT_of 969 (by decide +kernel) (by decide +kernel), by decide +kernel, by decide +kernel, by decide +kernel, rfl⟩
abbrev mL_block : lY := (yL_block, cL_block, 7, [(0, 14, 17, 20), (0, 14, 21, 13), (0, 14, 25, 15)])
theorem mdL_block : l_Md mL_block 6 := ⟨qT_of 990 (by decide +kernel) (by decide +kernel), qT_of 109 (by decide +kernel) (by decide +kernel), qT_of 989 (by decide +kernel) (by decide +kernel), by decide +kernel, by decide +kernel, by decide +kernel, rfl⟩
abbrev mL_teller : lY := (yL_teller, cL_teller, 5, [(0, 10, 13, 20), (0, 10, 17, 13)])
theorem mdL_teller : l_Md mL_teller 4 := ⟨qT_of 1019 (by decide +kernel) (by decide +kernel), qT_of 109 (by decide +kernel) (by decide +kernel), qT_of 1018 (by decide +kernel) (by decide +kernel), by decide +kernel, by decide +kernel, by decide +kernel, rfl⟩
abbrev mL_told : lY := (yL_told, cL_told, 5, [(0, 10, 13, 20), (0, 10, 17, 13)])
theorem mdL_told : l_Md mL_told 4 := ⟨qT_of 1034 (by decide +kernel) (by decide +kernel), qT_of 109 (by decide +kernel) (by decide +kernel), qT_of 1033 (by decide +kernel) (by decide +kernel), by decide +kernel, by decide +kernel, by decide +kernel, rfl⟩
abbrev mL_lowest : lY := (yL_lowest, cL_lowest, 4, [(0, 9, 12, 20), (0, 9, 15, 13)])
theorem mdL_lowest : l_Md mL_lowest 3 := ⟨qT_of 1041 (by decide +kernel) (by decide +kernel), qT_of 109 (by decide +kernel) (by decide +kernel), qT_of 1040 (by decide +kernel) (by decide +kernel), by decide +kernel, by decide +kernel, by decide +kernel, rfl⟩
abbrev mL_biggest : lY := (yL_biggest, cL_biggest, 5, [(0, 10, 13, 20), (0, 10, 17, 13), (0, 10, 21, 15)])
theorem mdL_biggest : l_Md mL_biggest 4 := ⟨qT_of 1052 (by decide +kernel) (by decide +kernel), qT_of 109 (by decide +kernel) (by decide +kernel), qT_of 1051 (by decide +kernel) (by decide +kernel), by decide +kernel, by decide +kernel, by decide +kernel, rfl⟩
abbrev mL_cheapest : lY := (yL_cheapest, cL_cheapest, 3, [(0, 8, 11, 20)])
theorem mdL_cheapest : l_Md mL_cheapest 2 := ⟨qT_of 1064 (by decide +kernel) (by decide +kernel), qT_of 109 (by decide +kernel) (by decide +kernel), qT_of 1063 (by decide +kernel) (by decide +kernel), by decide +kernel, by decide +kernel, by decide +kernel, rfl⟩
abbrev mL_meanBits : lY := (yL_meanBits, cL_meanBits, 4, [(0, 8, 11, 20), (0, 8, 14, 13)])
theorem mdL_meanBits : l_Md mL_meanBits 3 := ⟨qT_of 1071 (by decide +kernel) (by decide +kernel), qT_of 109 (by decide +kernel) (by decide +kernel), qT_of 1070 (by decide +kernel) (by decide +kernel), by decide +kernel, by decide +kernel, by decide +kernel, rfl⟩
abbrev mL_share : lY := (yL_share, cL_share, 4, [(0, 9, 12, 20), (0, 9, 15, 13)])
theorem mdL_share : l_Md mL_share 3 := ⟨qT_of 1082 (by decide +kernel) (by decide +kernel), qT_of 109 (by decide +kernel) (by decide +kernel), qT_of 1081 (by decide +kernel) (by decide +kernel), by decide +kernel, by decide +kernel, by decide +kernel, rfl⟩
abbrev mL_common : lY := (yL_common, cL_common, 5, [(0, 10, 13, 20), (0, 10, 17, 13)])
theorem mdL_common : l_Md mL_common 4 := ⟨qT_of 1089 (by decide +kernel) (by decide +kernel), qT_of 109 (by decide +kernel) (by decide +kernel), qT_of 1088 (by decide +kernel) (by decide +kernel), by decide +kernel, by decide +kernel, by decide +kernel, rfl⟩
abbrev mL_distance : lY := (yL_distance, cL_distance, 5, [(0, 10, 13, 20), (0, 10, 17, 13)])
theorem mdL_distance : l_Md mL_distance 4 := ⟨qT_of 1097 (by decide +kernel) (by decide +kernel), qT_of 109 (by decide +kernel) (by decide +kernel), qT_of 1096 (by decide +kernel) (by decide +kernel), by decide +kernel, by decide +kernel, by decide +kernel, rfl⟩
abbrev mL_differs : lY := (yL_differs, cL_differs, 5, [(0, 10, 13, 20), (0, 10, 17, 13)])
theorem mdL_differs : l_Md mL_differs 4 := ⟨qT_of 1105 (by decide +kernel) (by decide +kernel), qT_of 109 (by decide +kernel) (by decide +kernel), qT_of 1104 (by decide +kernel) (by decide +kernel), by decide +kernel, by decide +kernel, by decide +kernel, rfl⟩
abbrev mL_isWithin : lY := (yL_isWithin, cL_isWithin, 5, [(0, 17, 20, 20), (0, 17, 24, 13)])
theorem mdL_isWithin : l_Md mL_isWithin 4 := ⟨qT_of 1112 (by decide +kernel) (by decide +kernel), qT_of 109 (by decide +kernel) (by decide +kernel), qT_of 1111 (by decide +kernel) (by decide +kernel), by decide +kernel, by decide +kernel, by decide +kernel, rfl⟩
abbrev mL_alike : lY := (yL_alike, cL_alike, 6, [(0, 12, 15, 20), (0, 12, 19, 13)])
theorem mdL_alike : l_Md mL_alike 5 := ⟨qT_of 1119 (by decide +kernel) (by decide +kernel), qT_of 109 (by decide +kernel) (by decide +kernel), qT_of 1118 (by decide +kernel) (by decide +kernel), by decide +kernel, by decide +kernel, by decide +kernel, rfl⟩
abbrev mL_combined : lY := (yL_combined, cL_combined, 6, [(0, 12, 15, 20), (0, 12, 19, 13), (0, 12, 23, 15)])
theorem mdL_combined : l_Md mL_combined 5 := ⟨qT_of 1126 (by decide +kernel) (by decide +kernel), qT_of 109 (by decide +kernel) (by decide +kernel), qT_of 1125 (by decide +kernel) (by decide +kernel), by decide +kernel, by decide +kernel, by decide +kernel, rfl⟩
abbrev mL_nearest : lY := (yL_nearest, cL_nearest, 4, [(0, 9, 12, 20), (0, 9, 15, 13)])
theorem mdL_nearest : l_Md mL_nearest 3 := ⟨qT_of 1138 (by decide +kernel) (by decide +kernel), qT_of 109 (by decide +kernel) (by decide +kernel), qT_of 1137 (by decide +kernel) (by decide +kernel), by decide +kernel, by decide +kernel, by decide +kernel, rfl⟩
abbrev mL_bytesIf : lY := (yL_bytesIf, cL_bytesIf, 5, [(0, 10, 13, 20), (0, 10, 17, 13)])
theorem mdL_bytesIf : l_Md mL_bytesIf 4 := ⟨qT_of 1145 (by decide +kernel) (by decide +kernel), qT_of 109 (by decide +kernel) (by decide +kernel), qT_of 1144 (by decide +kernel) (by decide +kernel), by decide +kernel, by decide +kernel, by decide +kernel, rfl⟩
abbrev mL_bestFlip : lY := (yL_bestFlip, cL_bestFlip, 6, [(0, 12, 15, 20), (0, 12, 19, 13)])
theorem mdL_bestFlip : l_Md mL_bestFlip 5 := ⟨qT_of 1164 (by decide +kernel) (by decide +kernel), qT_of 109 (by decide +kernel) (by decide +kernel), qT_of 1163 (by decide +kernel) (by decide +kernel), by decide +kernel, by decide +kernel, by decide +kernel, rfl⟩
abbrev mL_bytesFilled : lY := (yL_bytesFilled, cL_bytesFilled, 7, [(0, 14, 17, 20), (0, 14, 21, 13), (0, 14, 25, 15)])
theorem mdL_bytesFilled : l_Md mL_bytesFilled 6 := ⟨qT_of 1171 (by decide +kernel) (by decide +kernel), qT_of 109 (by decide +kernel) (by decide +kernel), qT_of 1170 (by decide +kernel) (by decide +kernel), by decide +kernel, by decide +kernel, by decide +kernel, rfl⟩
abbrev mL_bytesShifted : lY := (yL_bytesShifted, cL_bytesShifted, 5, [(0, 10, 13, 20), (0, 10, 17, 13)])
theorem mdL_bytesShifted : l_Md mL_bytesShifted 4 := ⟨qT_of 1179 (by decide +kernel) (by decide +kernel), qT_of 109 (by decide +kernel) (by decide +kernel), qT_of 1178 (by decide +kernel) (by decide +kernel), by decide +kernel, by decide +kernel, by decide +kernel, rfl⟩
abbrev mL_mostLike : lY := (yL_mostLike, cL_mostLike, 6, [(0, 12, 15, 20), (0, 12, 19, 13)])
theorem mdL_mostLike : l_Md mL_mostLike 5 := ⟨qT_of 1196 (by decide +kernel) (by decide +kernel), qT_of 109 (by decide +kernel) (by decide +kernel), qT_of 1195 (by decide +kernel) (by decide +kernel), by decide +kernel, by decide +kernel, by decide +kernel, rfl⟩
abbrev mL_writeBytes : lY := (yL_writeBytes, cL_writeBytes, 4, [(0, 9, 12, 20), (0, 9, 15, 13)])
theorem mdL_writeBytes : l_Md mL_writeBytes 3 := ⟨qT_of 1203 (by decide +kernel) (by decide +kernel), qT_of 109 (by decide +kernel) (by decide +kernel), qT_of 1202 (by decide +kernel) (by decide +kernel), by decide +kernel, by decide +kernel, by decide +kernel, rfl⟩
abbrev mL_writeBits : lY := (yL_writeBits, cL_writeBits, 6, [(0, 12, 15, 20), (0, 12, 19, 13), (0, 12, 23, 15)])
theorem mdL_writeBits : l_Md mL_writeBits 5 := ⟨qT_of 1218 (by decide +kernel) (by decide +kernel), qT_of 109 (by decide +kernel) (by decide +kernel), qT_of 1217 (by decide +kernel) (by decide +kernel), by decide +kernel, by decide +kernel, by decide +kernel, rfl⟩
abbrev mL_writeTree : lY := (yL_writeTree, cL_writeTree, 4, [(0, 9, 12, 20), (0, 9, 15, 13)])
theorem mdL_writeTree : l_Md mL_writeTree 3 := ⟨qT_of 1226 (by decide +kernel) (by decide +kernel), qT_of 109 (by decide +kernel) (by decide +kernel), qT_of 1225 (by decide +kernel) (by decide +kernel), by decide +kernel, by decide +kernel, by decide +kernel, rfl⟩
abbrev mL_textByte : lY := (yL_textByte, cL_textByte, 4, [(0, 9, 12, 13)])
theorem mdL_textByte : l_Md mL_textByte 3 := ⟨qT_of 1243 (by decide +kernel) (by decide +kernel), qT_of 109 (by decide +kernel) (by decide +kernel), qT_of 1242 (by decide +kernel) (by decide +kernel), by decide +kernel, by decide +kernel, by decide +kernel, rfl⟩
abbrev mL_fill : lY := (yL_fill, cL_fill, 7, [(0, 14, 17, 20), (0, 14, 21, 13), (0, 14, 25, 15)])
theorem mdL_fill : l_Md mL_fill 6 := ⟨qT_of 1251 (by decide +kernel) (by decide +kernel), qT_of 109 (by decide +kernel) (by decide +kernel), qT_of 1250 (by decide +kernel) (by decide +kernel), by decide +kernel, by decide +kernel, by decide +kernel, rfl⟩
abbrev mL_flip : lY := (yL_flip, cL_flip, 6, [(0, 12, 15, 20), (0, 12, 19, 13)])
theorem mdL_flip : l_Md mL_flip 5 := ⟨qT_of 1265 (by decide +kernel) (by decide +kernel), qT_of 109 (by decide +kernel) (by decide +kernel), qT_of 1264 (by decide +kernel) (by decide +kernel), by decide +kernel, by decide +kernel, by decide +kernel, rfl⟩
abbrev mL_combine : lY := (yL_combine, cL_combine, 7, [(0, 14, 17, 20), (0, 14, 21, 13), (0, 14, 25, 15)])
theorem mdL_combine : l_Md mL_combine 6 := ⟨qT_of 1273 (by decide +kernel) (by decide +kernel), qT_of 109 (by decide +kernel) (by decide +kernel), qT_of 1272 (by decide +kernel) (by decide +kernel), by decide +kernel, by decide +kernel, by decide +kernel, rfl⟩
abbrev mL_copyBlock : lY := (yL_copyBlock, cL_copyBlock, 7, [(0, 14, 17, 20), (0, 14, 21, 13)])
theorem mdL_copyBlock : l_Md mL_copyBlock 6 := ⟨qT_of 1280 (by decide +kernel) (by decide +kernel), qT_of 109 (by decide +kernel) (by decide +kernel), qT_of 1279 (by decide +kernel) (by decide +kernel), by decide +kernel, by decide +kernel, by decide +kernel, rfl⟩
abbrev mL_shift : lY := (yL_shift, cL_shift, 5, [(0, 10, 13, 20), (0, 10, 17, 13)])
theorem mdL_shift : l_Md mL_shift 4 := ⟨qT_of 1288 (by decide +kernel) (by decide +kernel), qT_of 109 (by decide +kernel) (by decide +kernel), qT_of 1287 (by decide +kernel) (by decide +kernel), by decide +kernel, by decide +kernel, by decide +kernel, rfl⟩
abbrev mL_mirror : lY := (yL_mirror, cL_mirror, 4, [(0, 9, 12, 20), (0, 9, 15, 13)])
theorem mdL_mirror : l_Md mL_mirror 3 := ⟨qT_of 1295 (by decide +kernel) (by decide +kernel), qT_of 109 (by decide +kernel) (by decide +kernel), qT_of 1294 (by decide +kernel) (by decide +kernel), by decide +kernel, by decide +kernel, by decide +kernel, rfl⟩
abbrev mL_read : lY := (yL_read, cL_read, 5, [(0, 10, 13, 20), (0, 10, 17, 13), (0, 10, 21, 15)])
theorem mdL_read : l_Md mL_read 4 := ⟨qT_of 1306 (by decide +kernel) (by decide +kernel), qT_of 109 (by decide +kernel) (by decide +kernel), qT_of 1305 (by decide +kernel) (by decide +kernel), by decide +kernel, by decide +kernel, by decide +kernel, rfl⟩
abbrev mL_undo : lY := (yL_undo, cL_undo, 3, [(0, 8, 11, 20)])
theorem mdL_undo : l_Md mL_undo 2 := ⟨qT_of 1314 (by decide +kernel) (by decide +kernel), qT_of 109 (by decide +kernel) (by decide +kernel), qT_of 1313 (by decide +kernel) (by decide +kernel), by decide +kernel, by decide +kernel, by decide +kernel, rfl⟩
abbrev mL_save : lY := (yL_save, cL_save, 4, [(0, 9, 12, 20), (0, 9, 15, 13)])
theorem mdL_save : l_Md mL_save 3 := ⟨qT_of 1327 (by decide +kernel) (by decide +kernel), qT_of 109 (by decide +kernel) (by decide +kernel), qT_of 1326 (by decide +kernel) (by decide +kernel), by decide +kernel, by decide +kernel, by decide +kernel, rfl⟩
abbrev mL_restore : lY := (yL_restore, cL_restore, 4, [(0, 9, 12, 13), (0, 9, 15, 20)])
theorem mdL_restore : l_Md mL_restore 3 := ⟨qT_of 1339 (by decide +kernel) (by decide +kernel), qT_of 109 (by decide +kernel) (by decide +kernel), qT_of 1338 (by decide +kernel) (by decide +kernel), by decide +kernel, by decide +kernel, by decide +kernel, rfl⟩
theorem mlL_7 : q_Ml 9 7 mX7_load := qT_of 400 (by decide +kernel) (by decide +kernel)
theorem mlL_17 : q_Ml 9 17 mX7_find := qT_of 763 (by decide +kernel) (by decide +kernel)
theorem mlL_22 : q_Ml 9 22 mX7_checks := qT_of 795 (by decide +kernel) (by decide +kernel)
theorem mlL_25 : q_Ml 9 25 mX7_count := qT_of 810 (by decide +kernel) (by decide +kernel)
theorem mlL_28 : q_Ml 9 28 mX7_bit := qT_of 876 (by decide +kernel) (by decide +kernel)
theorem mlL_32 : q_Ml 9 32 mX7_ones := qT_of 897 (by decide +kernel) (by decide +kernel)
theorem mlL_36 : q_Ml 9 36 mX7_next := qT_of 913 (by decide +kernel) (by decide +kernel)
theorem mlL_39 : q_Ml 9 39 mX7_select := qT_of 925 (by decide +kernel) (by decide +kernel)
theorem mlL_42 : q_Ml 9 42 mX7_runs := qT_of 933 (by decide +kernel) (by decide +kernel)
theorem mlL_45 : q_Ml 9 45 mX7_longestRun := qT_of 940 (by decide +kernel) (by decide +kernel)
theorem mlL_48 : q_Ml 9 48 mX7_bytes := qT_of 948 (by decide +kernel) (by decide +kernel)
theorem mlL_51 : q_Ml 9 51 mX7_byteAt := qT_of 955 (by decide +kernel) (by decide +kernel)
theorem mlL_54 : q_Ml 9 54 mX7_parts := qT_of 971 (by decide +kernel) (by decide +kernel)
theorem mlL_57 : q_Ml 9 57 mX7_block := qT_of 991 (by decide +kernel) (by decide +kernel)
theorem mlL_61 : q_Ml 9 61 mX7_teller := qT_of 1020 (by decide +kernel) (by decide +kernel)
theorem mlL_64 : q_Ml 9 64 mX7_told := qT_of 1035 (by decide +kernel) (by decide +kernel)
theorem mlL_67 : q_Ml 9 67 mX7_lowest := qT_of 1042 (by decide +kernel) (by decide +kernel)
theorem mlL_70 : q_Ml 9 70 mX7_biggest := qT_of 1053 (by decide +kernel) (by decide +kernel)
theorem mlL_73 : q_Ml 9 73 mX7_cheapest := qT_of 1065 (by decide +kernel) (by decide +kernel)
theorem mlL_77 : q_Ml 9 77 mX7_meanBits := qT_of 1072 (by decide +kernel) (by decide +kernel)
theorem mlL_81 : q_Ml 9 81 mX7_share := qT_of 1083 (by decide +kernel) (by decide +kernel)
theorem mlL_85 : q_Ml 9 85 mX7_common := qT_of 1090 (by decide +kernel) (by decide +kernel)
theorem mlL_88 : q_Ml 9 88 mX7_distance := qT_of 1098 (by decide +kernel) (by decide +kernel)
theorem mlL_91 : q_Ml 9 91 mX7_differs := qT_of 1106 (by decide +kernel) (by decide +kernel)
theorem mlL_94 : q_Ml 9 94 mX7_isWithin := qT_of 1113 (by decide +kernel) (by decide +kernel)
theorem mlL_98 : q_Ml 9 98 mX7_alike := qT_of 1120 (by decide +kernel) (by decide +kernel)
theorem mlL_101 : q_Ml 9 101 mX7_combined := qT_of 1127 (by decide +kernel) (by decide +kernel)
theorem mlL_104 : q_Ml 9 104 mX7_nearest := qT_of 1139 (by decide +kernel) (by decide +kernel)
theorem mlL_107 : q_Ml 9 107 mX7_bytesIf := qT_of 1146 (by decide +kernel) (by decide +kernel)
theorem mlL_110 : q_Ml 9 110 mX7_bestFlip := qT_of 1165 (by decide +kernel) (by decide +kernel)
theorem mlL_113 : q_Ml 9 113 mX7_bytesFilled := qT_of 1172 (by decide +kernel) (by decide +kernel)
theorem mlL_116 : q_Ml 9 116 mX7_bytesShifted := qT_of 1180 (by decide +kernel) (by decide +kernel)
theorem mlL_119 : q_Ml 9 119 mX7_mostLike := qT_of 1197 (by decide +kernel) (by decide +kernel)
theorem mlL_122 : q_Ml 9 122 mX7_writeBytes := qT_of 1204 (by decide +kernel) (by decide +kernel)
theorem mlL_125 : q_Ml 9 125 mX7_writeBits := qT_of 1219 (by decide +kernel) (by decide +kernel)
theorem mlL_128 : q_Ml 9 128 mX7_writeTree := qT_of 1227 (by decide +kernel) (by decide +kernel)
theorem mlL_131 : q_Ml 9 131 mX7_textByte := qT_of 1244 (by decide +kernel) (by decide +kernel)
theorem mlL_134 : q_Ml 9 134 mX7_fill := qT_of 1252 (by decide +kernel) (by decide +kernel)
theorem mlL_137 : q_Ml 9 137 mX7_flip := qT_of 1266 (by decide +kernel) (by decide +kernel)
theorem mlL_140 : q_Ml 9 140 mX7_combine := qT_of 1274 (by decide +kernel) (by decide +kernel)
theorem mlL_143 : q_Ml 9 143 mX7_copyBlock := qT_of 1281 (by decide +kernel) (by decide +kernel)
theorem mlL_146 : q_Ml 9 146 mX7_shift := qT_of 1289 (by decide +kernel) (by decide +kernel)
theorem mlL_149 : q_Ml 9 149 mX7_mirror := qT_of 1296 (by decide +kernel) (by decide +kernel)
theorem mlL_152 : q_Ml 9 152 mX7_read := qT_of 1307 (by decide +kernel) (by decide +kernel)
theorem mlL_155 : q_Ml 9 155 mX7_undo := qT_of 1315 (by decide +kernel) (by decide +kernel)
theorem mlL_158 : q_Ml 9 158 mX7_save := qT_of 1328 (by decide +kernel) (by decide +kernel)
theorem mlL_161 : q_Ml 9 161 mX7_restore := qT_of 1340 (by decide +kernel) (by decide +kernel)
theorem mlL_168 : q_Ml 9 168 mX7_append := qT_of 355 (by decide +kernel) (by decide +kernel)
theorem mlL_172 : q_Ml 9 172 mX8_append := qT_of 1465 (by decide +kernel) (by decide +kernel)
theorem mlL_173 : Cond.methodLink (qNm 9) 173 mL_load.1 ∈ qT := qT_of 395 (by decide +kernel) (by decide +kernel)
theorem mlL_178 : q_Ml 9 178 mX8_load := qT_of 1481 (by decide +kernel) (by decide +kernel)
theorem mlL_179 : q_Ml 9 179 mX8_thrown := qT_of 1461 (by decide +kernel) (by decide +kernel)
theorem mlL_182 : q_Ml 9 182 mX7_parseError := qT_of 375 (by decide +kernel) (by decide +kernel)
theorem mlL_185 : q_Ml 9 185 mX8_parseError := qT_of 1473 (by decide +kernel) (by decide +kernel)
theorem mlL_186 : q_Ml 9 186 mX7_errorPosition := qT_of 379 (by decide +kernel) (by decide +kernel)
theorem mlL_189 : q_Ml 9 189 mX8_errorPosition := qT_of 1477 (by decide +kernel) (by decide +kernel)
theorem mlL_190 : q_Ml 9 190 mX7_buffered := qT_of 383 (by decide +kernel) (by decide +kernel)
theorem mlL_193 : q_Ml 9 193 mX8_buffered := qT_of 1469 (by decide +kernel) (by decide +kernel)
theorem mlL_194 : Cond.methodLink (qNm 9) 194 mL_find.1 ∈ qT := qT_of 759 (by decide +kernel) (by decide +kernel)
theorem mlL_196 : q_Ml 9 196 mX8_find := qT_of 1636 (by decide +kernel) (by decide +kernel)
theorem mlL_197 : Cond.methodLink (qNm 9) 197 mL_checks.1 ∈ qT := qT_of 792 (by decide +kernel) (by decide +kernel)
theorem mlL_199 : q_Ml 9 199 mX8_checks := qT_of 1644 (by decide +kernel) (by decide +kernel)
theorem mlL_200 : Cond.methodLink (qNm 9) 200 mL_count.1 ∈ qT := qT_of 807 (by decide +kernel) (by decide +kernel)
theorem mlL_202 : q_Ml 9 202 mX8_count := qT_of 1652 (by decide +kernel) (by decide +kernel)
theorem mlL_203 : Cond.methodLink (qNm 9) 203 mL_bit.1 ∈ qT := qT_of 873 (by decide +kernel) (by decide +kernel)
theorem mlL_206 : q_Ml 9 206 mX8_bit := qT_of 1684 (by decide +kernel) (by decide +kernel)
theorem mlL_207 : Cond.methodLink (qNm 9) 207 mL_ones.1 ∈ qT := qT_of 894 (by decide +kernel) (by decide +kernel)
theorem mlL_210 : q_Ml 9 210 mX8_ones := qT_of 1704 (by decide +kernel) (by decide +kernel)
theorem mlL_211 : Cond.methodLink (qNm 9) 211 mL_next.1 ∈ qT := qT_of 910 (by decide +kernel) (by decide +kernel)
theorem mlL_213 : q_Ml 9 213 mX8_next := qT_of 1716 (by decide +kernel) (by decide +kernel)
theorem mlL_214 : Cond.methodLink (qNm 9) 214 mL_select.1 ∈ qT := qT_of 922 (by decide +kernel) (by decide +kernel)
theorem mlL_216 : q_Ml 9 216 mX8_select := qT_of 1723 (by decide +kernel) (by decide +kernel)
theorem mlL_217 : Cond.methodLink (qNm 9) 217 mL_runs.1 ∈ qT := qT_of 930 (by decide +kernel) (by decide +kernel)
theorem mlL_219 : q_Ml 9 219 mX8_runs := qT_of 1727 (by decide +kernel) (by decide +kernel)
theorem mlL_220 : Cond.methodLink (qNm 9) 220 mL_longestRun.1 ∈ qT := qT_of 937 (by decide +kernel) (by decide +kernel)
theorem mlL_222 : q_Ml 9 222 mX8_longestRun := qT_of 1738 (by decide +kernel) (by decide +kernel)
theorem mlL_223 : Cond.methodLink (qNm 9) 223 mL_bytes.1 ∈ qT := qT_of 945 (by decide +kernel) (by decide +kernel)
theorem mlL_225 : q_Ml 9 225 mX8_bytes := qT_of 1743 (by decide +kernel) (by decide +kernel)
theorem mlL_226 : Cond.methodLink (qNm 9) 226 mL_byteAt.1 ∈ qT := qT_of 952 (by decide +kernel) (by decide +kernel)
theorem mlL_228 : q_Ml 9 228 mX8_byteAt := qT_of 1747 (by decide +kernel) (by decide +kernel)
theorem mlL_229 : Cond.methodLink (qNm 9) 229 mL_parts.1 ∈ qT := qT_of 968 (by decide +kernel) (by decide +kernel)
theorem mlL_231 : q_Ml 9 231 mX8_parts := qT_of 1755 (by decide +kernel) (by decide +kernel)
theorem mlL_232 : Cond.methodLink (qNm 9) 232 mL_block.1 ∈ qT := qT_of 988 (by decide +kernel) (by decide +kernel)
theorem mlL_235 : q_Ml 9 235 mX8_block := qT_of 1767 (by decide +kernel) (by decide +kernel)
theorem mlL_236 : Cond.methodLink (qNm 9) 236 mL_teller.1 ∈ qT := qT_of 1017 (by decide +kernel) (by decide +kernel)
theorem mlL_238 : q_Ml 9 238 mX8_teller := qT_of 1779 (by decide +kernel) (by decide +kernel)
theorem mlL_239 : Cond.methodLink (qNm 9) 239 mL_told.1 ∈ qT := qT_of 1032 (by decide +kernel) (by decide +kernel)
theorem mlL_241 : q_Ml 9 241 mX8_told := qT_of 1787 (by decide +kernel) (by decide +kernel)
theorem mlL_242 : Cond.methodLink (qNm 9) 242 mL_lowest.1 ∈ qT := qT_of 1039 (by decide +kernel) (by decide +kernel)
theorem mlL_244 : q_Ml 9 244 mX8_lowest := qT_of 1791 (by decide +kernel) (by decide +kernel)
theorem mlL_245 : Cond.methodLink (qNm 9) 245 mL_biggest.1 ∈ qT := qT_of 1050 (by decide +kernel) (by decide +kernel)
theorem mlL_247 : q_Ml 9 247 mX8_biggest := qT_of 1795 (by decide +kernel) (by decide +kernel)
theorem mlL_248 : Cond.methodLink (qNm 9) 248 mL_cheapest.1 ∈ qT := qT_of 1062 (by decide +kernel) (by decide +kernel)
theorem mlL_251 : q_Ml 9 251 mX8_cheapest := qT_of 1799 (by decide +kernel) (by decide +kernel)
theorem mlL_252 : Cond.methodLink (qNm 9) 252 mL_meanBits.1 ∈ qT := qT_of 1069 (by decide +kernel) (by decide +kernel)
theorem mlL_255 : q_Ml 9 255 mX8_meanBits := qT_of 1803 (by decide +kernel) (by decide +kernel)
theorem mlL_256 : Cond.methodLink (qNm 9) 256 mL_share.1 ∈ qT := qT_of 1080 (by decide +kernel) (by decide +kernel)
theorem mlL_258 : q_Ml 9 258 mX8_share := qT_of 1807 (by decide +kernel) (by decide +kernel)
theorem mlL_259 : Cond.methodLink (qNm 9) 259 mL_common.1 ∈ qT := qT_of 1087 (by decide +kernel) (by decide +kernel)
theorem mlL_261 : q_Ml 9 261 mX8_common := qT_of 1811 (by decide +kernel) (by decide +kernel)
theorem mlL_262 : Cond.methodLink (qNm 9) 262 mL_distance.1 ∈ qT := qT_of 1095 (by decide +kernel) (by decide +kernel)
theorem mlL_264 : q_Ml 9 264 mX8_distance := qT_of 1826 (by decide +kernel) (by decide +kernel)
theorem mlL_265 : Cond.methodLink (qNm 9) 265 mL_differs.1 ∈ qT := qT_of 1103 (by decide +kernel) (by decide +kernel)
theorem mlL_267 : q_Ml 9 267 mX8_differs := qT_of 1834 (by decide +kernel) (by decide +kernel)
theorem mlL_268 : Cond.methodLink (qNm 9) 268 mL_isWithin.1 ∈ qT := qT_of 1110 (by decide +kernel) (by decide +kernel)
theorem mlL_270 : q_Ml 9 270 mX8_isWithin := qT_of 1838 (by decide +kernel) (by decide +kernel)
theorem mlL_271 : Cond.methodLink (qNm 9) 271 mL_alike.1 ∈ qT := qT_of 1117 (by decide +kernel) (by decide +kernel)
theorem mlL_273 : q_Ml 9 273 mX8_alike := qT_of 1842 (by decide +kernel) (by decide +kernel)
theorem mlL_274 : Cond.methodLink (qNm 9) 274 mL_combined.1 ∈ qT := qT_of 1124 (by decide +kernel) (by decide +kernel)
theorem mlL_276 : q_Ml 9 276 mX8_combined := qT_of 1846 (by decide +kernel) (by decide +kernel)
theorem mlL_277 : Cond.methodLink (qNm 9) 277 mL_nearest.1 ∈ qT := qT_of 1136 (by decide +kernel) (by decide +kernel)
theorem mlL_279 : q_Ml 9 279 mX8_nearest := qT_of 1857 (by decide +kernel) (by decide +kernel)
theorem mlL_280 : Cond.methodLink (qNm 9) 280 mL_bytesIf.1 ∈ qT := qT_of 1143 (by decide +kernel) (by decide +kernel)
theorem mlL_282 : q_Ml 9 282 mX8_bytesIf := qT_of 1861 (by decide +kernel) (by decide +kernel)
theorem mlL_283 : Cond.methodLink (qNm 9) 283 mL_bestFlip.1 ∈ qT := qT_of 1162 (by decide +kernel) (by decide +kernel)
theorem mlL_285 : q_Ml 9 285 mX8_bestFlip := qT_of 1869 (by decide +kernel) (by decide +kernel)
theorem mlL_286 : Cond.methodLink (qNm 9) 286 mL_bytesFilled.1 ∈ qT := qT_of 1169 (by decide +kernel) (by decide +kernel)
theorem mlL_288 : q_Ml 9 288 mX8_bytesFilled := qT_of 1874 (by decide +kernel) (by decide +kernel)
theorem mlL_289 : Cond.methodLink (qNm 9) 289 mL_bytesShifted.1 ∈ qT := qT_of 1177 (by decide +kernel) (by decide +kernel)
theorem mlL_291 : q_Ml 9 291 mX8_bytesShifted := qT_of 1882 (by decide +kernel) (by decide +kernel)
theorem mlL_292 : Cond.methodLink (qNm 9) 292 mL_mostLike.1 ∈ qT := qT_of 1194 (by decide +kernel) (by decide +kernel)
theorem mlL_294 : q_Ml 9 294 mX8_mostLike := qT_of 1890 (by decide +kernel) (by decide +kernel)
theorem mlL_295 : Cond.methodLink (qNm 9) 295 mL_writeBytes.1 ∈ qT := qT_of 1201 (by decide +kernel) (by decide +kernel)
theorem mlL_297 : q_Ml 9 297 mX8_writeBytes := qT_of 1894 (by decide +kernel) (by decide +kernel)
theorem mlL_298 : Cond.methodLink (qNm 9) 298 mL_writeBits.1 ∈ qT := qT_of 1216 (by decide +kernel) (by decide +kernel)
theorem mlL_300 : q_Ml 9 300 mX8_writeBits := qT_of 1910 (by decide +kernel) (by decide +kernel)
theorem mlL_301 : Cond.methodLink (qNm 9) 301 mL_writeTree.1 ∈ qT := qT_of 1224 (by decide +kernel) (by decide +kernel)
theorem mlL_303 : q_Ml 9 303 mX8_writeTree := qT_of 1914 (by decide +kernel) (by decide +kernel)
theorem mlL_304 : Cond.methodLink (qNm 9) 304 mL_textByte.1 ∈ qT := qT_of 1241 (by decide +kernel) (by decide +kernel)
theorem mlL_306 : q_Ml 9 306 mX8_textByte := qT_of 1922 (by decide +kernel) (by decide +kernel)
theorem mlL_307 : Cond.methodLink (qNm 9) 307 mL_fill.1 ∈ qT := qT_of 1249 (by decide +kernel) (by decide +kernel)
theorem mlL_309 : q_Ml 9 309 mX8_fill := qT_of 1926 (by decide +kernel) (by decide +kernel)
theorem mlL_310 : Cond.methodLink (qNm 9) 310 mL_flip.1 ∈ qT := qT_of 1263 (by decide +kernel) (by decide +kernel)
theorem mlL_312 : q_Ml 9 312 mX8_flip := qT_of 1942 (by decide +kernel) (by decide +kernel)
theorem mlL_313 : Cond.methodLink (qNm 9) 313 mL_combine.1 ∈ qT := qT_of 1271 (by decide +kernel) (by decide +kernel)
theorem mlL_315 : q_Ml 9 315 mX8_combine := qT_of 1946 (by decide +kernel) (by decide +kernel)
theorem mlL_316 : Cond.methodLink (qNm 9) 316 mL_copyBlock.1 ∈ qT := qT_of 1278 (by decide +kernel) (by decide +kernel)
theorem mlL_318 : q_Ml 9 318 mX8_copyBlock := qT_of 1950 (by decide +kernel) (by decide +kernel)
theorem mlL_319 : Cond.methodLink (qNm 9) 319 mL_shift.1 ∈ qT := qT_of 1286 (by decide +kernel) (by decide +kernel)
theorem mlL_321 : q_Ml 9 321 mX8_shift := qT_of 1954 (by decide +kernel) (by decide +kernel)
theorem mlL_322 : Cond.methodLink (qNm 9) 322 mL_mirror.1 ∈ qT := qT_of 1293 (by decide +kernel) (by decide +kernel)
theorem mlL_324 : q_Ml 9 324 mX8_mirror := qT_of 1958 (by decide +kernel) (by decide +kernel)
theorem mlL_325 : Cond.methodLink (qNm 9) 325 mL_read.1 ∈ qT := qT_of 1304 (by decide +kernel) (by decide +kernel)
theorem mlL_327 : q_Ml 9 327 mX8_read := qT_of 1962 (by decide +kernel) (by decide +kernel)
theorem mlL_328 : Cond.methodLink (qNm 9) 328 mL_undo.1 ∈ qT := qT_of 1312 (by decide +kernel) (by decide +kernel)
theorem mlL_330 : q_Ml 9 330 mX8_undo := qT_of 1966 (by decide +kernel) (by decide +kernel)
theorem mlL_331 : q_Ml 9 331 mX7_undoable := qT_of 387 (by decide +kernel) (by decide +kernel)
theorem mlL_334 : q_Ml 9 334 mX8_undoable := qT_of 1974 (by decide +kernel) (by decide +kernel)
theorem mlL_335 : Cond.methodLink (qNm 9) 335 mL_save.1 ∈ qT := qT_of 1325 (by decide +kernel) (by decide +kernel)
theorem mlL_337 : q_Ml 9 337 mX8_save := qT_of 1978 (by decide +kernel) (by decide +kernel)
theorem mlL_338 : Cond.methodLink (qNm 9) 338 mL_restore.1 ∈ qT := qT_of 1337 (by decide +kernel) (by decide +kernel)
theorem mlL_340 : q_Ml 9 340 mX8_restore := qT_of 1982 (by decide +kernel) (by decide +kernel)
