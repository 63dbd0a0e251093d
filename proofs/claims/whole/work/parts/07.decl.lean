theorem dL_add_0 : decode cL_add 0 = .ok (.aload_n 3, 1) := by decide +kernel
theorem dL_add_1 : decode cL_add 1 = .ok (.iconst 0, 1) := by decide +kernel
theorem dL_add_2 : decode cL_add 2 = .ok (.aload_n 0, 1) := by decide +kernel
theorem dL_add_3 : decode cL_add 3 = .ok (.iload_n 1, 1) := by decide +kernel
theorem dL_add_4 : decode cL_add 4 = .ok (.iload_n 2, 1) := by decide +kernel
theorem dL_add_5 : decode cL_add 5 = .ok (.invokevirtual 7, 3) := by decide +kernel
theorem dL_add_8 : decode cL_add 8 = .ok (.i2l, 1) := by decide +kernel
theorem dL_add_9 : decode cL_add 9 = .ok (.lastore, 1) := by decide +kernel
theorem dL_add_10 : decode cL_add 10 = .ok (.goto 15, 3) := by decide +kernel
theorem dL_add_13 : decode cL_add 13 = .ok (.astore 4, 2) := by decide +kernel
theorem dL_add_15 : decode cL_add 15 = .ok (.iconst 1, 1) := by decide +kernel
theorem dL_add_16 : decode cL_add 16 = .ok (.ireturn, 1) := by decide +kernel
theorem dL_add_17 : decode cL_add 17 = .ok (.astore 4, 2) := by decide +kernel
theorem dL_add_19 : decode cL_add 19 = .ok (.iconst 2, 1) := by decide +kernel
theorem dL_add_20 : decode cL_add 20 = .ok (.ireturn, 1) := by decide +kernel
theorem dL_add_21 : decode cL_add 21 = .ok (.astore 4, 2) := by decide +kernel
theorem dL_add_23 : decode cL_add 23 = .ok (.iconst 3, 1) := by decide +kernel
theorem dL_add_24 : decode cL_add 24 = .ok (.ireturn, 1) := by decide +kernel
theorem dL_add_25 : decode cL_add 25 = .ok (.iconst 0, 1) := by decide +kernel
theorem dL_add_26 : decode cL_add 26 = .ok (.ireturn, 1) := by decide +kernel
theorem dL_insert_0 : decode cL_insert 0 = .ok (.aload 4, 2) := by decide +kernel
theorem dL_insert_2 : decode cL_insert 2 = .ok (.iconst 0, 1) := by decide +kernel
theorem dL_insert_3 : decode cL_insert 3 = .ok (.aload_n 0, 1) := by decide +kernel
theorem dL_insert_4 : decode cL_insert 4 = .ok (.iload_n 1, 1) := by decide +kernel
theorem dL_insert_5 : decode cL_insert 5 = .ok (.iload_n 2, 1) := by decide +kernel
theorem dL_insert_6 : decode cL_insert 6 = .ok (.iload_n 3, 1) := by decide +kernel
theorem dL_insert_7 : decode cL_insert 7 = .ok (.invokevirtual 19, 3) := by decide +kernel
theorem dL_insert_10 : decode cL_insert 10 = .ok (.i2l, 1) := by decide +kernel
theorem dL_insert_11 : decode cL_insert 11 = .ok (.lastore, 1) := by decide +kernel
theorem dL_insert_12 : decode cL_insert 12 = .ok (.goto 15, 3) := by decide +kernel
theorem dL_insert_15 : decode cL_insert 15 = .ok (.astore 5, 2) := by decide +kernel
theorem dL_insert_17 : decode cL_insert 17 = .ok (.iconst 1, 1) := by decide +kernel
theorem dL_insert_18 : decode cL_insert 18 = .ok (.ireturn, 1) := by decide +kernel
theorem dL_insert_19 : decode cL_insert 19 = .ok (.astore 5, 2) := by decide +kernel
theorem dL_insert_21 : decode cL_insert 21 = .ok (.iconst 2, 1) := by decide +kernel
theorem dL_insert_22 : decode cL_insert 22 = .ok (.ireturn, 1) := by decide +kernel
theorem dL_insert_23 : decode cL_insert 23 = .ok (.astore 5, 2) := by decide +kernel
theorem dL_insert_25 : decode cL_insert 25 = .ok (.iconst 3, 1) := by decide +kernel
theorem dL_insert_26 : decode cL_insert 26 = .ok (.ireturn, 1) := by decide +kernel
theorem dL_insert_27 : decode cL_insert 27 = .ok (.iconst 0, 1) := by decide +kernel
theorem dL_insert_28 : decode cL_insert 28 = .ok (.ireturn, 1) := by decide +kernel
theorem dL_takeOut_0 : decode cL_takeOut 0 = .ok (.aload_n 3, 1) := by decide +kernel
theorem dL_takeOut_1 : decode cL_takeOut 1 = .ok (.iconst 0, 1) := by decide +kernel
theorem dL_takeOut_2 : decode cL_takeOut 2 = .ok (.aload_n 0, 1) := by decide +kernel
theorem dL_takeOut_3 : decode cL_takeOut 3 = .ok (.iload_n 1, 1) := by decide +kernel
theorem dL_takeOut_4 : decode cL_takeOut 4 = .ok (.iload_n 2, 1) := by decide +kernel
theorem dL_takeOut_5 : decode cL_takeOut 5 = .ok (.invokevirtual 23, 3) := by decide +kernel
theorem dL_takeOut_8 : decode cL_takeOut 8 = .ok (.i2l, 1) := by decide +kernel
theorem dL_takeOut_9 : decode cL_takeOut 9 = .ok (.lastore, 1) := by decide +kernel
theorem dL_takeOut_10 : decode cL_takeOut 10 = .ok (.goto 7, 3) := by decide +kernel
theorem dL_takeOut_13 : decode cL_takeOut 13 = .ok (.astore 4, 2) := by decide +kernel
theorem dL_takeOut_15 : decode cL_takeOut 15 = .ok (.iconst 1, 1) := by decide +kernel
theorem dL_takeOut_16 : decode cL_takeOut 16 = .ok (.ireturn, 1) := by decide +kernel
theorem dL_takeOut_17 : decode cL_takeOut 17 = .ok (.iconst 0, 1) := by decide +kernel
theorem dL_takeOut_18 : decode cL_takeOut 18 = .ok (.ireturn, 1) := by decide +kernel
theorem dL_exchange_0 : decode cL_exchange 0 = .ok (.aload 4, 2) := by decide +kernel
theorem dL_exchange_2 : decode cL_exchange 2 = .ok (.iconst 0, 1) := by decide +kernel
theorem dL_exchange_3 : decode cL_exchange 3 = .ok (.aload_n 0, 1) := by decide +kernel
theorem dL_exchange_4 : decode cL_exchange 4 = .ok (.iload_n 1, 1) := by decide +kernel
theorem dL_exchange_5 : decode cL_exchange 5 = .ok (.iload_n 2, 1) := by decide +kernel
theorem dL_exchange_6 : decode cL_exchange 6 = .ok (.iload_n 3, 1) := by decide +kernel
theorem dL_exchange_7 : decode cL_exchange 7 = .ok (.invokevirtual 26, 3) := by decide +kernel
theorem dL_exchange_10 : decode cL_exchange 10 = .ok (.i2l, 1) := by decide +kernel
theorem dL_exchange_11 : decode cL_exchange 11 = .ok (.lastore, 1) := by decide +kernel
theorem dL_exchange_12 : decode cL_exchange 12 = .ok (.goto 15, 3) := by decide +kernel
theorem dL_exchange_15 : decode cL_exchange 15 = .ok (.astore 5, 2) := by decide +kernel
theorem dL_exchange_17 : decode cL_exchange 17 = .ok (.iconst 1, 1) := by decide +kernel
theorem dL_exchange_18 : decode cL_exchange 18 = .ok (.ireturn, 1) := by decide +kernel
theorem dL_exchange_19 : decode cL_exchange 19 = .ok (.astore 5, 2) := by decide +kernel
theorem dL_exchange_21 : decode cL_exchange 21 = .ok (.iconst 2, 1) := by decide +kernel
theorem dL_exchange_22 : decode cL_exchange 22 = .ok (.ireturn, 1) := by decide +kernel
theorem dL_exchange_23 : decode cL_exchange 23 = .ok (.astore 5, 2) := by decide +kernel
theorem dL_exchange_25 : decode cL_exchange 25 = .ok (.iconst 3, 1) := by decide +kernel
theorem dL_exchange_26 : decode cL_exchange 26 = .ok (.ireturn, 1) := by decide +kernel
theorem dL_exchange_27 : decode cL_exchange 27 = .ok (.iconst 0, 1) := by decide +kernel
theorem dL_exchange_28 : decode cL_exchange 28 = .ok (.ireturn, 1) := by decide +kernel
theorem dL_move_0 : decode cL_move 0 = .ok (.aload 4, 2) := by decide +kernel
theorem dL_move_2 : decode cL_move 2 = .ok (.iconst 0, 1) := by decide +kernel
theorem dL_move_3 : decode cL_move 3 = .ok (.aload_n 0, 1) := by decide +kernel
theorem dL_move_4 : decode cL_move 4 = .ok (.iload_n 1, 1) := by decide +kernel
theorem dL_move_5 : decode cL_move 5 = .ok (.iload_n 2, 1) := by decide +kernel
theorem dL_move_6 : decode cL_move 6 = .ok (.iload_n 3, 1) := by decide +kernel
theorem dL_move_7 : decode cL_move 7 = .ok (.invokevirtual 29, 3) := by decide +kernel
theorem dL_move_10 : decode cL_move 10 = .ok (.i2l, 1) := by decide +kernel
theorem dL_move_11 : decode cL_move 11 = .ok (.lastore, 1) := by decide +kernel
theorem dL_move_12 : decode cL_move 12 = .ok (.goto 7, 3) := by decide +kernel
theorem dL_move_15 : decode cL_move 15 = .ok (.astore 5, 2) := by decide +kernel
theorem dL_move_17 : decode cL_move 17 = .ok (.iconst 1, 1) := by decide +kernel
theorem dL_move_18 : decode cL_move 18 = .ok (.ireturn, 1) := by decide +kernel
theorem dL_move_19 : decode cL_move 19 = .ok (.iconst 0, 1) := by decide +kernel
theorem dL_move_20 : decode cL_move 20 = .ok (.ireturn, 1) := by decide +kernel
theorem dL_sort_0 : decode cL_sort 0 = .ok (.aload_n 2, 1) := by decide +kernel
theorem dL_sort_1 : decode cL_sort 1 = .ok (.iconst 0, 1) := by decide +kernel
theorem dL_sort_2 : decode cL_sort 2 = .ok (.aload_n 0, 1) := by decide +kernel
theorem dL_sort_3 : decode cL_sort 3 = .ok (.iload_n 1, 1) := by decide +kernel
theorem dL_sort_4 : decode cL_sort 4 = .ok (.invokevirtual 32, 3) := by decide +kernel
theorem dL_sort_7 : decode cL_sort 7 = .ok (.i2l, 1) := by decide +kernel
theorem dL_sort_8 : decode cL_sort 8 = .ok (.lastore, 1) := by decide +kernel
theorem dL_sort_9 : decode cL_sort 9 = .ok (.goto 6, 3) := by decide +kernel
theorem dL_sort_12 : decode cL_sort 12 = .ok (.astore_n 3, 1) := by decide +kernel
theorem dL_sort_13 : decode cL_sort 13 = .ok (.iconst 1, 1) := by decide +kernel
theorem dL_sort_14 : decode cL_sort 14 = .ok (.ireturn, 1) := by decide +kernel
theorem dL_sort_15 : decode cL_sort 15 = .ok (.iconst 0, 1) := by decide +kernel
theorem dL_sort_16 : decode cL_sort 16 = .ok (.ireturn, 1) := by decide +kernel
theorem dL_clear_0 : decode cL_clear 0 = .ok (.aload_n 2, 1) := by decide +kernel
theorem dL_clear_1 : decode cL_clear 1 = .ok (.iconst 0, 1) := by decide +kernel
theorem dL_clear_2 : decode cL_clear 2 = .ok (.aload_n 0, 1) := by decide +kernel
theorem dL_clear_3 : decode cL_clear 3 = .ok (.iload_n 1, 1) := by decide +kernel
theorem dL_clear_4 : decode cL_clear 4 = .ok (.invokevirtual 36, 3) := by decide +kernel
theorem dL_clear_7 : decode cL_clear 7 = .ok (.i2l, 1) := by decide +kernel
theorem dL_clear_8 : decode cL_clear 8 = .ok (.lastore, 1) := by decide +kernel
theorem dL_clear_9 : decode cL_clear 9 = .ok (.goto 6, 3) := by decide +kernel
theorem dL_clear_12 : decode cL_clear 12 = .ok (.astore_n 3, 1) := by decide +kernel
theorem dL_clear_13 : decode cL_clear 13 = .ok (.iconst 1, 1) := by decide +kernel
theorem dL_clear_14 : decode cL_clear 14 = .ok (.ireturn, 1) := by decide +kernel
theorem dL_clear_15 : decode cL_clear 15 = .ok (.iconst 0, 1) := by decide +kernel
theorem dL_clear_16 : decode cL_clear 16 = .ok (.ireturn, 1) := by decide +kernel
theorem dL_join_0 : decode cL_join 0 = .ok (.aload 4, 2) := by decide +kernel
theorem dL_join_2 : decode cL_join 2 = .ok (.iconst 0, 1) := by decide +kernel
theorem dL_join_3 : decode cL_join 3 = .ok (.aload_n 0, 1) := by decide +kernel
theorem dL_join_4 : decode cL_join 4 = .ok (.iload_n 1, 1) := by decide +kernel
theorem dL_join_5 : decode cL_join 5 = .ok (.iload_n 2, 1) := by decide +kernel
theorem dL_join_6 : decode cL_join 6 = .ok (.iload_n 3, 1) := by decide +kernel
theorem dL_join_7 : decode cL_join 7 = .ok (.invokevirtual 39, 3) := by decide +kernel
theorem dL_join_10 : decode cL_join 10 = .ok (.i2l, 1) := by decide +kernel
theorem dL_join_11 : decode cL_join 11 = .ok (.lastore, 1) := by decide +kernel
theorem dL_join_12 : decode cL_join 12 = .ok (.goto 11, 3) := by decide +kernel
theorem dL_join_15 : decode cL_join 15 = .ok (.astore 5, 2) := by decide +kernel
theorem dL_join_17 : decode cL_join 17 = .ok (.iconst 1, 1) := by decide +kernel
theorem dL_join_18 : decode cL_join 18 = .ok (.ireturn, 1) := by decide +kernel
theorem dL_join_19 : decode cL_join 19 = .ok (.astore 5, 2) := by decide +kernel
theorem dL_join_21 : decode cL_join 21 = .ok (.iconst 2, 1) := by decide +kernel
theorem dL_join_22 : decode cL_join 22 = .ok (.ireturn, 1) := by decide +kernel
theorem dL_join_23 : decode cL_join 23 = .ok (.iconst 0, 1) := by decide +kernel
theorem dL_join_24 : decode cL_join 24 = .ok (.ireturn, 1) := by decide +kernel
theorem dL_size_0 : decode cL_size 0 = .ok (.aload_n 2, 1) := by decide +kernel
theorem dL_size_1 : decode cL_size 1 = .ok (.iconst 0, 1) := by decide +kernel
theorem dL_size_2 : decode cL_size 2 = .ok (.aload_n 0, 1) := by decide +kernel
theorem dL_size_3 : decode cL_size 3 = .ok (.iload_n 1, 1) := by decide +kernel
theorem dL_size_4 : decode cL_size 4 = .ok (.invokevirtual 42, 3) := by decide +kernel
theorem dL_size_7 : decode cL_size 7 = .ok (.i2l, 1) := by decide +kernel
theorem dL_size_8 : decode cL_size 8 = .ok (.lastore, 1) := by decide +kernel
theorem dL_size_9 : decode cL_size 9 = .ok (.goto 6, 3) := by decide +kernel
theorem dL_size_12 : decode cL_size 12 = .ok (.astore_n 3, 1) := by decide +kernel
theorem dL_size_13 : decode cL_size 13 = .ok (.iconst 1, 1) := by decide +kernel
theorem dL_size_14 : decode cL_size 14 = .ok (.ireturn, 1) := by decide +kernel
theorem dL_size_15 : decode cL_size 15 = .ok (.iconst 0, 1) := by decide +kernel
theorem dL_size_16 : decode cL_size 16 = .ok (.ireturn, 1) := by decide +kernel
theorem dL_number_0 : decode cL_number 0 = .ok (.aload_n 3, 1) := by decide +kernel
theorem dL_number_1 : decode cL_number 1 = .ok (.iconst 0, 1) := by decide +kernel
theorem dL_number_2 : decode cL_number 2 = .ok (.aload_n 0, 1) := by decide +kernel
theorem dL_number_3 : decode cL_number 3 = .ok (.iload_n 1, 1) := by decide +kernel
theorem dL_number_4 : decode cL_number 4 = .ok (.iload_n 2, 1) := by decide +kernel
theorem dL_number_5 : decode cL_number 5 = .ok (.invokevirtual 45, 3) := by decide +kernel
theorem dL_number_8 : decode cL_number 8 = .ok (.i2l, 1) := by decide +kernel
theorem dL_number_9 : decode cL_number 9 = .ok (.lastore, 1) := by decide +kernel
theorem dL_number_10 : decode cL_number 10 = .ok (.goto 7, 3) := by decide +kernel
theorem dL_number_13 : decode cL_number 13 = .ok (.astore 4, 2) := by decide +kernel
theorem dL_number_15 : decode cL_number 15 = .ok (.iconst 1, 1) := by decide +kernel
theorem dL_number_16 : decode cL_number 16 = .ok (.ireturn, 1) := by decide +kernel
theorem dL_number_17 : decode cL_number 17 = .ok (.iconst 0, 1) := by decide +kernel
theorem dL_number_18 : decode cL_number 18 = .ok (.ireturn, 1) := by decide +kernel
theorem dL_total_0 : decode cL_total 0 = .ok (.aload_n 2, 1) := by decide +kernel
theorem dL_total_1 : decode cL_total 1 = .ok (.iconst 0, 1) := by decide +kernel
theorem dL_total_2 : decode cL_total 2 = .ok (.aload_n 0, 1) := by decide +kernel
theorem dL_total_3 : decode cL_total 3 = .ok (.iload_n 1, 1) := by decide +kernel
theorem dL_total_4 : decode cL_total 4 = .ok (.invokevirtual 48, 3) := by decide +kernel
theorem dL_total_7 : decode cL_total 7 = .ok (.i2l, 1) := by decide +kernel
theorem dL_total_8 : decode cL_total 8 = .ok (.lastore, 1) := by decide +kernel
theorem dL_total_9 : decode cL_total 9 = .ok (.goto 6, 3) := by decide +kernel
theorem dL_total_12 : decode cL_total 12 = .ok (.astore_n 3, 1) := by decide +kernel
theorem dL_total_13 : decode cL_total 13 = .ok (.iconst 1, 1) := by decide +kernel
theorem dL_total_14 : decode cL_total 14 = .ok (.ireturn, 1) := by decide +kernel
theorem dL_total_15 : decode cL_total 15 = .ok (.iconst 0, 1) := by decide +kernel
theorem dL_total_16 : decode cL_total 16 = .ok (.ireturn, 1) := by decide +kernel
theorem dL_isSum_0 : decode cL_isSum 0 = .ok (.aload 4, 2) := by decide +kernel
theorem dL_isSum_2 : decode cL_isSum 2 = .ok (.iconst 0, 1) := by decide +kernel
theorem dL_isSum_3 : decode cL_isSum 3 = .ok (.aload_n 0, 1) := by decide +kernel
theorem dL_isSum_4 : decode cL_isSum 4 = .ok (.iload_n 1, 1) := by decide +kernel
theorem dL_isSum_5 : decode cL_isSum 5 = .ok (.iload_n 2, 1) := by decide +kernel
theorem dL_isSum_6 : decode cL_isSum 6 = .ok (.iload_n 3, 1) := by decide +kernel
theorem dL_isSum_7 : decode cL_isSum 7 = .ok (.invokevirtual 51, 3) := by decide +kernel
theorem dL_isSum_10 : decode cL_isSum 10 = .ok (.ifCond .eq 7, 3) := by decide +kernel
theorem dL_isSum_13 : decode cL_isSum 13 = .ok (.lconst 1, 1) := by decide +kernel
theorem dL_isSum_14 : decode cL_isSum 14 = .ok (.goto 4, 3) := by decide +kernel
theorem dL_isSum_17 : decode cL_isSum 17 = .ok (.lconst 0, 1) := by decide +kernel
theorem dL_isSum_18 : decode cL_isSum 18 = .ok (.lastore, 1) := by decide +kernel
theorem dL_isSum_19 : decode cL_isSum 19 = .ok (.goto 11, 3) := by decide +kernel
theorem dL_isSum_22 : decode cL_isSum 22 = .ok (.astore 5, 2) := by decide +kernel
theorem dL_isSum_24 : decode cL_isSum 24 = .ok (.iconst 1, 1) := by decide +kernel
theorem dL_isSum_25 : decode cL_isSum 25 = .ok (.ireturn, 1) := by decide +kernel
theorem dL_isSum_26 : decode cL_isSum 26 = .ok (.astore 5, 2) := by decide +kernel
theorem dL_isSum_28 : decode cL_isSum 28 = .ok (.iconst 2, 1) := by decide +kernel
theorem dL_isSum_29 : decode cL_isSum 29 = .ok (.ireturn, 1) := by decide +kernel
theorem dL_isSum_30 : decode cL_isSum 30 = .ok (.iconst 0, 1) := by decide +kernel
theorem dL_isSum_31 : decode cL_isSum 31 = .ok (.ireturn, 1) := by decide +kernel
theorem dL_sums_0 : decode cL_sums 0 = .ok (.aload_n 3, 1) := by decide +kernel
theorem dL_sums_1 : decode cL_sums 1 = .ok (.iconst 0, 1) := by decide +kernel
theorem dL_sums_2 : decode cL_sums 2 = .ok (.aload_n 0, 1) := by decide +kernel
theorem dL_sums_3 : decode cL_sums 3 = .ok (.iload_n 1, 1) := by decide +kernel
theorem dL_sums_4 : decode cL_sums 4 = .ok (.iload_n 2, 1) := by decide +kernel
theorem dL_sums_5 : decode cL_sums 5 = .ok (.invokevirtual 55, 3) := by decide +kernel
theorem dL_sums_8 : decode cL_sums 8 = .ok (.i2l, 1) := by decide +kernel
theorem dL_sums_9 : decode cL_sums 9 = .ok (.lastore, 1) := by decide +kernel
theorem dL_sums_10 : decode cL_sums 10 = .ok (.goto 7, 3) := by decide +kernel
theorem dL_sums_13 : decode cL_sums 13 = .ok (.astore 4, 2) := by decide +kernel
theorem dL_sums_15 : decode cL_sums 15 = .ok (.iconst 1, 1) := by decide +kernel
theorem dL_sums_16 : decode cL_sums 16 = .ok (.ireturn, 1) := by decide +kernel
theorem dL_sums_17 : decode cL_sums 17 = .ok (.iconst 0, 1) := by decide +kernel
theorem dL_sums_18 : decode cL_sums 18 = .ok (.ireturn, 1) := by decide +kernel
theorem dL_next_0 : decode cL_next 0 = .ok (.aload 4, 2) := by decide +kernel
theorem dL_next_2 : decode cL_next 2 = .ok (.iconst 0, 1) := by decide +kernel
theorem dL_next_3 : decode cL_next 3 = .ok (.aload_n 0, 1) := by decide +kernel
theorem dL_next_4 : decode cL_next 4 = .ok (.iload_n 1, 1) := by decide +kernel
theorem dL_next_5 : decode cL_next 5 = .ok (.iload_n 2, 1) := by decide +kernel
theorem dL_next_6 : decode cL_next 6 = .ok (.iload_n 3, 1) := by decide +kernel
theorem dL_next_7 : decode cL_next 7 = .ok (.invokevirtual 59, 3) := by decide +kernel
theorem dL_next_10 : decode cL_next 10 = .ok (.i2l, 1) := by decide +kernel
theorem dL_next_11 : decode cL_next 11 = .ok (.lastore, 1) := by decide +kernel
theorem dL_next_12 : decode cL_next 12 = .ok (.goto 15, 3) := by decide +kernel
theorem dL_next_15 : decode cL_next 15 = .ok (.astore 5, 2) := by decide +kernel
theorem dL_next_17 : decode cL_next 17 = .ok (.iconst 1, 1) := by decide +kernel
theorem dL_next_18 : decode cL_next 18 = .ok (.ireturn, 1) := by decide +kernel
theorem dL_next_19 : decode cL_next 19 = .ok (.astore 5, 2) := by decide +kernel
theorem dL_next_21 : decode cL_next 21 = .ok (.iconst 2, 1) := by decide +kernel
theorem dL_next_22 : decode cL_next 22 = .ok (.ireturn, 1) := by decide +kernel
theorem dL_next_23 : decode cL_next 23 = .ok (.astore 5, 2) := by decide +kernel
theorem dL_next_25 : decode cL_next 25 = .ok (.iconst 3, 1) := by decide +kernel
theorem dL_next_26 : decode cL_next 26 = .ok (.ireturn, 1) := by decide +kernel
theorem dL_next_27 : decode cL_next 27 = .ok (.iconst 0, 1) := by decide +kernel
theorem dL_next_28 : decode cL_next 28 = .ok (.ireturn, 1) := by decide +kernel
theorem dL_previous_0 : decode cL_previous 0 = .ok (.aload 4, 2) := by decide +kernel
theorem dL_previous_2 : decode cL_previous 2 = .ok (.iconst 0, 1) := by decide +kernel
theorem dL_previous_3 : decode cL_previous 3 = .ok (.aload_n 0, 1) := by decide +kernel
theorem dL_previous_4 : decode cL_previous 4 = .ok (.iload_n 1, 1) := by decide +kernel
theorem dL_previous_5 : decode cL_previous 5 = .ok (.iload_n 2, 1) := by decide +kernel
theorem dL_previous_6 : decode cL_previous 6 = .ok (.iload_n 3, 1) := by decide +kernel
theorem dL_previous_7 : decode cL_previous 7 = .ok (.invokevirtual 65, 3) := by decide +kernel
theorem dL_previous_10 : decode cL_previous 10 = .ok (.i2l, 1) := by decide +kernel
theorem dL_previous_11 : decode cL_previous 11 = .ok (.lastore, 1) := by decide +kernel
theorem dL_previous_12 : decode cL_previous 12 = .ok (.goto 11, 3) := by decide +kernel
theorem dL_previous_15 : decode cL_previous 15 = .ok (.astore 5, 2) := by decide +kernel
theorem dL_previous_17 : decode cL_previous 17 = .ok (.iconst 1, 1) := by decide +kernel
theorem dL_previous_18 : decode cL_previous 18 = .ok (.ireturn, 1) := by decide +kernel
theorem dL_previous_19 : decode cL_previous 19 = .ok (.astore 5, 2) := by decide +kernel
theorem dL_previous_21 : decode cL_previous 21 = .ok (.iconst 2, 1) := by decide +kernel
theorem dL_previous_22 : decode cL_previous 22 = .ok (.ireturn, 1) := by decide +kernel
theorem dL_previous_23 : decode cL_previous 23 = .ok (.iconst 0, 1) := by decide +kernel
theorem dL_previous_24 : decode cL_previous 24 = .ok (.ireturn, 1) := by decide +kernel
theorem dL_gap_0 : decode cL_gap 0 = .ok (.aload 4, 2) := by decide +kernel
theorem dL_gap_2 : decode cL_gap 2 = .ok (.iconst 0, 1) := by decide +kernel
theorem dL_gap_3 : decode cL_gap 3 = .ok (.aload_n 0, 1) := by decide +kernel
theorem dL_gap_4 : decode cL_gap 4 = .ok (.iload_n 1, 1) := by decide +kernel
theorem dL_gap_5 : decode cL_gap 5 = .ok (.iload_n 2, 1) := by decide +kernel
theorem dL_gap_6 : decode cL_gap 6 = .ok (.iload_n 3, 1) := by decide +kernel
theorem dL_gap_7 : decode cL_gap 7 = .ok (.invokevirtual 68, 3) := by decide +kernel
theorem dL_gap_10 : decode cL_gap 10 = .ok (.i2l, 1) := by decide +kernel
theorem dL_gap_11 : decode cL_gap 11 = .ok (.lastore, 1) := by decide +kernel
theorem dL_gap_12 : decode cL_gap 12 = .ok (.goto 15, 3) := by decide +kernel
theorem dL_gap_15 : decode cL_gap 15 = .ok (.astore 5, 2) := by decide +kernel
theorem dL_gap_17 : decode cL_gap 17 = .ok (.iconst 1, 1) := by decide +kernel
theorem dL_gap_18 : decode cL_gap 18 = .ok (.ireturn, 1) := by decide +kernel
theorem dL_gap_19 : decode cL_gap 19 = .ok (.astore 5, 2) := by decide +kernel
theorem dL_gap_21 : decode cL_gap 21 = .ok (.iconst 2, 1) := by decide +kernel
theorem dL_gap_22 : decode cL_gap 22 = .ok (.ireturn, 1) := by decide +kernel
theorem dL_gap_23 : decode cL_gap 23 = .ok (.astore 5, 2) := by decide +kernel
theorem dL_gap_25 : decode cL_gap 25 = .ok (.iconst 3, 1) := by decide +kernel
theorem dL_gap_26 : decode cL_gap 26 = .ok (.ireturn, 1) := by decide +kernel
theorem dL_gap_27 : decode cL_gap 27 = .ok (.iconst 0, 1) := by decide +kernel
theorem dL_gap_28 : decode cL_gap 28 = .ok (.ireturn, 1) := by decide +kernel
theorem dL_lastGap_0 : decode cL_lastGap 0 = .ok (.aload_n 3, 1) := by decide +kernel
theorem dL_lastGap_1 : decode cL_lastGap 1 = .ok (.iconst 0, 1) := by decide +kernel
theorem dL_lastGap_2 : decode cL_lastGap 2 = .ok (.aload_n 0, 1) := by decide +kernel
theorem dL_lastGap_3 : decode cL_lastGap 3 = .ok (.iload_n 1, 1) := by decide +kernel
theorem dL_lastGap_4 : decode cL_lastGap 4 = .ok (.iload_n 2, 1) := by decide +kernel
theorem dL_lastGap_5 : decode cL_lastGap 5 = .ok (.invokevirtual 71, 3) := by decide +kernel
theorem dL_lastGap_8 : decode cL_lastGap 8 = .ok (.i2l, 1) := by decide +kernel
theorem dL_lastGap_9 : decode cL_lastGap 9 = .ok (.lastore, 1) := by decide +kernel
theorem dL_lastGap_10 : decode cL_lastGap 10 = .ok (.goto 11, 3) := by decide +kernel
theorem dL_lastGap_13 : decode cL_lastGap 13 = .ok (.astore 4, 2) := by decide +kernel
theorem dL_lastGap_15 : decode cL_lastGap 15 = .ok (.iconst 1, 1) := by decide +kernel
theorem dL_lastGap_16 : decode cL_lastGap 16 = .ok (.ireturn, 1) := by decide +kernel
theorem dL_lastGap_17 : decode cL_lastGap 17 = .ok (.astore 4, 2) := by decide +kernel
theorem dL_lastGap_19 : decode cL_lastGap 19 = .ok (.iconst 2, 1) := by decide +kernel
theorem dL_lastGap_20 : decode cL_lastGap 20 = .ok (.ireturn, 1) := by decide +kernel
theorem dL_lastGap_21 : decode cL_lastGap 21 = .ok (.iconst 0, 1) := by decide +kernel
theorem dL_lastGap_22 : decode cL_lastGap 22 = .ok (.ireturn, 1) := by decide +kernel
theorem dL_ways_0 : decode cL_ways 0 = .ok (.aload 4, 2) := by decide +kernel
theorem dL_ways_2 : decode cL_ways 2 = .ok (.iconst 0, 1) := by decide +kernel
theorem dL_ways_3 : decode cL_ways 3 = .ok (.aload_n 0, 1) := by decide +kernel
theorem dL_ways_4 : decode cL_ways 4 = .ok (.iload_n 1, 1) := by decide +kernel
theorem dL_ways_5 : decode cL_ways 5 = .ok (.iload_n 2, 1) := by decide +kernel
theorem dL_ways_6 : decode cL_ways 6 = .ok (.iload_n 3, 1) := by decide +kernel
theorem dL_ways_7 : decode cL_ways 7 = .ok (.invokevirtual 74, 3) := by decide +kernel
theorem dL_ways_10 : decode cL_ways 10 = .ok (.lastore, 1) := by decide +kernel
theorem dL_ways_11 : decode cL_ways 11 = .ok (.goto 11, 3) := by decide +kernel
theorem dL_ways_14 : decode cL_ways 14 = .ok (.astore 5, 2) := by decide +kernel
theorem dL_ways_16 : decode cL_ways 16 = .ok (.iconst 1, 1) := by decide +kernel
theorem dL_ways_17 : decode cL_ways 17 = .ok (.ireturn, 1) := by decide +kernel
theorem dL_ways_18 : decode cL_ways 18 = .ok (.astore 5, 2) := by decide +kernel
theorem dL_ways_20 : decode cL_ways 20 = .ok (.iconst 2, 1) := by decide +kernel
theorem dL_ways_21 : decode cL_ways 21 = .ok (.ireturn, 1) := by decide +kernel
theorem dL_ways_22 : decode cL_ways 22 = .ok (.iconst 0, 1) := by decide +kernel
theorem dL_ways_23 : decode cL_ways 23 = .ok (.ireturn, 1) := by decide +kernel
theorem dL_most_0 : decode cL_most 0 = .ok (.aload_n 2, 1) := by decide +kernel
theorem dL_most_1 : decode cL_most 1 = .ok (.iconst 0, 1) := by decide +kernel
theorem dL_most_2 : decode cL_most 2 = .ok (.aload_n 0, 1) := by decide +kernel
theorem dL_most_3 : decode cL_most 3 = .ok (.iload_n 1, 1) := by decide +kernel
theorem dL_most_4 : decode cL_most 4 = .ok (.invokevirtual 78, 3) := by decide +kernel
theorem dL_most_7 : decode cL_most 7 = .ok (.i2l, 1) := by decide +kernel
theorem dL_most_8 : decode cL_most 8 = .ok (.lastore, 1) := by decide +kernel
theorem dL_most_9 : decode cL_most 9 = .ok (.goto 6, 3) := by decide +kernel
theorem dL_most_12 : decode cL_most 12 = .ok (.astore_n 3, 1) := by decide +kernel
theorem dL_most_13 : decode cL_most 13 = .ok (.iconst 1, 1) := by decide +kernel
theorem dL_most_14 : decode cL_most 14 = .ok (.ireturn, 1) := by decide +kernel
theorem dL_most_15 : decode cL_most 15 = .ok (.iconst 0, 1) := by decide +kernel
theorem dL_most_16 : decode cL_most 16 = .ok (.ireturn, 1) := by decide +kernel
theorem dL_fewest_0 : decode cL_fewest 0 = .ok (.aload 4, 2) := by decide +kernel
theorem dL_fewest_2 : decode cL_fewest 2 = .ok (.iconst 0, 1) := by decide +kernel
theorem dL_fewest_3 : decode cL_fewest 3 = .ok (.aload_n 0, 1) := by decide +kernel
theorem dL_fewest_4 : decode cL_fewest 4 = .ok (.iload_n 1, 1) := by decide +kernel
theorem dL_fewest_5 : decode cL_fewest 5 = .ok (.iload_n 2, 1) := by decide +kernel
theorem dL_fewest_6 : decode cL_fewest 6 = .ok (.iload_n 3, 1) := by decide +kernel
theorem dL_fewest_7 : decode cL_fewest 7 = .ok (.invokevirtual 81, 3) := by decide +kernel
theorem dL_fewest_10 : decode cL_fewest 10 = .ok (.i2l, 1) := by decide +kernel
theorem dL_fewest_11 : decode cL_fewest 11 = .ok (.lastore, 1) := by decide +kernel
theorem dL_fewest_12 : decode cL_fewest 12 = .ok (.goto 15, 3) := by decide +kernel
theorem dL_fewest_15 : decode cL_fewest 15 = .ok (.astore 5, 2) := by decide +kernel
theorem dL_fewest_17 : decode cL_fewest 17 = .ok (.iconst 1, 1) := by decide +kernel
theorem dL_fewest_18 : decode cL_fewest 18 = .ok (.ireturn, 1) := by decide +kernel
theorem dL_fewest_19 : decode cL_fewest 19 = .ok (.astore 5, 2) := by decide +kernel
theorem dL_fewest_21 : decode cL_fewest 21 = .ok (.iconst 2, 1) := by decide +kernel
theorem dL_fewest_22 : decode cL_fewest 22 = .ok (.ireturn, 1) := by decide +kernel
theorem dL_fewest_23 : decode cL_fewest 23 = .ok (.astore 5, 2) := by decide +kernel
theorem dL_fewest_25 : decode cL_fewest 25 = .ok (.iconst 3, 1) := by decide +kernel
theorem dL_fewest_26 : decode cL_fewest 26 = .ok (.ireturn, 1) := by decide +kernel
theorem dL_fewest_27 : decode cL_fewest 27 = .ok (.iconst 0, 1) := by decide +kernel
theorem dL_fewest_28 : decode cL_fewest 28 = .ok (.ireturn, 1) := by decide +kernel
theorem dL_withMany_0 : decode cL_withMany 0 = .ok (.aload_n 3, 1) := by decide +kernel
theorem dL_withMany_1 : decode cL_withMany 1 = .ok (.iconst 0, 1) := by decide +kernel
theorem dL_withMany_2 : decode cL_withMany 2 = .ok (.aload_n 0, 1) := by decide +kernel
theorem dL_withMany_3 : decode cL_withMany 3 = .ok (.iload_n 1, 1) := by decide +kernel
theorem dL_withMany_4 : decode cL_withMany 4 = .ok (.iload_n 2, 1) := by decide +kernel
theorem dL_withMany_5 : decode cL_withMany 5 = .ok (.invokevirtual 84, 3) := by decide +kernel
theorem dL_withMany_8 : decode cL_withMany 8 = .ok (.i2l, 1) := by decide +kernel
theorem dL_withMany_9 : decode cL_withMany 9 = .ok (.lastore, 1) := by decide +kernel
theorem dL_withMany_10 : decode cL_withMany 10 = .ok (.goto 11, 3) := by decide +kernel
theorem dL_withMany_13 : decode cL_withMany 13 = .ok (.astore 4, 2) := by decide +kernel
theorem dL_withMany_15 : decode cL_withMany 15 = .ok (.iconst 1, 1) := by decide +kernel
theorem dL_withMany_16 : decode cL_withMany 16 = .ok (.ireturn, 1) := by decide +kernel
theorem dL_withMany_17 : decode cL_withMany 17 = .ok (.astore 4, 2) := by decide +kernel
theorem dL_withMany_19 : decode cL_withMany 19 = .ok (.iconst 2, 1) := by decide +kernel
theorem dL_withMany_20 : decode cL_withMany 20 = .ok (.ireturn, 1) := by decide +kernel
theorem dL_withMany_21 : decode cL_withMany 21 = .ok (.iconst 0, 1) := by decide +kernel
theorem dL_withMany_22 : decode cL_withMany 22 = .ok (.ireturn, 1) := by decide +kernel
theorem dL_fair_0 : decode cL_fair 0 = .ok (.aload_n 2, 1) := by decide +kernel
theorem dL_fair_1 : decode cL_fair 1 = .ok (.iconst 0, 1) := by decide +kernel
theorem dL_fair_2 : decode cL_fair 2 = .ok (.aload_n 0, 1) := by decide +kernel
theorem dL_fair_3 : decode cL_fair 3 = .ok (.iload_n 1, 1) := by decide +kernel
theorem dL_fair_4 : decode cL_fair 4 = .ok (.invokevirtual 87, 3) := by decide +kernel
theorem dL_fair_7 : decode cL_fair 7 = .ok (.i2l, 1) := by decide +kernel
theorem dL_fair_8 : decode cL_fair 8 = .ok (.lastore, 1) := by decide +kernel
theorem dL_fair_9 : decode cL_fair 9 = .ok (.goto 6, 3) := by decide +kernel
theorem dL_fair_12 : decode cL_fair 12 = .ok (.astore_n 3, 1) := by decide +kernel
theorem dL_fair_13 : decode cL_fair 13 = .ok (.iconst 1, 1) := by decide +kernel
theorem dL_fair_14 : decode cL_fair 14 = .ok (.ireturn, 1) := by decide +kernel
theorem dL_fair_15 : decode cL_fair 15 = .ok (.iconst 0, 1) := by decide +kernel
theorem dL_fair_16 : decode cL_fair 16 = .ok (.ireturn, 1) := by decide +kernel
theorem dL_share_0 : decode cL_share 0 = .ok (.aload_n 2, 1) := by decide +kernel
theorem dL_share_1 : decode cL_share 1 = .ok (.iconst 0, 1) := by decide +kernel
theorem dL_share_2 : decode cL_share 2 = .ok (.aload_n 0, 1) := by decide +kernel
theorem dL_share_3 : decode cL_share 3 = .ok (.iload_n 1, 1) := by decide +kernel
theorem dL_share_4 : decode cL_share 4 = .ok (.invokevirtual 90, 3) := by decide +kernel
theorem dL_share_7 : decode cL_share 7 = .ok (.f2d, 1) := by decide +kernel
theorem dL_share_8 : decode cL_share 8 = .ok (.dastore, 1) := by decide +kernel
theorem dL_share_9 : decode cL_share 9 = .ok (.goto 6, 3) := by decide +kernel
theorem dL_share_12 : decode cL_share 12 = .ok (.astore_n 3, 1) := by decide +kernel
theorem dL_share_13 : decode cL_share 13 = .ok (.iconst 1, 1) := by decide +kernel
theorem dL_share_14 : decode cL_share 14 = .ok (.ireturn, 1) := by decide +kernel
theorem dL_share_15 : decode cL_share 15 = .ok (.iconst 0, 1) := by decide +kernel
theorem dL_share_16 : decode cL_share 16 = .ok (.ireturn, 1) := by decide +kernel
theorem dL_meanWays_0 : decode cL_meanWays 0 = .ok (.aload_n 2, 1) := by decide +kernel
theorem dL_meanWays_1 : decode cL_meanWays 1 = .ok (.iconst 0, 1) := by decide +kernel
theorem dL_meanWays_2 : decode cL_meanWays 2 = .ok (.aload_n 0, 1) := by decide +kernel
theorem dL_meanWays_3 : decode cL_meanWays 3 = .ok (.iload_n 1, 1) := by decide +kernel
theorem dL_meanWays_4 : decode cL_meanWays 4 = .ok (.invokevirtual 94, 3) := by decide +kernel
theorem dL_meanWays_7 : decode cL_meanWays 7 = .ok (.dastore, 1) := by decide +kernel
theorem dL_meanWays_8 : decode cL_meanWays 8 = .ok (.goto 6, 3) := by decide +kernel
theorem dL_meanWays_11 : decode cL_meanWays 11 = .ok (.astore_n 3, 1) := by decide +kernel
theorem dL_meanWays_12 : decode cL_meanWays 12 = .ok (.iconst 1, 1) := by decide +kernel
theorem dL_meanWays_13 : decode cL_meanWays 13 = .ok (.ireturn, 1) := by decide +kernel
theorem dL_meanWays_14 : decode cL_meanWays 14 = .ok (.iconst 0, 1) := by decide +kernel
theorem dL_meanWays_15 : decode cL_meanWays 15 = .ok (.ireturn, 1) := by decide +kernel
theorem dL_choice_0 : decode cL_choice 0 = .ok (.aload 4, 2) := by decide +kernel
theorem dL_choice_2 : decode cL_choice 2 = .ok (.iconst 0, 1) := by decide +kernel
theorem dL_choice_3 : decode cL_choice 3 = .ok (.aload_n 0, 1) := by decide +kernel
theorem dL_choice_4 : decode cL_choice 4 = .ok (.iload_n 1, 1) := by decide +kernel
theorem dL_choice_5 : decode cL_choice 5 = .ok (.iload_n 2, 1) := by decide +kernel
theorem dL_choice_6 : decode cL_choice 6 = .ok (.iload_n 3, 1) := by decide +kernel
theorem dL_choice_7 : decode cL_choice 7 = .ok (.invokevirtual 98, 3) := by decide +kernel
theorem dL_choice_10 : decode cL_choice 10 = .ok (.i2l, 1) := by decide +kernel
theorem dL_choice_11 : decode cL_choice 11 = .ok (.lastore, 1) := by decide +kernel
theorem dL_choice_12 : decode cL_choice 12 = .ok (.goto 15, 3) := by decide +kernel
theorem dL_choice_15 : decode cL_choice 15 = .ok (.astore 5, 2) := by decide +kernel
theorem dL_choice_17 : decode cL_choice 17 = .ok (.iconst 1, 1) := by decide +kernel
theorem dL_choice_18 : decode cL_choice 18 = .ok (.ireturn, 1) := by decide +kernel
theorem dL_choice_19 : decode cL_choice 19 = .ok (.astore 5, 2) := by decide +kernel
theorem dL_choice_21 : decode cL_choice 21 = .ok (.iconst 2, 1) := by decide +kernel
theorem dL_choice_22 : decode cL_choice 22 = .ok (.ireturn, 1) := by decide +kernel
theorem dL_choice_23 : decode cL_choice 23 = .ok (.astore 5, 2) := by decide +kernel
theorem dL_choice_25 : decode cL_choice 25 = .ok (.iconst 3, 1) := by decide +kernel
theorem dL_choice_26 : decode cL_choice 26 = .ok (.ireturn, 1) := by decide +kernel
theorem dL_choice_27 : decode cL_choice 27 = .ok (.iconst 0, 1) := by decide +kernel
theorem dL_choice_28 : decode cL_choice 28 = .ok (.ireturn, 1) := by decide +kernel
theorem dL_rank_0 : decode cL_rank 0 = .ok (.aload_n 3, 1) := by decide +kernel
theorem dL_rank_1 : decode cL_rank 1 = .ok (.iconst 0, 1) := by decide +kernel
theorem dL_rank_2 : decode cL_rank 2 = .ok (.aload_n 0, 1) := by decide +kernel
theorem dL_rank_3 : decode cL_rank 3 = .ok (.iload_n 1, 1) := by decide +kernel
theorem dL_rank_4 : decode cL_rank 4 = .ok (.iload_n 2, 1) := by decide +kernel
theorem dL_rank_5 : decode cL_rank 5 = .ok (.invokevirtual 101, 3) := by decide +kernel
theorem dL_rank_8 : decode cL_rank 8 = .ok (.i2l, 1) := by decide +kernel
theorem dL_rank_9 : decode cL_rank 9 = .ok (.lastore, 1) := by decide +kernel
theorem dL_rank_10 : decode cL_rank 10 = .ok (.goto 11, 3) := by decide +kernel
theorem dL_rank_13 : decode cL_rank 13 = .ok (.astore 4, 2) := by decide +kernel
theorem dL_rank_15 : decode cL_rank 15 = .ok (.iconst 1, 1) := by decide +kernel
theorem dL_rank_16 : decode cL_rank 16 = .ok (.ireturn, 1) := by decide +kernel
theorem dL_rank_17 : decode cL_rank 17 = .ok (.astore 4, 2) := by decide +kernel
theorem dL_rank_19 : decode cL_rank 19 = .ok (.iconst 2, 1) := by decide +kernel
theorem dL_rank_20 : decode cL_rank 20 = .ok (.ireturn, 1) := by decide +kernel
theorem dL_rank_21 : decode cL_rank 21 = .ok (.iconst 0, 1) := by decide +kernel
theorem dL_rank_22 : decode cL_rank 22 = .ok (.ireturn, 1) := by decide +kernel
theorem dL_sumOf_0 : decode cL_sumOf 0 = .ok (.aload_n 3, 1) := by decide +kernel
theorem dL_sumOf_1 : decode cL_sumOf 1 = .ok (.iconst 0, 1) := by decide +kernel
theorem dL_sumOf_2 : decode cL_sumOf 2 = .ok (.aload_n 0, 1) := by decide +kernel
theorem dL_sumOf_3 : decode cL_sumOf 3 = .ok (.iload_n 1, 1) := by decide +kernel
theorem dL_sumOf_4 : decode cL_sumOf 4 = .ok (.iload_n 2, 1) := by decide +kernel
theorem dL_sumOf_5 : decode cL_sumOf 5 = .ok (.invokevirtual 104, 3) := by decide +kernel
theorem dL_sumOf_8 : decode cL_sumOf 8 = .ok (.i2l, 1) := by decide +kernel
theorem dL_sumOf_9 : decode cL_sumOf 9 = .ok (.lastore, 1) := by decide +kernel
theorem dL_sumOf_10 : decode cL_sumOf 10 = .ok (.goto 11, 3) := by decide +kernel
theorem dL_sumOf_13 : decode cL_sumOf 13 = .ok (.astore 4, 2) := by decide +kernel
theorem dL_sumOf_15 : decode cL_sumOf 15 = .ok (.iconst 1, 1) := by decide +kernel
theorem dL_sumOf_16 : decode cL_sumOf 16 = .ok (.ireturn, 1) := by decide +kernel
theorem dL_sumOf_17 : decode cL_sumOf 17 = .ok (.astore 4, 2) := by decide +kernel
theorem dL_sumOf_19 : decode cL_sumOf 19 = .ok (.iconst 2, 1) := by decide +kernel
theorem dL_sumOf_20 : decode cL_sumOf 20 = .ok (.ireturn, 1) := by decide +kernel
theorem dL_sumOf_21 : decode cL_sumOf 21 = .ok (.iconst 0, 1) := by decide +kernel
theorem dL_sumOf_22 : decode cL_sumOf 22 = .ok (.ireturn, 1) := by decide +kernel
theorem dL_partSums_0 : decode cL_partSums 0 = .ok (.aload_n 3, 1) := by decide +kernel
theorem dL_partSums_1 : decode cL_partSums 1 = .ok (.iconst 0, 1) := by decide +kernel
theorem dL_partSums_2 : decode cL_partSums 2 = .ok (.aload_n 0, 1) := by decide +kernel
theorem dL_partSums_3 : decode cL_partSums 3 = .ok (.iload_n 1, 1) := by decide +kernel
theorem dL_partSums_4 : decode cL_partSums 4 = .ok (.iload_n 2, 1) := by decide +kernel
theorem dL_partSums_5 : decode cL_partSums 5 = .ok (.invokevirtual 107, 3) := by decide +kernel
theorem dL_partSums_8 : decode cL_partSums 8 = .ok (.i2l, 1) := by decide +kernel
theorem dL_partSums_9 : decode cL_partSums 9 = .ok (.lastore, 1) := by decide +kernel
theorem dL_partSums_10 : decode cL_partSums 10 = .ok (.goto 11, 3) := by decide +kernel
theorem dL_partSums_13 : decode cL_partSums 13 = .ok (.astore 4, 2) := by decide +kernel
theorem dL_partSums_15 : decode cL_partSums 15 = .ok (.iconst 1, 1) := by decide +kernel
theorem dL_partSums_16 : decode cL_partSums 16 = .ok (.ireturn, 1) := by decide +kernel
theorem dL_partSums_17 : decode cL_partSums 17 = .ok (.astore 4, 2) := by decide +kernel
theorem dL_partSums_19 : decode cL_partSums 19 = .ok (.iconst 2, 1) := by decide +kernel
theorem dL_partSums_20 : decode cL_partSums 20 = .ok (.ireturn, 1) := by decide +kernel
theorem dL_partSums_21 : decode cL_partSums 21 = .ok (.iconst 0, 1) := by decide +kernel
theorem dL_partSums_22 : decode cL_partSums 22 = .ok (.ireturn, 1) := by decide +kernel
theorem dL_compare_0 : decode cL_compare 0 = .ok (.aload 4, 2) := by decide +kernel
theorem dL_compare_2 : decode cL_compare 2 = .ok (.iconst 0, 1) := by decide +kernel
theorem dL_compare_3 : decode cL_compare 3 = .ok (.aload_n 0, 1) := by decide +kernel
theorem dL_compare_4 : decode cL_compare 4 = .ok (.iload_n 1, 1) := by decide +kernel
theorem dL_compare_5 : decode cL_compare 5 = .ok (.iload_n 2, 1) := by decide +kernel
theorem dL_compare_6 : decode cL_compare 6 = .ok (.iload_n 3, 1) := by decide +kernel
theorem dL_compare_7 : decode cL_compare 7 = .ok (.invokevirtual 110, 3) := by decide +kernel
theorem dL_compare_10 : decode cL_compare 10 = .ok (.i2l, 1) := by decide +kernel
theorem dL_compare_11 : decode cL_compare 11 = .ok (.lastore, 1) := by decide +kernel
theorem dL_compare_12 : decode cL_compare 12 = .ok (.goto 11, 3) := by decide +kernel
theorem dL_compare_15 : decode cL_compare 15 = .ok (.astore 5, 2) := by decide +kernel
theorem dL_compare_17 : decode cL_compare 17 = .ok (.iconst 1, 1) := by decide +kernel
theorem dL_compare_18 : decode cL_compare 18 = .ok (.ireturn, 1) := by decide +kernel
theorem dL_compare_19 : decode cL_compare 19 = .ok (.astore 5, 2) := by decide +kernel
theorem dL_compare_21 : decode cL_compare 21 = .ok (.iconst 2, 1) := by decide +kernel
theorem dL_compare_22 : decode cL_compare 22 = .ok (.ireturn, 1) := by decide +kernel
theorem dL_compare_23 : decode cL_compare 23 = .ok (.iconst 0, 1) := by decide +kernel
theorem dL_compare_24 : decode cL_compare 24 = .ok (.ireturn, 1) := by decide +kernel
theorem dL_isLike_0 : decode cL_isLike 0 = .ok (.aload_n 3, 1) := by decide +kernel
theorem dL_isLike_1 : decode cL_isLike 1 = .ok (.iconst 0, 1) := by decide +kernel
theorem dL_isLike_2 : decode cL_isLike 2 = .ok (.aload_n 0, 1) := by decide +kernel
theorem dL_isLike_3 : decode cL_isLike 3 = .ok (.iload_n 1, 1) := by decide +kernel
theorem dL_isLike_4 : decode cL_isLike 4 = .ok (.iload_n 2, 1) := by decide +kernel
theorem dL_isLike_5 : decode cL_isLike 5 = .ok (.invokevirtual 114, 3) := by decide +kernel
theorem dL_isLike_8 : decode cL_isLike 8 = .ok (.ifCond .eq 7, 3) := by decide +kernel
theorem dL_isLike_11 : decode cL_isLike 11 = .ok (.lconst 1, 1) := by decide +kernel
theorem dL_isLike_12 : decode cL_isLike 12 = .ok (.goto 4, 3) := by decide +kernel
theorem dL_isLike_15 : decode cL_isLike 15 = .ok (.lconst 0, 1) := by decide +kernel
theorem dL_isLike_16 : decode cL_isLike 16 = .ok (.lastore, 1) := by decide +kernel
theorem dL_isLike_17 : decode cL_isLike 17 = .ok (.goto 7, 3) := by decide +kernel
theorem dL_isLike_20 : decode cL_isLike 20 = .ok (.astore 4, 2) := by decide +kernel
theorem dL_isLike_22 : decode cL_isLike 22 = .ok (.iconst 1, 1) := by decide +kernel
theorem dL_isLike_23 : decode cL_isLike 23 = .ok (.ireturn, 1) := by decide +kernel
theorem dL_isLike_24 : decode cL_isLike 24 = .ok (.iconst 0, 1) := by decide +kernel
theorem dL_isLike_25 : decode cL_isLike 25 = .ok (.ireturn, 1) := by decide +kernel
theorem dL_together_0 : decode cL_together 0 = .ok (.aload 4, 2) := by decide +kernel
theorem dL_together_2 : decode cL_together 2 = .ok (.iconst 0, 1) := by decide +kernel
theorem dL_together_3 : decode cL_together 3 = .ok (.aload_n 0, 1) := by decide +kernel
theorem dL_together_4 : decode cL_together 4 = .ok (.iload_n 1, 1) := by decide +kernel
theorem dL_together_5 : decode cL_together 5 = .ok (.iload_n 2, 1) := by decide +kernel
theorem dL_together_6 : decode cL_together 6 = .ok (.iload_n 3, 1) := by decide +kernel
theorem dL_together_7 : decode cL_together 7 = .ok (.invokevirtual 118, 3) := by decide +kernel
theorem dL_together_10 : decode cL_together 10 = .ok (.i2l, 1) := by decide +kernel
theorem dL_together_11 : decode cL_together 11 = .ok (.lastore, 1) := by decide +kernel
theorem dL_together_12 : decode cL_together 12 = .ok (.goto 11, 3) := by decide +kernel
theorem dL_together_15 : decode cL_together 15 = .ok (.astore 5, 2) := by decide +kernel
theorem dL_together_17 : decode cL_together 17 = .ok (.iconst 1, 1) := by decide +kernel
theorem dL_together_18 : decode cL_together 18 = .ok (.ireturn, 1) := by decide +kernel
theorem dL_together_19 : decode cL_together 19 = .ok (.astore 5, 2) := by decide +kernel
theorem dL_together_21 : decode cL_together 21 = .ok (.iconst 2, 1) := by decide +kernel
theorem dL_together_22 : decode cL_together 22 = .ok (.ireturn, 1) := by decide +kernel
theorem dL_together_23 : decode cL_together 23 = .ok (.iconst 0, 1) := by decide +kernel
theorem dL_together_24 : decode cL_together 24 = .ok (.ireturn, 1) := by decide +kernel
theorem dL_isParted_0 : decode cL_isParted 0 = .ok (.aload_n 3, 1) := by decide +kernel
theorem dL_isParted_1 : decode cL_isParted 1 = .ok (.iconst 0, 1) := by decide +kernel
theorem dL_isParted_2 : decode cL_isParted 2 = .ok (.aload_n 0, 1) := by decide +kernel
theorem dL_isParted_3 : decode cL_isParted 3 = .ok (.iload_n 1, 1) := by decide +kernel
theorem dL_isParted_4 : decode cL_isParted 4 = .ok (.iload_n 2, 1) := by decide +kernel
theorem dL_isParted_5 : decode cL_isParted 5 = .ok (.invokevirtual 121, 3) := by decide +kernel
theorem dL_isParted_8 : decode cL_isParted 8 = .ok (.ifCond .eq 7, 3) := by decide +kernel
theorem dL_isParted_11 : decode cL_isParted 11 = .ok (.lconst 1, 1) := by decide +kernel
theorem dL_isParted_12 : decode cL_isParted 12 = .ok (.goto 4, 3) := by decide +kernel
theorem dL_isParted_15 : decode cL_isParted 15 = .ok (.lconst 0, 1) := by decide +kernel
theorem dL_isParted_16 : decode cL_isParted 16 = .ok (.lastore, 1) := by decide +kernel
theorem dL_isParted_17 : decode cL_isParted 17 = .ok (.goto 11, 3) := by decide +kernel
theorem dL_isParted_20 : decode cL_isParted 20 = .ok (.astore 4, 2) := by decide +kernel
theorem dL_isParted_22 : decode cL_isParted 22 = .ok (.iconst 1, 1) := by decide +kernel
theorem dL_isParted_23 : decode cL_isParted 23 = .ok (.ireturn, 1) := by decide +kernel
theorem dL_isParted_24 : decode cL_isParted 24 = .ok (.astore 4, 2) := by decide +kernel
theorem dL_isParted_26 : decode cL_isParted 26 = .ok (.iconst 2, 1) := by decide +kernel
theorem dL_isParted_27 : decode cL_isParted 27 = .ok (.ireturn, 1) := by decide +kernel
theorem dL_isParted_28 : decode cL_isParted 28 = .ok (.iconst 0, 1) := by decide +kernel
theorem dL_isParted_29 : decode cL_isParted 29 = .ok (.ireturn, 1) := by decide +kernel
theorem dL_isAll_0 : decode cL_isAll 0 = .ok (.aload_n 3, 1) := by decide +kernel
theorem dL_isAll_1 : decode cL_isAll 1 = .ok (.iconst 0, 1) := by decide +kernel
theorem dL_isAll_2 : decode cL_isAll 2 = .ok (.aload_n 0, 1) := by decide +kernel
theorem dL_isAll_3 : decode cL_isAll 3 = .ok (.iload_n 1, 1) := by decide +kernel
theorem dL_isAll_4 : decode cL_isAll 4 = .ok (.iload_n 2, 1) := by decide +kernel
theorem dL_isAll_5 : decode cL_isAll 5 = .ok (.invokevirtual 124, 3) := by decide +kernel
theorem dL_isAll_8 : decode cL_isAll 8 = .ok (.ifCond .eq 7, 3) := by decide +kernel
theorem dL_isAll_11 : decode cL_isAll 11 = .ok (.lconst 1, 1) := by decide +kernel
theorem dL_isAll_12 : decode cL_isAll 12 = .ok (.goto 4, 3) := by decide +kernel
theorem dL_isAll_15 : decode cL_isAll 15 = .ok (.lconst 0, 1) := by decide +kernel
theorem dL_isAll_16 : decode cL_isAll 16 = .ok (.lastore, 1) := by decide +kernel
theorem dL_isAll_17 : decode cL_isAll 17 = .ok (.goto 15, 3) := by decide +kernel
theorem dL_isAll_20 : decode cL_isAll 20 = .ok (.astore 4, 2) := by decide +kernel
theorem dL_isAll_22 : decode cL_isAll 22 = .ok (.iconst 1, 1) := by decide +kernel
theorem dL_isAll_23 : decode cL_isAll 23 = .ok (.ireturn, 1) := by decide +kernel
theorem dL_isAll_24 : decode cL_isAll 24 = .ok (.astore 4, 2) := by decide +kernel
theorem dL_isAll_26 : decode cL_isAll 26 = .ok (.iconst 2, 1) := by decide +kernel
theorem dL_isAll_27 : decode cL_isAll 27 = .ok (.ireturn, 1) := by decide +kernel
theorem dL_isAll_28 : decode cL_isAll 28 = .ok (.astore 4, 2) := by decide +kernel
theorem dL_isAll_30 : decode cL_isAll 30 = .ok (.iconst 3, 1) := by decide +kernel
theorem dL_isAll_31 : decode cL_isAll 31 = .ok (.ireturn, 1) := by decide +kernel
theorem dL_isAll_32 : decode cL_isAll 32 = .ok (.iconst 0, 1) := by decide +kernel
theorem dL_isAll_33 : decode cL_isAll 33 = .ok (.ireturn, 1) := by decide +kernel
theorem dL_isLeft_0 : decode cL_isLeft 0 = .ok (.aload_n 3, 1) := by decide +kernel
theorem dL_isLeft_1 : decode cL_isLeft 1 = .ok (.iconst 0, 1) := by decide +kernel
theorem dL_isLeft_2 : decode cL_isLeft 2 = .ok (.aload_n 0, 1) := by decide +kernel
theorem dL_isLeft_3 : decode cL_isLeft 3 = .ok (.iload_n 1, 1) := by decide +kernel
theorem dL_isLeft_4 : decode cL_isLeft 4 = .ok (.iload_n 2, 1) := by decide +kernel
theorem dL_isLeft_5 : decode cL_isLeft 5 = .ok (.invokevirtual 127, 3) := by decide +kernel
theorem dL_isLeft_8 : decode cL_isLeft 8 = .ok (.ifCond .eq 7, 3) := by decide +kernel
theorem dL_isLeft_11 : decode cL_isLeft 11 = .ok (.lconst 1, 1) := by decide +kernel
theorem dL_isLeft_12 : decode cL_isLeft 12 = .ok (.goto 4, 3) := by decide +kernel
theorem dL_isLeft_15 : decode cL_isLeft 15 = .ok (.lconst 0, 1) := by decide +kernel
theorem dL_isLeft_16 : decode cL_isLeft 16 = .ok (.lastore, 1) := by decide +kernel
theorem dL_isLeft_17 : decode cL_isLeft 17 = .ok (.goto 7, 3) := by decide +kernel
theorem dL_isLeft_20 : decode cL_isLeft 20 = .ok (.astore 4, 2) := by decide +kernel
theorem dL_isLeft_22 : decode cL_isLeft 22 = .ok (.iconst 1, 1) := by decide +kernel
theorem dL_isLeft_23 : decode cL_isLeft 23 = .ok (.ireturn, 1) := by decide +kernel
theorem dL_isLeft_24 : decode cL_isLeft 24 = .ok (.iconst 0, 1) := by decide +kernel
theorem dL_isLeft_25 : decode cL_isLeft 25 = .ok (.ireturn, 1) := by decide +kernel
theorem dL_isOftenAlike_0 : decode cL_isOftenAlike 0 = .ok (.aload_n 2, 1) := by decide +kernel
theorem dL_isOftenAlike_1 : decode cL_isOftenAlike 1 = .ok (.iconst 0, 1) := by decide +kernel
theorem dL_isOftenAlike_2 : decode cL_isOftenAlike 2 = .ok (.aload_n 0, 1) := by decide +kernel
theorem dL_isOftenAlike_3 : decode cL_isOftenAlike 3 = .ok (.iload_n 1, 1) := by decide +kernel
theorem dL_isOftenAlike_4 : decode cL_isOftenAlike 4 = .ok (.invokevirtual 130, 3) := by decide +kernel
theorem dL_isOftenAlike_7 : decode cL_isOftenAlike 7 = .ok (.ifCond .eq 7, 3) := by decide +kernel
theorem dL_isOftenAlike_10 : decode cL_isOftenAlike 10 = .ok (.lconst 1, 1) := by decide +kernel
theorem dL_isOftenAlike_11 : decode cL_isOftenAlike 11 = .ok (.goto 4, 3) := by decide +kernel
theorem dL_isOftenAlike_14 : decode cL_isOftenAlike 14 = .ok (.lconst 0, 1) := by decide +kernel
theorem dL_isOftenAlike_15 : decode cL_isOftenAlike 15 = .ok (.lastore, 1) := by decide +kernel
theorem dL_isOftenAlike_16 : decode cL_isOftenAlike 16 = .ok (.goto 6, 3) := by decide +kernel
theorem dL_isOftenAlike_19 : decode cL_isOftenAlike 19 = .ok (.astore_n 3, 1) := by decide +kernel
theorem dL_isOftenAlike_20 : decode cL_isOftenAlike 20 = .ok (.iconst 1, 1) := by decide +kernel
theorem dL_isOftenAlike_21 : decode cL_isOftenAlike 21 = .ok (.ireturn, 1) := by decide +kernel
theorem dL_isOftenAlike_22 : decode cL_isOftenAlike 22 = .ok (.iconst 0, 1) := by decide +kernel
theorem dL_isOftenAlike_23 : decode cL_isOftenAlike 23 = .ok (.ireturn, 1) := by decide +kernel
