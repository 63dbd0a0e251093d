theorem dX10_init_0 : decode cX10_init 0 = .ok (.aload_n 0, 1) := by decide +kernel
theorem dX10_init_1 : decode cX10_init 1 = .ok (.invokespecial 1, 3) := by decide +kernel
theorem dX10_init_4 : decode cX10_init 4 = .ok (.aload_n 0, 1) := by decide +kernel
theorem dX10_init_5 : decode cX10_init 5 = .ok (.new 7, 3) := by decide +kernel
theorem dX10_init_8 : decode cX10_init 8 = .ok (.dup, 1) := by decide +kernel
theorem dX10_init_9 : decode cX10_init 9 = .ok (.invokespecial 9, 3) := by decide +kernel
theorem dX10_init_12 : decode cX10_init 12 = .ok (.putfield 10, 3) := by decide +kernel
theorem dX10_init_15 : decode cX10_init 15 = .ok (.aload_n 0, 1) := by decide +kernel
theorem dX10_init_16 : decode cX10_init 16 = .ok (.new 7, 3) := by decide +kernel
theorem dX10_init_19 : decode cX10_init 19 = .ok (.dup, 1) := by decide +kernel
theorem dX10_init_20 : decode cX10_init 20 = .ok (.invokespecial 9, 3) := by decide +kernel
theorem dX10_init_23 : decode cX10_init 23 = .ok (.putfield 16, 3) := by decide +kernel
theorem dX10_init_26 : decode cX10_init 26 = .ok (.aload_n 0, 1) := by decide +kernel
theorem dX10_init_27 : decode cX10_init 27 = .ok (.new 7, 3) := by decide +kernel
theorem dX10_init_30 : decode cX10_init 30 = .ok (.dup, 1) := by decide +kernel
theorem dX10_init_31 : decode cX10_init 31 = .ok (.invokespecial 9, 3) := by decide +kernel
theorem dX10_init_34 : decode cX10_init 34 = .ok (.putfield 19, 3) := by decide +kernel
theorem dX10_init_37 : decode cX10_init 37 = .ok (.aload_n 0, 1) := by decide +kernel
theorem dX10_init_38 : decode cX10_init 38 = .ok (.new 22, 3) := by decide +kernel
theorem dX10_init_41 : decode cX10_init 41 = .ok (.dup, 1) := by decide +kernel
theorem dX10_init_42 : decode cX10_init 42 = .ok (.invokespecial 24, 3) := by decide +kernel
theorem dX10_init_45 : decode cX10_init 45 = .ok (.putfield 25, 3) := by decide +kernel
theorem dX10_init_48 : decode cX10_init 48 = .ok (.aload_n 0, 1) := by decide +kernel
theorem dX10_init_49 : decode cX10_init 49 = .ok (.new 22, 3) := by decide +kernel
theorem dX10_init_52 : decode cX10_init 52 = .ok (.dup, 1) := by decide +kernel
theorem dX10_init_53 : decode cX10_init 53 = .ok (.invokespecial 24, 3) := by decide +kernel
theorem dX10_init_56 : decode cX10_init 56 = .ok (.putfield 29, 3) := by decide +kernel
theorem dX10_init_59 : decode cX10_init 59 = .ok (.aload_n 0, 1) := by decide +kernel
theorem dX10_init_60 : decode cX10_init 60 = .ok (.new 32, 3) := by decide +kernel
theorem dX10_init_63 : decode cX10_init 63 = .ok (.dup, 1) := by decide +kernel
theorem dX10_init_64 : decode cX10_init 64 = .ok (.invokespecial 34, 3) := by decide +kernel
theorem dX10_init_67 : decode cX10_init 67 = .ok (.putfield 35, 3) := by decide +kernel
theorem dX10_init_70 : decode cX10_init 70 = .ok (.aload_n 0, 1) := by decide +kernel
theorem dX10_init_71 : decode cX10_init 71 = .ok (.new 39, 3) := by decide +kernel
theorem dX10_init_74 : decode cX10_init 74 = .ok (.dup, 1) := by decide +kernel
theorem dX10_init_75 : decode cX10_init 75 = .ok (.invokespecial 41, 3) := by decide +kernel
theorem dX10_init_78 : decode cX10_init 78 = .ok (.putfield 42, 3) := by decide +kernel
theorem dX10_init_81 : decode cX10_init 81 = .ok (.aload_n 0, 1) := by decide +kernel
theorem dX10_init_82 : decode cX10_init 82 = .ok (.new 46, 3) := by decide +kernel
theorem dX10_init_85 : decode cX10_init 85 = .ok (.dup, 1) := by decide +kernel
theorem dX10_init_86 : decode cX10_init 86 = .ok (.invokespecial 48, 3) := by decide +kernel
theorem dX10_init_89 : decode cX10_init 89 = .ok (.putfield 49, 3) := by decide +kernel
theorem dX10_init_92 : decode cX10_init 92 = .ok (.aload_n 0, 1) := by decide +kernel
theorem dX10_init_93 : decode cX10_init 93 = .ok (.new 53, 3) := by decide +kernel
theorem dX10_init_96 : decode cX10_init 96 = .ok (.dup, 1) := by decide +kernel
theorem dX10_init_97 : decode cX10_init 97 = .ok (.invokespecial 55, 3) := by decide +kernel
theorem dX10_init_100 : decode cX10_init 100 = .ok (.putfield 56, 3) := by decide +kernel
theorem dX10_init_103 : decode cX10_init 103 = .ok (.return_, 1) := by decide +kernel
theorem dX10_add_0 : decode cX10_add 0 = .ok (.aload_n 0, 1) := by decide +kernel
theorem dX10_add_1 : decode cX10_add 1 = .ok (.iload_n 1, 1) := by decide +kernel
theorem dX10_add_2 : decode cX10_add 2 = .ok (.invokevirtual 60, 3) := by decide +kernel
theorem dX10_add_5 : decode cX10_add 5 = .ok (.astore_n 3, 1) := by decide +kernel
theorem dX10_add_6 : decode cX10_add 6 = .ok (.aload_n 0, 1) := by decide +kernel
theorem dX10_add_7 : decode cX10_add 7 = .ok (.aload_n 3, 1) := by decide +kernel
theorem dX10_add_8 : decode cX10_add 8 = .ok (.aload_n 3, 1) := by decide +kernel
theorem dX10_add_9 : decode cX10_add 9 = .ok (.getfield 64, 3) := by decide +kernel
theorem dX10_add_12 : decode cX10_add 12 = .ok (.iload_n 2, 1) := by decide +kernel
theorem dX10_add_13 : decode cX10_add 13 = .ok (.invokevirtual 68, 3) := by decide +kernel
theorem dX10_add_16 : decode cX10_add 16 = .ok (.ireturn, 1) := by decide +kernel
theorem dX10_insert_0 : decode cX10_insert 0 = .ok (.aload_n 0, 1) := by decide +kernel
theorem dX10_insert_1 : decode cX10_insert 1 = .ok (.iload_n 1, 1) := by decide +kernel
theorem dX10_insert_2 : decode cX10_insert 2 = .ok (.invokevirtual 60, 3) := by decide +kernel
theorem dX10_insert_5 : decode cX10_insert 5 = .ok (.astore 4, 2) := by decide +kernel
theorem dX10_insert_7 : decode cX10_insert 7 = .ok (.iload_n 2, 1) := by decide +kernel
theorem dX10_insert_8 : decode cX10_insert 8 = .ok (.ifCond .lt 12, 3) := by decide +kernel
theorem dX10_insert_11 : decode cX10_insert 11 = .ok (.iload_n 2, 1) := by decide +kernel
theorem dX10_insert_12 : decode cX10_insert 12 = .ok (.aload 4, 2) := by decide +kernel
theorem dX10_insert_14 : decode cX10_insert 14 = .ok (.getfield 64, 3) := by decide +kernel
theorem dX10_insert_17 : decode cX10_insert 17 = .ok (.if_icmp .le 13, 3) := by decide +kernel
theorem dX10_insert_20 : decode cX10_insert 20 = .ok (.new 72, 3) := by decide +kernel
theorem dX10_insert_23 : decode cX10_insert 23 = .ok (.dup, 1) := by decide +kernel
theorem dX10_insert_24 : decode cX10_insert 24 = .ok (.ldc 74, 2) := by decide +kernel
theorem dX10_insert_26 : decode cX10_insert 26 = .ok (.invokespecial 76, 3) := by decide +kernel
theorem dX10_insert_29 : decode cX10_insert 29 = .ok (.athrow, 1) := by decide +kernel
theorem dX10_insert_30 : decode cX10_insert 30 = .ok (.aload_n 0, 1) := by decide +kernel
theorem dX10_insert_31 : decode cX10_insert 31 = .ok (.aload 4, 2) := by decide +kernel
theorem dX10_insert_33 : decode cX10_insert 33 = .ok (.iload_n 2, 1) := by decide +kernel
theorem dX10_insert_34 : decode cX10_insert 34 = .ok (.iload_n 3, 1) := by decide +kernel
theorem dX10_insert_35 : decode cX10_insert 35 = .ok (.invokevirtual 68, 3) := by decide +kernel
theorem dX10_insert_38 : decode cX10_insert 38 = .ok (.ireturn, 1) := by decide +kernel
theorem dX10_takeOut_0 : decode cX10_takeOut 0 = .ok (.aload_n 0, 1) := by decide +kernel
theorem dX10_takeOut_1 : decode cX10_takeOut 1 = .ok (.iload_n 1, 1) := by decide +kernel
theorem dX10_takeOut_2 : decode cX10_takeOut 2 = .ok (.invokevirtual 60, 3) := by decide +kernel
theorem dX10_takeOut_5 : decode cX10_takeOut 5 = .ok (.astore_n 3, 1) := by decide +kernel
theorem dX10_takeOut_6 : decode cX10_takeOut 6 = .ok (.aload_n 3, 1) := by decide +kernel
theorem dX10_takeOut_7 : decode cX10_takeOut 7 = .ok (.iload_n 2, 1) := by decide +kernel
theorem dX10_takeOut_8 : decode cX10_takeOut 8 = .ok (.invokestatic 79, 3) := by decide +kernel
theorem dX10_takeOut_11 : decode cX10_takeOut 11 = .ok (.aload_n 0, 1) := by decide +kernel
theorem dX10_takeOut_12 : decode cX10_takeOut 12 = .ok (.aload_n 3, 1) := by decide +kernel
theorem dX10_takeOut_13 : decode cX10_takeOut 13 = .ok (.invokevirtual 83, 3) := by decide +kernel
theorem dX10_takeOut_16 : decode cX10_takeOut 16 = .ok (.istore 4, 2) := by decide +kernel
theorem dX10_takeOut_18 : decode cX10_takeOut 18 = .ok (.aload_n 3, 1) := by decide +kernel
theorem dX10_takeOut_19 : decode cX10_takeOut 19 = .ok (.iload_n 2, 1) := by decide +kernel
theorem dX10_takeOut_20 : decode cX10_takeOut 20 = .ok (.invokevirtual 87, 3) := by decide +kernel
theorem dX10_takeOut_23 : decode cX10_takeOut 23 = .ok (.pop, 1) := by decide +kernel
theorem dX10_takeOut_24 : decode cX10_takeOut 24 = .ok (.iload 4, 2) := by decide +kernel
theorem dX10_takeOut_26 : decode cX10_takeOut 26 = .ok (.aload_n 0, 1) := by decide +kernel
theorem dX10_takeOut_27 : decode cX10_takeOut 27 = .ok (.aload_n 3, 1) := by decide +kernel
theorem dX10_takeOut_28 : decode cX10_takeOut 28 = .ok (.invokevirtual 83, 3) := by decide +kernel
theorem dX10_takeOut_31 : decode cX10_takeOut 31 = .ok (.isub, 1) := by decide +kernel
theorem dX10_takeOut_32 : decode cX10_takeOut 32 = .ok (.ireturn, 1) := by decide +kernel
theorem dX10_exchange_0 : decode cX10_exchange 0 = .ok (.aload_n 0, 1) := by decide +kernel
theorem dX10_exchange_1 : decode cX10_exchange 1 = .ok (.iload_n 1, 1) := by decide +kernel
theorem dX10_exchange_2 : decode cX10_exchange 2 = .ok (.invokevirtual 60, 3) := by decide +kernel
theorem dX10_exchange_5 : decode cX10_exchange 5 = .ok (.astore 4, 2) := by decide +kernel
theorem dX10_exchange_7 : decode cX10_exchange 7 = .ok (.aload 4, 2) := by decide +kernel
theorem dX10_exchange_9 : decode cX10_exchange 9 = .ok (.iload_n 2, 1) := by decide +kernel
theorem dX10_exchange_10 : decode cX10_exchange 10 = .ok (.invokestatic 79, 3) := by decide +kernel
theorem dX10_exchange_13 : decode cX10_exchange 13 = .ok (.iload_n 3, 1) := by decide +kernel
theorem dX10_exchange_14 : decode cX10_exchange 14 = .ok (.invokestatic 91, 3) := by decide +kernel
theorem dX10_exchange_17 : decode cX10_exchange 17 = .ok (.aload 4, 2) := by decide +kernel
theorem dX10_exchange_19 : decode cX10_exchange 19 = .ok (.iload_n 2, 1) := by decide +kernel
theorem dX10_exchange_20 : decode cX10_exchange 20 = .ok (.invokevirtual 95, 3) := by decide +kernel
theorem dX10_exchange_23 : decode cX10_exchange 23 = .ok (.istore 5, 2) := by decide +kernel
theorem dX10_exchange_25 : decode cX10_exchange 25 = .ok (.aload 4, 2) := by decide +kernel
theorem dX10_exchange_27 : decode cX10_exchange 27 = .ok (.getfield 64, 3) := by decide +kernel
theorem dX10_exchange_30 : decode cX10_exchange 30 = .ok (.aload 4, 2) := by decide +kernel
theorem dX10_exchange_32 : decode cX10_exchange 32 = .ok (.invokevirtual 98, 3) := by decide +kernel
theorem dX10_exchange_35 : decode cX10_exchange 35 = .ok (.iload 5, 2) := by decide +kernel
theorem dX10_exchange_37 : decode cX10_exchange 37 = .ok (.isub, 1) := by decide +kernel
theorem dX10_exchange_38 : decode cX10_exchange 38 = .ok (.iload_n 3, 1) := by decide +kernel
theorem dX10_exchange_39 : decode cX10_exchange 39 = .ok (.iadd, 1) := by decide +kernel
theorem dX10_exchange_40 : decode cX10_exchange 40 = .ok (.invokestatic 102, 3) := by decide +kernel
theorem dX10_exchange_43 : decode cX10_exchange 43 = .ok (.aload 4, 2) := by decide +kernel
theorem dX10_exchange_45 : decode cX10_exchange 45 = .ok (.iload_n 2, 1) := by decide +kernel
theorem dX10_exchange_46 : decode cX10_exchange 46 = .ok (.iload_n 3, 1) := by decide +kernel
theorem dX10_exchange_47 : decode cX10_exchange 47 = .ok (.invokevirtual 106, 3) := by decide +kernel
theorem dX10_exchange_50 : decode cX10_exchange 50 = .ok (.iload 5, 2) := by decide +kernel
theorem dX10_exchange_52 : decode cX10_exchange 52 = .ok (.ireturn, 1) := by decide +kernel
theorem dX10_move_0 : decode cX10_move 0 = .ok (.aload_n 0, 1) := by decide +kernel
theorem dX10_move_1 : decode cX10_move 1 = .ok (.iload_n 1, 1) := by decide +kernel
theorem dX10_move_2 : decode cX10_move 2 = .ok (.invokevirtual 60, 3) := by decide +kernel
theorem dX10_move_5 : decode cX10_move 5 = .ok (.astore 4, 2) := by decide +kernel
theorem dX10_move_7 : decode cX10_move 7 = .ok (.aload 4, 2) := by decide +kernel
theorem dX10_move_9 : decode cX10_move 9 = .ok (.iload_n 2, 1) := by decide +kernel
theorem dX10_move_10 : decode cX10_move 10 = .ok (.invokestatic 79, 3) := by decide +kernel
theorem dX10_move_13 : decode cX10_move 13 = .ok (.aload 4, 2) := by decide +kernel
theorem dX10_move_15 : decode cX10_move 15 = .ok (.iload_n 3, 1) := by decide +kernel
theorem dX10_move_16 : decode cX10_move 16 = .ok (.invokestatic 79, 3) := by decide +kernel
theorem dX10_move_19 : decode cX10_move 19 = .ok (.aload 4, 2) := by decide +kernel
theorem dX10_move_21 : decode cX10_move 21 = .ok (.iload_n 2, 1) := by decide +kernel
theorem dX10_move_22 : decode cX10_move 22 = .ok (.invokevirtual 87, 3) := by decide +kernel
theorem dX10_move_25 : decode cX10_move 25 = .ok (.istore 5, 2) := by decide +kernel
theorem dX10_move_27 : decode cX10_move 27 = .ok (.aload 4, 2) := by decide +kernel
theorem dX10_move_29 : decode cX10_move 29 = .ok (.iload_n 3, 1) := by decide +kernel
theorem dX10_move_30 : decode cX10_move 30 = .ok (.iload 5, 2) := by decide +kernel
theorem dX10_move_32 : decode cX10_move 32 = .ok (.invokevirtual 109, 3) := by decide +kernel
theorem dX10_move_35 : decode cX10_move 35 = .ok (.iload 5, 2) := by decide +kernel
theorem dX10_move_37 : decode cX10_move 37 = .ok (.ireturn, 1) := by decide +kernel
theorem dX10_sort_0 : decode cX10_sort 0 = .ok (.aload_n 0, 1) := by decide +kernel
theorem dX10_sort_1 : decode cX10_sort 1 = .ok (.iload_n 1, 1) := by decide +kernel
theorem dX10_sort_2 : decode cX10_sort 2 = .ok (.invokevirtual 60, 3) := by decide +kernel
theorem dX10_sort_5 : decode cX10_sort 5 = .ok (.astore_n 2, 1) := by decide +kernel
theorem dX10_sort_6 : decode cX10_sort 6 = .ok (.aload_n 0, 1) := by decide +kernel
theorem dX10_sort_7 : decode cX10_sort 7 = .ok (.getfield 19, 3) := by decide +kernel
theorem dX10_sort_10 : decode cX10_sort 10 = .ok (.aload_n 2, 1) := by decide +kernel
theorem dX10_sort_11 : decode cX10_sort 11 = .ok (.invokevirtual 112, 3) := by decide +kernel
theorem dX10_sort_14 : decode cX10_sort 14 = .ok (.aload_n 2, 1) := by decide +kernel
theorem dX10_sort_15 : decode cX10_sort 15 = .ok (.invokevirtual 116, 3) := by decide +kernel
theorem dX10_sort_18 : decode cX10_sort 18 = .ok (.iconst 0, 1) := by decide +kernel
theorem dX10_sort_19 : decode cX10_sort 19 = .ok (.istore_n 3, 1) := by decide +kernel
theorem dX10_sort_20 : decode cX10_sort 20 = .ok (.iconst 0, 1) := by decide +kernel
theorem dX10_sort_21 : decode cX10_sort 21 = .ok (.istore 4, 2) := by decide +kernel
theorem dX10_sort_23 : decode cX10_sort 23 = .ok (.iload 4, 2) := by decide +kernel
theorem dX10_sort_25 : decode cX10_sort 25 = .ok (.aload_n 2, 1) := by decide +kernel
theorem dX10_sort_26 : decode cX10_sort 26 = .ok (.getfield 64, 3) := by decide +kernel
theorem dX10_sort_29 : decode cX10_sort 29 = .ok (.if_icmp .ge 30, 3) := by decide +kernel
theorem dX10_sort_32 : decode cX10_sort 32 = .ok (.aload_n 2, 1) := by decide +kernel
theorem dX10_sort_33 : decode cX10_sort 33 = .ok (.iload 4, 2) := by decide +kernel
theorem dX10_sort_35 : decode cX10_sort 35 = .ok (.invokevirtual 95, 3) := by decide +kernel
theorem dX10_sort_38 : decode cX10_sort 38 = .ok (.aload_n 0, 1) := by decide +kernel
theorem dX10_sort_39 : decode cX10_sort 39 = .ok (.getfield 19, 3) := by decide +kernel
theorem dX10_sort_42 : decode cX10_sort 42 = .ok (.iload 4, 2) := by decide +kernel
theorem dX10_sort_44 : decode cX10_sort 44 = .ok (.invokevirtual 95, 3) := by decide +kernel
theorem dX10_sort_47 : decode cX10_sort 47 = .ok (.if_icmp .eq 6, 3) := by decide +kernel
theorem dX10_sort_50 : decode cX10_sort 50 = .ok (.iinc 3 1, 3) := by decide +kernel
theorem dX10_sort_53 : decode cX10_sort 53 = .ok (.iinc 4 1, 3) := by decide +kernel
theorem dX10_sort_56 : decode cX10_sort 56 = .ok (.goto (-33), 3) := by decide +kernel
theorem dX10_sort_59 : decode cX10_sort 59 = .ok (.iload_n 3, 1) := by decide +kernel
theorem dX10_sort_60 : decode cX10_sort 60 = .ok (.ireturn, 1) := by decide +kernel
theorem dX10_clear_0 : decode cX10_clear 0 = .ok (.aload_n 0, 1) := by decide +kernel
theorem dX10_clear_1 : decode cX10_clear 1 = .ok (.iload_n 1, 1) := by decide +kernel
theorem dX10_clear_2 : decode cX10_clear 2 = .ok (.invokevirtual 60, 3) := by decide +kernel
theorem dX10_clear_5 : decode cX10_clear 5 = .ok (.astore_n 2, 1) := by decide +kernel
theorem dX10_clear_6 : decode cX10_clear 6 = .ok (.aload_n 2, 1) := by decide +kernel
theorem dX10_clear_7 : decode cX10_clear 7 = .ok (.getfield 64, 3) := by decide +kernel
theorem dX10_clear_10 : decode cX10_clear 10 = .ok (.istore_n 3, 1) := by decide +kernel
theorem dX10_clear_11 : decode cX10_clear 11 = .ok (.aload_n 2, 1) := by decide +kernel
theorem dX10_clear_12 : decode cX10_clear 12 = .ok (.invokevirtual 119, 3) := by decide +kernel
theorem dX10_clear_15 : decode cX10_clear 15 = .ok (.iload_n 3, 1) := by decide +kernel
theorem dX10_clear_16 : decode cX10_clear 16 = .ok (.ireturn, 1) := by decide +kernel
theorem dX10_join_0 : decode cX10_join 0 = .ok (.aload_n 0, 1) := by decide +kernel
theorem dX10_join_1 : decode cX10_join 1 = .ok (.iload_n 1, 1) := by decide +kernel
theorem dX10_join_2 : decode cX10_join 2 = .ok (.invokevirtual 60, 3) := by decide +kernel
theorem dX10_join_5 : decode cX10_join 5 = .ok (.astore 4, 2) := by decide +kernel
theorem dX10_join_7 : decode cX10_join 7 = .ok (.aload_n 0, 1) := by decide +kernel
theorem dX10_join_8 : decode cX10_join 8 = .ok (.iload_n 2, 1) := by decide +kernel
theorem dX10_join_9 : decode cX10_join 9 = .ok (.invokevirtual 60, 3) := by decide +kernel
theorem dX10_join_12 : decode cX10_join 12 = .ok (.astore 5, 2) := by decide +kernel
theorem dX10_join_14 : decode cX10_join 14 = .ok (.aload_n 0, 1) := by decide +kernel
theorem dX10_join_15 : decode cX10_join 15 = .ok (.iload_n 3, 1) := by decide +kernel
theorem dX10_join_16 : decode cX10_join 16 = .ok (.invokevirtual 60, 3) := by decide +kernel
theorem dX10_join_19 : decode cX10_join 19 = .ok (.astore 6, 2) := by decide +kernel
theorem dX10_join_21 : decode cX10_join 21 = .ok (.aload 4, 2) := by decide +kernel
theorem dX10_join_23 : decode cX10_join 23 = .ok (.getfield 64, 3) := by decide +kernel
theorem dX10_join_26 : decode cX10_join 26 = .ok (.aload 5, 2) := by decide +kernel
theorem dX10_join_28 : decode cX10_join 28 = .ok (.getfield 64, 3) := by decide +kernel
theorem dX10_join_31 : decode cX10_join 31 = .ok (.iadd, 1) := by decide +kernel
theorem dX10_join_32 : decode cX10_join 32 = .ok (.aload 4, 2) := by decide +kernel
theorem dX10_join_34 : decode cX10_join 34 = .ok (.invokevirtual 98, 3) := by decide +kernel
theorem dX10_join_37 : decode cX10_join 37 = .ok (.aload 5, 2) := by decide +kernel
theorem dX10_join_39 : decode cX10_join 39 = .ok (.invokevirtual 98, 3) := by decide +kernel
theorem dX10_join_42 : decode cX10_join 42 = .ok (.iadd, 1) := by decide +kernel
theorem dX10_join_43 : decode cX10_join 43 = .ok (.invokestatic 102, 3) := by decide +kernel
theorem dX10_join_46 : decode cX10_join 46 = .ok (.aload_n 0, 1) := by decide +kernel
theorem dX10_join_47 : decode cX10_join 47 = .ok (.getfield 19, 3) := by decide +kernel
theorem dX10_join_50 : decode cX10_join 50 = .ok (.aload 4, 2) := by decide +kernel
theorem dX10_join_52 : decode cX10_join 52 = .ok (.invokevirtual 112, 3) := by decide +kernel
theorem dX10_join_55 : decode cX10_join 55 = .ok (.aload_n 0, 1) := by decide +kernel
theorem dX10_join_56 : decode cX10_join 56 = .ok (.getfield 19, 3) := by decide +kernel
theorem dX10_join_59 : decode cX10_join 59 = .ok (.aload 5, 2) := by decide +kernel
theorem dX10_join_61 : decode cX10_join 61 = .ok (.invokevirtual 122, 3) := by decide +kernel
theorem dX10_join_64 : decode cX10_join 64 = .ok (.aload 6, 2) := by decide +kernel
theorem dX10_join_66 : decode cX10_join 66 = .ok (.aload_n 0, 1) := by decide +kernel
theorem dX10_join_67 : decode cX10_join 67 = .ok (.getfield 19, 3) := by decide +kernel
theorem dX10_join_70 : decode cX10_join 70 = .ok (.invokevirtual 112, 3) := by decide +kernel
theorem dX10_join_73 : decode cX10_join 73 = .ok (.aload_n 0, 1) := by decide +kernel
theorem dX10_join_74 : decode cX10_join 74 = .ok (.aload 6, 2) := by decide +kernel
theorem dX10_join_76 : decode cX10_join 76 = .ok (.invokevirtual 83, 3) := by decide +kernel
theorem dX10_join_79 : decode cX10_join 79 = .ok (.ireturn, 1) := by decide +kernel
theorem dX10_size_0 : decode cX10_size 0 = .ok (.aload_n 0, 1) := by decide +kernel
theorem dX10_size_1 : decode cX10_size 1 = .ok (.iload_n 1, 1) := by decide +kernel
theorem dX10_size_2 : decode cX10_size 2 = .ok (.invokevirtual 60, 3) := by decide +kernel
theorem dX10_size_5 : decode cX10_size 5 = .ok (.getfield 64, 3) := by decide +kernel
theorem dX10_size_8 : decode cX10_size 8 = .ok (.ireturn, 1) := by decide +kernel
theorem dX10_number_0 : decode cX10_number 0 = .ok (.aload_n 0, 1) := by decide +kernel
theorem dX10_number_1 : decode cX10_number 1 = .ok (.iload_n 1, 1) := by decide +kernel
theorem dX10_number_2 : decode cX10_number 2 = .ok (.invokevirtual 60, 3) := by decide +kernel
theorem dX10_number_5 : decode cX10_number 5 = .ok (.astore_n 3, 1) := by decide +kernel
theorem dX10_number_6 : decode cX10_number 6 = .ok (.aload_n 3, 1) := by decide +kernel
theorem dX10_number_7 : decode cX10_number 7 = .ok (.iload_n 2, 1) := by decide +kernel
theorem dX10_number_8 : decode cX10_number 8 = .ok (.invokestatic 79, 3) := by decide +kernel
theorem dX10_number_11 : decode cX10_number 11 = .ok (.aload_n 3, 1) := by decide +kernel
theorem dX10_number_12 : decode cX10_number 12 = .ok (.iload_n 2, 1) := by decide +kernel
theorem dX10_number_13 : decode cX10_number 13 = .ok (.invokevirtual 95, 3) := by decide +kernel
theorem dX10_number_16 : decode cX10_number 16 = .ok (.ireturn, 1) := by decide +kernel
theorem dX10_total_0 : decode cX10_total 0 = .ok (.aload_n 0, 1) := by decide +kernel
theorem dX10_total_1 : decode cX10_total 1 = .ok (.iload_n 1, 1) := by decide +kernel
theorem dX10_total_2 : decode cX10_total 2 = .ok (.invokevirtual 60, 3) := by decide +kernel
theorem dX10_total_5 : decode cX10_total 5 = .ok (.invokevirtual 98, 3) := by decide +kernel
theorem dX10_total_8 : decode cX10_total 8 = .ok (.ireturn, 1) := by decide +kernel
theorem dX10_isSum_0 : decode cX10_isSum 0 = .ok (.aload_n 0, 1) := by decide +kernel
theorem dX10_isSum_1 : decode cX10_isSum 1 = .ok (.iload_n 1, 1) := by decide +kernel
theorem dX10_isSum_2 : decode cX10_isSum 2 = .ok (.invokevirtual 60, 3) := by decide +kernel
theorem dX10_isSum_5 : decode cX10_isSum 5 = .ok (.astore 4, 2) := by decide +kernel
theorem dX10_isSum_7 : decode cX10_isSum 7 = .ok (.iload_n 2, 1) := by decide +kernel
theorem dX10_isSum_8 : decode cX10_isSum 8 = .ok (.invokestatic 125, 3) := by decide +kernel
theorem dX10_isSum_11 : decode cX10_isSum 11 = .ok (.aload_n 0, 1) := by decide +kernel
theorem dX10_isSum_12 : decode cX10_isSum 12 = .ok (.aload 4, 2) := by decide +kernel
theorem dX10_isSum_14 : decode cX10_isSum 14 = .ok (.iload_n 3, 1) := by decide +kernel
theorem dX10_isSum_15 : decode cX10_isSum 15 = .ok (.invokevirtual 128, 3) := by decide +kernel
theorem dX10_isSum_18 : decode cX10_isSum 18 = .ok (.iload_n 2, 1) := by decide +kernel
theorem dX10_isSum_19 : decode cX10_isSum 19 = .ok (.invokevirtual 132, 3) := by decide +kernel
theorem dX10_isSum_22 : decode cX10_isSum 22 = .ok (.ireturn, 1) := by decide +kernel
theorem dX10_sums_0 : decode cX10_sums 0 = .ok (.aload_n 0, 1) := by decide +kernel
theorem dX10_sums_1 : decode cX10_sums 1 = .ok (.aload_n 0, 1) := by decide +kernel
theorem dX10_sums_2 : decode cX10_sums 2 = .ok (.iload_n 1, 1) := by decide +kernel
theorem dX10_sums_3 : decode cX10_sums 3 = .ok (.invokevirtual 60, 3) := by decide +kernel
theorem dX10_sums_6 : decode cX10_sums 6 = .ok (.iload_n 2, 1) := by decide +kernel
theorem dX10_sums_7 : decode cX10_sums 7 = .ok (.invokevirtual 128, 3) := by decide +kernel
theorem dX10_sums_10 : decode cX10_sums 10 = .ok (.invokevirtual 138, 3) := by decide +kernel
theorem dX10_sums_13 : decode cX10_sums 13 = .ok (.ireturn, 1) := by decide +kernel
theorem dX10_next_0 : decode cX10_next 0 = .ok (.aload_n 0, 1) := by decide +kernel
theorem dX10_next_1 : decode cX10_next 1 = .ok (.iload_n 1, 1) := by decide +kernel
theorem dX10_next_2 : decode cX10_next 2 = .ok (.invokevirtual 60, 3) := by decide +kernel
theorem dX10_next_5 : decode cX10_next 5 = .ok (.astore 4, 2) := by decide +kernel
theorem dX10_next_7 : decode cX10_next 7 = .ok (.iload_n 2, 1) := by decide +kernel
theorem dX10_next_8 : decode cX10_next 8 = .ok (.invokestatic 125, 3) := by decide +kernel
theorem dX10_next_11 : decode cX10_next 11 = .ok (.iconst 1, 1) := by decide +kernel
theorem dX10_next_12 : decode cX10_next 12 = .ok (.aload_n 0, 1) := by decide +kernel
theorem dX10_next_13 : decode cX10_next 13 = .ok (.aload 4, 2) := by decide +kernel
theorem dX10_next_15 : decode cX10_next 15 = .ok (.iload_n 3, 1) := by decide +kernel
theorem dX10_next_16 : decode cX10_next 16 = .ok (.invokevirtual 128, 3) := by decide +kernel
theorem dX10_next_19 : decode cX10_next 19 = .ok (.iload_n 2, 1) := by decide +kernel
theorem dX10_next_20 : decode cX10_next 20 = .ok (.invokestatic 141, 3) := by decide +kernel
theorem dX10_next_23 : decode cX10_next 23 = .ok (.ireturn, 1) := by decide +kernel
theorem dX10_previous_0 : decode cX10_previous 0 = .ok (.aload_n 0, 1) := by decide +kernel
theorem dX10_previous_1 : decode cX10_previous 1 = .ok (.iload_n 1, 1) := by decide +kernel
theorem dX10_previous_2 : decode cX10_previous 2 = .ok (.invokevirtual 60, 3) := by decide +kernel
theorem dX10_previous_5 : decode cX10_previous 5 = .ok (.astore 4, 2) := by decide +kernel
theorem dX10_previous_7 : decode cX10_previous 7 = .ok (.iload_n 2, 1) := by decide +kernel
theorem dX10_previous_8 : decode cX10_previous 8 = .ok (.invokestatic 125, 3) := by decide +kernel
theorem dX10_previous_11 : decode cX10_previous 11 = .ok (.aload_n 0, 1) := by decide +kernel
theorem dX10_previous_12 : decode cX10_previous 12 = .ok (.aload 4, 2) := by decide +kernel
theorem dX10_previous_14 : decode cX10_previous 14 = .ok (.iload_n 3, 1) := by decide +kernel
theorem dX10_previous_15 : decode cX10_previous 15 = .ok (.invokevirtual 128, 3) := by decide +kernel
theorem dX10_previous_18 : decode cX10_previous 18 = .ok (.astore 5, 2) := by decide +kernel
theorem dX10_previous_20 : decode cX10_previous 20 = .ok (.iload_n 2, 1) := by decide +kernel
theorem dX10_previous_21 : decode cX10_previous 21 = .ok (.istore 6, 2) := by decide +kernel
theorem dX10_previous_23 : decode cX10_previous 23 = .ok (.iload 6, 2) := by decide +kernel
theorem dX10_previous_25 : decode cX10_previous 25 = .ok (.ifCond .le 19, 3) := by decide +kernel
theorem dX10_previous_28 : decode cX10_previous 28 = .ok (.aload 5, 2) := by decide +kernel
theorem dX10_previous_30 : decode cX10_previous 30 = .ok (.iload 6, 2) := by decide +kernel
theorem dX10_previous_32 : decode cX10_previous 32 = .ok (.invokevirtual 132, 3) := by decide +kernel
theorem dX10_previous_35 : decode cX10_previous 35 = .ok (.ifCond .ne 9, 3) := by decide +kernel
theorem dX10_previous_38 : decode cX10_previous 38 = .ok (.iinc 6 (-1), 3) := by decide +kernel
theorem dX10_previous_41 : decode cX10_previous 41 = .ok (.goto (-18), 3) := by decide +kernel
theorem dX10_previous_44 : decode cX10_previous 44 = .ok (.iload 6, 2) := by decide +kernel
theorem dX10_previous_46 : decode cX10_previous 46 = .ok (.ireturn, 1) := by decide +kernel
theorem dX10_gap_0 : decode cX10_gap 0 = .ok (.aload_n 0, 1) := by decide +kernel
theorem dX10_gap_1 : decode cX10_gap 1 = .ok (.iload_n 1, 1) := by decide +kernel
theorem dX10_gap_2 : decode cX10_gap 2 = .ok (.invokevirtual 60, 3) := by decide +kernel
theorem dX10_gap_5 : decode cX10_gap 5 = .ok (.astore 4, 2) := by decide +kernel
theorem dX10_gap_7 : decode cX10_gap 7 = .ok (.iload_n 2, 1) := by decide +kernel
theorem dX10_gap_8 : decode cX10_gap 8 = .ok (.invokestatic 125, 3) := by decide +kernel
theorem dX10_gap_11 : decode cX10_gap 11 = .ok (.iconst 0, 1) := by decide +kernel
theorem dX10_gap_12 : decode cX10_gap 12 = .ok (.aload_n 0, 1) := by decide +kernel
theorem dX10_gap_13 : decode cX10_gap 13 = .ok (.aload 4, 2) := by decide +kernel
theorem dX10_gap_15 : decode cX10_gap 15 = .ok (.iload_n 3, 1) := by decide +kernel
theorem dX10_gap_16 : decode cX10_gap 16 = .ok (.invokevirtual 128, 3) := by decide +kernel
theorem dX10_gap_19 : decode cX10_gap 19 = .ok (.iload_n 2, 1) := by decide +kernel
theorem dX10_gap_20 : decode cX10_gap 20 = .ok (.invokestatic 141, 3) := by decide +kernel
theorem dX10_gap_23 : decode cX10_gap 23 = .ok (.ireturn, 1) := by decide +kernel
theorem dX10_lastGap_0 : decode cX10_lastGap 0 = .ok (.aload_n 0, 1) := by decide +kernel
theorem dX10_lastGap_1 : decode cX10_lastGap 1 = .ok (.aload_n 0, 1) := by decide +kernel
theorem dX10_lastGap_2 : decode cX10_lastGap 2 = .ok (.iload_n 1, 1) := by decide +kernel
theorem dX10_lastGap_3 : decode cX10_lastGap 3 = .ok (.invokevirtual 60, 3) := by decide +kernel
theorem dX10_lastGap_6 : decode cX10_lastGap 6 = .ok (.iload_n 2, 1) := by decide +kernel
theorem dX10_lastGap_7 : decode cX10_lastGap 7 = .ok (.invokevirtual 128, 3) := by decide +kernel
theorem dX10_lastGap_10 : decode cX10_lastGap 10 = .ok (.astore_n 3, 1) := by decide +kernel
theorem dX10_lastGap_11 : decode cX10_lastGap 11 = .ok (.sipush 300, 3) := by decide +kernel
theorem dX10_lastGap_14 : decode cX10_lastGap 14 = .ok (.istore 4, 2) := by decide +kernel
theorem dX10_lastGap_16 : decode cX10_lastGap 16 = .ok (.iload 4, 2) := by decide +kernel
theorem dX10_lastGap_18 : decode cX10_lastGap 18 = .ok (.ifCond .lt 21, 3) := by decide +kernel
theorem dX10_lastGap_21 : decode cX10_lastGap 21 = .ok (.aload_n 3, 1) := by decide +kernel
theorem dX10_lastGap_22 : decode cX10_lastGap 22 = .ok (.iload 4, 2) := by decide +kernel
theorem dX10_lastGap_24 : decode cX10_lastGap 24 = .ok (.invokevirtual 132, 3) := by decide +kernel
theorem dX10_lastGap_27 : decode cX10_lastGap 27 = .ok (.ifCond .ne 6, 3) := by decide +kernel
theorem dX10_lastGap_30 : decode cX10_lastGap 30 = .ok (.iload 4, 2) := by decide +kernel
theorem dX10_lastGap_32 : decode cX10_lastGap 32 = .ok (.ireturn, 1) := by decide +kernel
theorem dX10_lastGap_33 : decode cX10_lastGap 33 = .ok (.iinc 4 (-1), 3) := by decide +kernel
theorem dX10_lastGap_36 : decode cX10_lastGap 36 = .ok (.goto (-20), 3) := by decide +kernel
theorem dX10_lastGap_39 : decode cX10_lastGap 39 = .ok (.new 145, 3) := by decide +kernel
theorem dX10_lastGap_42 : decode cX10_lastGap 42 = .ok (.dup, 1) := by decide +kernel
theorem dX10_lastGap_43 : decode cX10_lastGap 43 = .ok (.ldc 147, 2) := by decide +kernel
theorem dX10_lastGap_45 : decode cX10_lastGap 45 = .ok (.invokespecial 149, 3) := by decide +kernel
theorem dX10_lastGap_48 : decode cX10_lastGap 48 = .ok (.athrow, 1) := by decide +kernel
theorem dX10_ways_0 : decode cX10_ways 0 = .ok (.aload_n 0, 1) := by decide +kernel
theorem dX10_ways_1 : decode cX10_ways 1 = .ok (.iload_n 1, 1) := by decide +kernel
theorem dX10_ways_2 : decode cX10_ways 2 = .ok (.invokevirtual 60, 3) := by decide +kernel
theorem dX10_ways_5 : decode cX10_ways 5 = .ok (.astore 4, 2) := by decide +kernel
theorem dX10_ways_7 : decode cX10_ways 7 = .ok (.iload_n 2, 1) := by decide +kernel
theorem dX10_ways_8 : decode cX10_ways 8 = .ok (.invokestatic 125, 3) := by decide +kernel
theorem dX10_ways_11 : decode cX10_ways 11 = .ok (.aload_n 0, 1) := by decide +kernel
theorem dX10_ways_12 : decode cX10_ways 12 = .ok (.getfield 35, 3) := by decide +kernel
theorem dX10_ways_15 : decode cX10_ways 15 = .ok (.aload 4, 2) := by decide +kernel
theorem dX10_ways_17 : decode cX10_ways 17 = .ok (.iload_n 3, 1) := by decide +kernel
theorem dX10_ways_18 : decode cX10_ways 18 = .ok (.invokevirtual 150, 3) := by decide +kernel
theorem dX10_ways_21 : decode cX10_ways 21 = .ok (.aload_n 0, 1) := by decide +kernel
theorem dX10_ways_22 : decode cX10_ways 22 = .ok (.getfield 35, 3) := by decide +kernel
theorem dX10_ways_25 : decode cX10_ways 25 = .ok (.iload_n 2, 1) := by decide +kernel
theorem dX10_ways_26 : decode cX10_ways 26 = .ok (.invokevirtual 154, 3) := by decide +kernel
theorem dX10_ways_29 : decode cX10_ways 29 = .ok (.lreturn, 1) := by decide +kernel
theorem dX10_most_0 : decode cX10_most 0 = .ok (.aload_n 0, 1) := by decide +kernel
theorem dX10_most_1 : decode cX10_most 1 = .ok (.getfield 35, 3) := by decide +kernel
theorem dX10_most_4 : decode cX10_most 4 = .ok (.aload_n 0, 1) := by decide +kernel
theorem dX10_most_5 : decode cX10_most 5 = .ok (.iload_n 1, 1) := by decide +kernel
theorem dX10_most_6 : decode cX10_most 6 = .ok (.invokevirtual 60, 3) := by decide +kernel
theorem dX10_most_9 : decode cX10_most 9 = .ok (.iconst 0, 1) := by decide +kernel
theorem dX10_most_10 : decode cX10_most 10 = .ok (.invokevirtual 150, 3) := by decide +kernel
theorem dX10_most_13 : decode cX10_most 13 = .ok (.iconst 0, 1) := by decide +kernel
theorem dX10_most_14 : decode cX10_most 14 = .ok (.istore_n 2, 1) := by decide +kernel
theorem dX10_most_15 : decode cX10_most 15 = .ok (.iconst 1, 1) := by decide +kernel
theorem dX10_most_16 : decode cX10_most 16 = .ok (.istore_n 3, 1) := by decide +kernel
theorem dX10_most_17 : decode cX10_most 17 = .ok (.iload_n 3, 1) := by decide +kernel
theorem dX10_most_18 : decode cX10_most 18 = .ok (.sipush 300, 3) := by decide +kernel
theorem dX10_most_21 : decode cX10_most 21 = .ok (.if_icmp .gt 31, 3) := by decide +kernel
theorem dX10_most_24 : decode cX10_most 24 = .ok (.aload_n 0, 1) := by decide +kernel
theorem dX10_most_25 : decode cX10_most 25 = .ok (.getfield 35, 3) := by decide +kernel
theorem dX10_most_28 : decode cX10_most 28 = .ok (.iload_n 3, 1) := by decide +kernel
theorem dX10_most_29 : decode cX10_most 29 = .ok (.invokevirtual 154, 3) := by decide +kernel
theorem dX10_most_32 : decode cX10_most 32 = .ok (.aload_n 0, 1) := by decide +kernel
theorem dX10_most_33 : decode cX10_most 33 = .ok (.getfield 35, 3) := by decide +kernel
theorem dX10_most_36 : decode cX10_most 36 = .ok (.iload_n 2, 1) := by decide +kernel
theorem dX10_most_37 : decode cX10_most 37 = .ok (.invokevirtual 154, 3) := by decide +kernel
theorem dX10_most_40 : decode cX10_most 40 = .ok (.lcmp, 1) := by decide +kernel
theorem dX10_most_41 : decode cX10_most 41 = .ok (.ifCond .le 5, 3) := by decide +kernel
theorem dX10_most_44 : decode cX10_most 44 = .ok (.iload_n 3, 1) := by decide +kernel
theorem dX10_most_45 : decode cX10_most 45 = .ok (.istore_n 2, 1) := by decide +kernel
theorem dX10_most_46 : decode cX10_most 46 = .ok (.iinc 3 1, 3) := by decide +kernel
theorem dX10_most_49 : decode cX10_most 49 = .ok (.goto (-32), 3) := by decide +kernel
theorem dX10_most_52 : decode cX10_most 52 = .ok (.iload_n 2, 1) := by decide +kernel
theorem dX10_most_53 : decode cX10_most 53 = .ok (.ireturn, 1) := by decide +kernel
theorem dX10_fewest_0 : decode cX10_fewest 0 = .ok (.aload_n 0, 1) := by decide +kernel
theorem dX10_fewest_1 : decode cX10_fewest 1 = .ok (.iload_n 1, 1) := by decide +kernel
theorem dX10_fewest_2 : decode cX10_fewest 2 = .ok (.invokevirtual 60, 3) := by decide +kernel
theorem dX10_fewest_5 : decode cX10_fewest 5 = .ok (.astore 4, 2) := by decide +kernel
theorem dX10_fewest_7 : decode cX10_fewest 7 = .ok (.iload_n 2, 1) := by decide +kernel
theorem dX10_fewest_8 : decode cX10_fewest 8 = .ok (.invokestatic 125, 3) := by decide +kernel
theorem dX10_fewest_11 : decode cX10_fewest 11 = .ok (.aload_n 0, 1) := by decide +kernel
theorem dX10_fewest_12 : decode cX10_fewest 12 = .ok (.getfield 42, 3) := by decide +kernel
theorem dX10_fewest_15 : decode cX10_fewest 15 = .ok (.aload 4, 2) := by decide +kernel
theorem dX10_fewest_17 : decode cX10_fewest 17 = .ok (.iload_n 3, 1) := by decide +kernel
theorem dX10_fewest_18 : decode cX10_fewest 18 = .ok (.invokevirtual 158, 3) := by decide +kernel
theorem dX10_fewest_21 : decode cX10_fewest 21 = .ok (.aload_n 0, 1) := by decide +kernel
theorem dX10_fewest_22 : decode cX10_fewest 22 = .ok (.getfield 42, 3) := by decide +kernel
theorem dX10_fewest_25 : decode cX10_fewest 25 = .ok (.iload_n 2, 1) := by decide +kernel
theorem dX10_fewest_26 : decode cX10_fewest 26 = .ok (.invokevirtual 159, 3) := by decide +kernel
theorem dX10_fewest_29 : decode cX10_fewest 29 = .ok (.ifCond .ne 13, 3) := by decide +kernel
theorem dX10_fewest_32 : decode cX10_fewest 32 = .ok (.new 145, 3) := by decide +kernel
theorem dX10_fewest_35 : decode cX10_fewest 35 = .ok (.dup, 1) := by decide +kernel
theorem dX10_fewest_36 : decode cX10_fewest 36 = .ok (.ldc 162, 2) := by decide +kernel
theorem dX10_fewest_38 : decode cX10_fewest 38 = .ok (.invokespecial 149, 3) := by decide +kernel
theorem dX10_fewest_41 : decode cX10_fewest 41 = .ok (.athrow, 1) := by decide +kernel
theorem dX10_fewest_42 : decode cX10_fewest 42 = .ok (.aload_n 0, 1) := by decide +kernel
theorem dX10_fewest_43 : decode cX10_fewest 43 = .ok (.getfield 42, 3) := by decide +kernel
theorem dX10_fewest_46 : decode cX10_fewest 46 = .ok (.iload_n 2, 1) := by decide +kernel
theorem dX10_fewest_47 : decode cX10_fewest 47 = .ok (.invokevirtual 164, 3) := by decide +kernel
theorem dX10_fewest_50 : decode cX10_fewest 50 = .ok (.ireturn, 1) := by decide +kernel
theorem dX10_withMany_0 : decode cX10_withMany 0 = .ok (.aload_n 0, 1) := by decide +kernel
theorem dX10_withMany_1 : decode cX10_withMany 1 = .ok (.iload_n 1, 1) := by decide +kernel
theorem dX10_withMany_2 : decode cX10_withMany 2 = .ok (.invokevirtual 60, 3) := by decide +kernel
theorem dX10_withMany_5 : decode cX10_withMany 5 = .ok (.astore_n 3, 1) := by decide +kernel
theorem dX10_withMany_6 : decode cX10_withMany 6 = .ok (.iload_n 2, 1) := by decide +kernel
theorem dX10_withMany_7 : decode cX10_withMany 7 = .ok (.ifCond .lt 9, 3) := by decide +kernel
theorem dX10_withMany_10 : decode cX10_withMany 10 = .ok (.iload_n 2, 1) := by decide +kernel
theorem dX10_withMany_11 : decode cX10_withMany 11 = .ok (.bipush 20, 2) := by decide +kernel
theorem dX10_withMany_13 : decode cX10_withMany 13 = .ok (.if_icmp .le 13, 3) := by decide +kernel
theorem dX10_withMany_16 : decode cX10_withMany 16 = .ok (.new 167, 3) := by decide +kernel
theorem dX10_withMany_19 : decode cX10_withMany 19 = .ok (.dup, 1) := by decide +kernel
theorem dX10_withMany_20 : decode cX10_withMany 20 = .ok (.ldc 169, 2) := by decide +kernel
theorem dX10_withMany_22 : decode cX10_withMany 22 = .ok (.invokespecial 171, 3) := by decide +kernel
theorem dX10_withMany_25 : decode cX10_withMany 25 = .ok (.athrow, 1) := by decide +kernel
theorem dX10_withMany_26 : decode cX10_withMany 26 = .ok (.aload_n 0, 1) := by decide +kernel
theorem dX10_withMany_27 : decode cX10_withMany 27 = .ok (.getfield 49, 3) := by decide +kernel
theorem dX10_withMany_30 : decode cX10_withMany 30 = .ok (.aload_n 3, 1) := by decide +kernel
theorem dX10_withMany_31 : decode cX10_withMany 31 = .ok (.iconst 0, 1) := by decide +kernel
theorem dX10_withMany_32 : decode cX10_withMany 32 = .ok (.invokevirtual 172, 3) := by decide +kernel
theorem dX10_withMany_35 : decode cX10_withMany 35 = .ok (.iconst 0, 1) := by decide +kernel
theorem dX10_withMany_36 : decode cX10_withMany 36 = .ok (.istore 4, 2) := by decide +kernel
theorem dX10_withMany_38 : decode cX10_withMany 38 = .ok (.iconst 0, 1) := by decide +kernel
theorem dX10_withMany_39 : decode cX10_withMany 39 = .ok (.istore 5, 2) := by decide +kernel
theorem dX10_withMany_41 : decode cX10_withMany 41 = .ok (.iload 5, 2) := by decide +kernel
theorem dX10_withMany_43 : decode cX10_withMany 43 = .ok (.sipush 300, 3) := by decide +kernel
theorem dX10_withMany_46 : decode cX10_withMany 46 = .ok (.if_icmp .gt 25, 3) := by decide +kernel
theorem dX10_withMany_49 : decode cX10_withMany 49 = .ok (.aload_n 0, 1) := by decide +kernel
theorem dX10_withMany_50 : decode cX10_withMany 50 = .ok (.getfield 49, 3) := by decide +kernel
theorem dX10_withMany_53 : decode cX10_withMany 53 = .ok (.iload_n 2, 1) := by decide +kernel
theorem dX10_withMany_54 : decode cX10_withMany 54 = .ok (.iload 5, 2) := by decide +kernel
theorem dX10_withMany_56 : decode cX10_withMany 56 = .ok (.invokevirtual 173, 3) := by decide +kernel
theorem dX10_withMany_59 : decode cX10_withMany 59 = .ok (.ifCond .eq 6, 3) := by decide +kernel
theorem dX10_withMany_62 : decode cX10_withMany 62 = .ok (.iinc 4 1, 3) := by decide +kernel
theorem dX10_withMany_65 : decode cX10_withMany 65 = .ok (.iinc 5 1, 3) := by decide +kernel
theorem dX10_withMany_68 : decode cX10_withMany 68 = .ok (.goto (-27), 3) := by decide +kernel
theorem dX10_withMany_71 : decode cX10_withMany 71 = .ok (.iload 4, 2) := by decide +kernel
theorem dX10_withMany_73 : decode cX10_withMany 73 = .ok (.ireturn, 1) := by decide +kernel
theorem dX10_fair_0 : decode cX10_fair 0 = .ok (.aload_n 0, 1) := by decide +kernel
theorem dX10_fair_1 : decode cX10_fair 1 = .ok (.iload_n 1, 1) := by decide +kernel
theorem dX10_fair_2 : decode cX10_fair 2 = .ok (.invokevirtual 60, 3) := by decide +kernel
theorem dX10_fair_5 : decode cX10_fair 5 = .ok (.astore_n 2, 1) := by decide +kernel
theorem dX10_fair_6 : decode cX10_fair 6 = .ok (.aload_n 0, 1) := by decide +kernel
theorem dX10_fair_7 : decode cX10_fair 7 = .ok (.aload_n 2, 1) := by decide +kernel
theorem dX10_fair_8 : decode cX10_fair 8 = .ok (.iconst 0, 1) := by decide +kernel
theorem dX10_fair_9 : decode cX10_fair 9 = .ok (.invokevirtual 128, 3) := by decide +kernel
theorem dX10_fair_12 : decode cX10_fair 12 = .ok (.astore_n 3, 1) := by decide +kernel
theorem dX10_fair_13 : decode cX10_fair 13 = .ok (.aload_n 2, 1) := by decide +kernel
theorem dX10_fair_14 : decode cX10_fair 14 = .ok (.invokevirtual 98, 3) := by decide +kernel
theorem dX10_fair_17 : decode cX10_fair 17 = .ok (.istore 4, 2) := by decide +kernel
theorem dX10_fair_19 : decode cX10_fair 19 = .ok (.iload 4, 2) := by decide +kernel
theorem dX10_fair_21 : decode cX10_fair 21 = .ok (.istore 5, 2) := by decide +kernel
theorem dX10_fair_23 : decode cX10_fair 23 = .ok (.iconst 0, 1) := by decide +kernel
theorem dX10_fair_24 : decode cX10_fair 24 = .ok (.istore 6, 2) := by decide +kernel
theorem dX10_fair_26 : decode cX10_fair 26 = .ok (.iload 6, 2) := by decide +kernel
theorem dX10_fair_28 : decode cX10_fair 28 = .ok (.iload 4, 2) := by decide +kernel
theorem dX10_fair_30 : decode cX10_fair 30 = .ok (.if_icmp .gt 35, 3) := by decide +kernel
theorem dX10_fair_33 : decode cX10_fair 33 = .ok (.aload_n 3, 1) := by decide +kernel
theorem dX10_fair_34 : decode cX10_fair 34 = .ok (.iload 6, 2) := by decide +kernel
theorem dX10_fair_36 : decode cX10_fair 36 = .ok (.invokevirtual 132, 3) := by decide +kernel
theorem dX10_fair_39 : decode cX10_fair 39 = .ok (.ifCond .eq 20, 3) := by decide +kernel
theorem dX10_fair_42 : decode cX10_fair 42 = .ok (.iload 5, 2) := by decide +kernel
theorem dX10_fair_44 : decode cX10_fair 44 = .ok (.iload 4, 2) := by decide +kernel
theorem dX10_fair_46 : decode cX10_fair 46 = .ok (.iconst 2, 1) := by decide +kernel
theorem dX10_fair_47 : decode cX10_fair 47 = .ok (.iload 6, 2) := by decide +kernel
theorem dX10_fair_49 : decode cX10_fair 49 = .ok (.imul, 1) := by decide +kernel
theorem dX10_fair_50 : decode cX10_fair 50 = .ok (.isub, 1) := by decide +kernel
theorem dX10_fair_51 : decode cX10_fair 51 = .ok (.invokestatic 177, 3) := by decide +kernel
theorem dX10_fair_54 : decode cX10_fair 54 = .ok (.invokestatic 182, 3) := by decide +kernel
theorem dX10_fair_57 : decode cX10_fair 57 = .ok (.istore 5, 2) := by decide +kernel
theorem dX10_fair_59 : decode cX10_fair 59 = .ok (.iinc 6 1, 3) := by decide +kernel
theorem dX10_fair_62 : decode cX10_fair 62 = .ok (.goto (-36), 3) := by decide +kernel
theorem dX10_fair_65 : decode cX10_fair 65 = .ok (.iload 5, 2) := by decide +kernel
theorem dX10_fair_67 : decode cX10_fair 67 = .ok (.ireturn, 1) := by decide +kernel
theorem dX10_share_0 : decode cX10_share 0 = .ok (.aload_n 0, 1) := by decide +kernel
theorem dX10_share_1 : decode cX10_share 1 = .ok (.iload_n 1, 1) := by decide +kernel
theorem dX10_share_2 : decode cX10_share 2 = .ok (.invokevirtual 60, 3) := by decide +kernel
theorem dX10_share_5 : decode cX10_share 5 = .ok (.astore_n 2, 1) := by decide +kernel
theorem dX10_share_6 : decode cX10_share 6 = .ok (.aload_n 0, 1) := by decide +kernel
theorem dX10_share_7 : decode cX10_share 7 = .ok (.aload_n 2, 1) := by decide +kernel
theorem dX10_share_8 : decode cX10_share 8 = .ok (.invokevirtual 83, 3) := by decide +kernel
theorem dX10_share_11 : decode cX10_share 11 = .ok (.i2f, 1) := by decide +kernel
theorem dX10_share_12 : decode cX10_share 12 = .ok (.aload_n 2, 1) := by decide +kernel
theorem dX10_share_13 : decode cX10_share 13 = .ok (.invokevirtual 98, 3) := by decide +kernel
theorem dX10_share_16 : decode cX10_share 16 = .ok (.iconst 1, 1) := by decide +kernel
theorem dX10_share_17 : decode cX10_share 17 = .ok (.iadd, 1) := by decide +kernel
theorem dX10_share_18 : decode cX10_share 18 = .ok (.i2f, 1) := by decide +kernel
theorem dX10_share_19 : decode cX10_share 19 = .ok (.fdiv, 1) := by decide +kernel
theorem dX10_share_20 : decode cX10_share 20 = .ok (.freturn, 1) := by decide +kernel
theorem dX10_meanWays_0 : decode cX10_meanWays 0 = .ok (.aload_n 0, 1) := by decide +kernel
theorem dX10_meanWays_1 : decode cX10_meanWays 1 = .ok (.iload_n 1, 1) := by decide +kernel
theorem dX10_meanWays_2 : decode cX10_meanWays 2 = .ok (.invokevirtual 60, 3) := by decide +kernel
theorem dX10_meanWays_5 : decode cX10_meanWays 5 = .ok (.astore_n 2, 1) := by decide +kernel
theorem dX10_meanWays_6 : decode cX10_meanWays 6 = .ok (.iconst 1, 1) := by decide +kernel
theorem dX10_meanWays_7 : decode cX10_meanWays 7 = .ok (.aload_n 2, 1) := by decide +kernel
theorem dX10_meanWays_8 : decode cX10_meanWays 8 = .ok (.getfield 64, 3) := by decide +kernel
theorem dX10_meanWays_11 : decode cX10_meanWays 11 = .ok (.ishl, 1) := by decide +kernel
theorem dX10_meanWays_12 : decode cX10_meanWays 12 = .ok (.i2d, 1) := by decide +kernel
theorem dX10_meanWays_13 : decode cX10_meanWays 13 = .ok (.aload_n 0, 1) := by decide +kernel
theorem dX10_meanWays_14 : decode cX10_meanWays 14 = .ok (.aload_n 2, 1) := by decide +kernel
theorem dX10_meanWays_15 : decode cX10_meanWays 15 = .ok (.invokevirtual 83, 3) := by decide +kernel
theorem dX10_meanWays_18 : decode cX10_meanWays 18 = .ok (.i2d, 1) := by decide +kernel
theorem dX10_meanWays_19 : decode cX10_meanWays 19 = .ok (.ddiv, 1) := by decide +kernel
theorem dX10_meanWays_20 : decode cX10_meanWays 20 = .ok (.dreturn, 1) := by decide +kernel
theorem dX10_choice_0 : decode cX10_choice 0 = .ok (.aload_n 0, 1) := by decide +kernel
theorem dX10_choice_1 : decode cX10_choice 1 = .ok (.iload_n 1, 1) := by decide +kernel
theorem dX10_choice_2 : decode cX10_choice 2 = .ok (.invokevirtual 60, 3) := by decide +kernel
theorem dX10_choice_5 : decode cX10_choice 5 = .ok (.astore 4, 2) := by decide +kernel
theorem dX10_choice_7 : decode cX10_choice 7 = .ok (.iload_n 2, 1) := by decide +kernel
theorem dX10_choice_8 : decode cX10_choice 8 = .ok (.invokestatic 125, 3) := by decide +kernel
theorem dX10_choice_11 : decode cX10_choice 11 = .ok (.aload_n 0, 1) := by decide +kernel
theorem dX10_choice_12 : decode cX10_choice 12 = .ok (.getfield 35, 3) := by decide +kernel
theorem dX10_choice_15 : decode cX10_choice 15 = .ok (.aload 4, 2) := by decide +kernel
theorem dX10_choice_17 : decode cX10_choice 17 = .ok (.iconst 0, 1) := by decide +kernel
theorem dX10_choice_18 : decode cX10_choice 18 = .ok (.invokevirtual 150, 3) := by decide +kernel
theorem dX10_choice_21 : decode cX10_choice 21 = .ok (.iload_n 3, 1) := by decide +kernel
theorem dX10_choice_22 : decode cX10_choice 22 = .ok (.ifCond .lt 17, 3) := by decide +kernel
theorem dX10_choice_25 : decode cX10_choice 25 = .ok (.iload_n 3, 1) := by decide +kernel
theorem dX10_choice_26 : decode cX10_choice 26 = .ok (.i2l, 1) := by decide +kernel
theorem dX10_choice_27 : decode cX10_choice 27 = .ok (.aload_n 0, 1) := by decide +kernel
theorem dX10_choice_28 : decode cX10_choice 28 = .ok (.getfield 35, 3) := by decide +kernel
theorem dX10_choice_31 : decode cX10_choice 31 = .ok (.iload_n 2, 1) := by decide +kernel
theorem dX10_choice_32 : decode cX10_choice 32 = .ok (.invokevirtual 154, 3) := by decide +kernel
theorem dX10_choice_35 : decode cX10_choice 35 = .ok (.lcmp, 1) := by decide +kernel
theorem dX10_choice_36 : decode cX10_choice 36 = .ok (.ifCond .lt 13, 3) := by decide +kernel
theorem dX10_choice_39 : decode cX10_choice 39 = .ok (.new 145, 3) := by decide +kernel
theorem dX10_choice_42 : decode cX10_choice 42 = .ok (.dup, 1) := by decide +kernel
theorem dX10_choice_43 : decode cX10_choice 43 = .ok (.ldc 186, 2) := by decide +kernel
theorem dX10_choice_45 : decode cX10_choice 45 = .ok (.invokespecial 149, 3) := by decide +kernel
theorem dX10_choice_48 : decode cX10_choice 48 = .ok (.athrow, 1) := by decide +kernel
theorem dX10_choice_49 : decode cX10_choice 49 = .ok (.iconst 0, 1) := by decide +kernel
theorem dX10_choice_50 : decode cX10_choice 50 = .ok (.istore 5, 2) := by decide +kernel
theorem dX10_choice_52 : decode cX10_choice 52 = .ok (.iload_n 2, 1) := by decide +kernel
theorem dX10_choice_53 : decode cX10_choice 53 = .ok (.istore 6, 2) := by decide +kernel
theorem dX10_choice_55 : decode cX10_choice 55 = .ok (.iload_n 3, 1) := by decide +kernel
theorem dX10_choice_56 : decode cX10_choice 56 = .ok (.i2l, 1) := by decide +kernel
theorem dX10_choice_57 : decode cX10_choice 57 = .ok (.lstore 7, 2) := by decide +kernel
theorem dX10_choice_59 : decode cX10_choice 59 = .ok (.aload 4, 2) := by decide +kernel
theorem dX10_choice_61 : decode cX10_choice 61 = .ok (.getfield 64, 3) := by decide +kernel
theorem dX10_choice_64 : decode cX10_choice 64 = .ok (.iconst 1, 1) := by decide +kernel
theorem dX10_choice_65 : decode cX10_choice 65 = .ok (.isub, 1) := by decide +kernel
theorem dX10_choice_66 : decode cX10_choice 66 = .ok (.istore 9, 2) := by decide +kernel
theorem dX10_choice_68 : decode cX10_choice 68 = .ok (.iload 9, 2) := by decide +kernel
theorem dX10_choice_70 : decode cX10_choice 70 = .ok (.ifCond .lt 69, 3) := by decide +kernel
theorem dX10_choice_73 : decode cX10_choice 73 = .ok (.aload 4, 2) := by decide +kernel
theorem dX10_choice_75 : decode cX10_choice 75 = .ok (.iload 9, 2) := by decide +kernel
theorem dX10_choice_77 : decode cX10_choice 77 = .ok (.invokevirtual 95, 3) := by decide +kernel
theorem dX10_choice_80 : decode cX10_choice 80 = .ok (.istore 10, 2) := by decide +kernel
theorem dX10_choice_82 : decode cX10_choice 82 = .ok (.aload_n 0, 1) := by decide +kernel
theorem dX10_choice_83 : decode cX10_choice 83 = .ok (.getfield 35, 3) := by decide +kernel
theorem dX10_choice_86 : decode cX10_choice 86 = .ok (.iload 10, 2) := by decide +kernel
theorem dX10_choice_88 : decode cX10_choice 88 = .ok (.invokevirtual 188, 3) := by decide +kernel
theorem dX10_choice_91 : decode cX10_choice 91 = .ok (.aload_n 0, 1) := by decide +kernel
theorem dX10_choice_92 : decode cX10_choice 92 = .ok (.getfield 35, 3) := by decide +kernel
theorem dX10_choice_95 : decode cX10_choice 95 = .ok (.iload 6, 2) := by decide +kernel
theorem dX10_choice_97 : decode cX10_choice 97 = .ok (.invokevirtual 154, 3) := by decide +kernel
theorem dX10_choice_100 : decode cX10_choice 100 = .ok (.lstore 11, 2) := by decide +kernel
theorem dX10_choice_102 : decode cX10_choice 102 = .ok (.lload 7, 2) := by decide +kernel
theorem dX10_choice_104 : decode cX10_choice 104 = .ok (.lload 11, 2) := by decide +kernel
theorem dX10_choice_106 : decode cX10_choice 106 = .ok (.lcmp, 1) := by decide +kernel
theorem dX10_choice_107 : decode cX10_choice 107 = .ok (.ifCond .lt 26, 3) := by decide +kernel
theorem dX10_choice_110 : decode cX10_choice 110 = .ok (.lload 7, 2) := by decide +kernel
theorem dX10_choice_112 : decode cX10_choice 112 = .ok (.lload 11, 2) := by decide +kernel
theorem dX10_choice_114 : decode cX10_choice 114 = .ok (.lsub, 1) := by decide +kernel
theorem dX10_choice_115 : decode cX10_choice 115 = .ok (.lstore 7, 2) := by decide +kernel
theorem dX10_choice_117 : decode cX10_choice 117 = .ok (.iload 6, 2) := by decide +kernel
theorem dX10_choice_119 : decode cX10_choice 119 = .ok (.iload 10, 2) := by decide +kernel
theorem dX10_choice_121 : decode cX10_choice 121 = .ok (.isub, 1) := by decide +kernel
theorem dX10_choice_122 : decode cX10_choice 122 = .ok (.istore 6, 2) := by decide +kernel
theorem dX10_choice_124 : decode cX10_choice 124 = .ok (.iload 5, 2) := by decide +kernel
theorem dX10_choice_126 : decode cX10_choice 126 = .ok (.iconst 1, 1) := by decide +kernel
theorem dX10_choice_127 : decode cX10_choice 127 = .ok (.iload 9, 2) := by decide +kernel
theorem dX10_choice_129 : decode cX10_choice 129 = .ok (.ishl, 1) := by decide +kernel
theorem dX10_choice_130 : decode cX10_choice 130 = .ok (.ior, 1) := by decide +kernel
theorem dX10_choice_131 : decode cX10_choice 131 = .ok (.istore 5, 2) := by decide +kernel
theorem dX10_choice_133 : decode cX10_choice 133 = .ok (.iinc 9 (-1), 3) := by decide +kernel
theorem dX10_choice_136 : decode cX10_choice 136 = .ok (.goto (-68), 3) := by decide +kernel
theorem dX10_choice_139 : decode cX10_choice 139 = .ok (.iload 5, 2) := by decide +kernel
theorem dX10_choice_141 : decode cX10_choice 141 = .ok (.ireturn, 1) := by decide +kernel
theorem dX10_rank_0 : decode cX10_rank 0 = .ok (.aload_n 0, 1) := by decide +kernel
theorem dX10_rank_1 : decode cX10_rank 1 = .ok (.iload_n 1, 1) := by decide +kernel
theorem dX10_rank_2 : decode cX10_rank 2 = .ok (.invokevirtual 60, 3) := by decide +kernel
theorem dX10_rank_5 : decode cX10_rank 5 = .ok (.astore_n 3, 1) := by decide +kernel
theorem dX10_rank_6 : decode cX10_rank 6 = .ok (.aload_n 3, 1) := by decide +kernel
theorem dX10_rank_7 : decode cX10_rank 7 = .ok (.iload_n 2, 1) := by decide +kernel
theorem dX10_rank_8 : decode cX10_rank 8 = .ok (.invokestatic 191, 3) := by decide +kernel
theorem dX10_rank_11 : decode cX10_rank 11 = .ok (.aload_n 0, 1) := by decide +kernel
theorem dX10_rank_12 : decode cX10_rank 12 = .ok (.getfield 35, 3) := by decide +kernel
theorem dX10_rank_15 : decode cX10_rank 15 = .ok (.aload_n 3, 1) := by decide +kernel
theorem dX10_rank_16 : decode cX10_rank 16 = .ok (.iconst 0, 1) := by decide +kernel
theorem dX10_rank_17 : decode cX10_rank 17 = .ok (.invokevirtual 150, 3) := by decide +kernel
theorem dX10_rank_20 : decode cX10_rank 20 = .ok (.aload_n 3, 1) := by decide +kernel
theorem dX10_rank_21 : decode cX10_rank 21 = .ok (.iload_n 2, 1) := by decide +kernel
theorem dX10_rank_22 : decode cX10_rank 22 = .ok (.invokevirtual 194, 3) := by decide +kernel
theorem dX10_rank_25 : decode cX10_rank 25 = .ok (.istore 4, 2) := by decide +kernel
theorem dX10_rank_27 : decode cX10_rank 27 = .ok (.lconst 0, 1) := by decide +kernel
theorem dX10_rank_28 : decode cX10_rank 28 = .ok (.lstore 5, 2) := by decide +kernel
theorem dX10_rank_30 : decode cX10_rank 30 = .ok (.aload_n 3, 1) := by decide +kernel
theorem dX10_rank_31 : decode cX10_rank 31 = .ok (.getfield 64, 3) := by decide +kernel
theorem dX10_rank_34 : decode cX10_rank 34 = .ok (.iconst 1, 1) := by decide +kernel
theorem dX10_rank_35 : decode cX10_rank 35 = .ok (.isub, 1) := by decide +kernel
theorem dX10_rank_36 : decode cX10_rank 36 = .ok (.istore 7, 2) := by decide +kernel
theorem dX10_rank_38 : decode cX10_rank 38 = .ok (.iload 7, 2) := by decide +kernel
theorem dX10_rank_40 : decode cX10_rank 40 = .ok (.ifCond .lt 56, 3) := by decide +kernel
theorem dX10_rank_43 : decode cX10_rank 43 = .ok (.aload_n 3, 1) := by decide +kernel
theorem dX10_rank_44 : decode cX10_rank 44 = .ok (.iload 7, 2) := by decide +kernel
theorem dX10_rank_46 : decode cX10_rank 46 = .ok (.invokevirtual 95, 3) := by decide +kernel
theorem dX10_rank_49 : decode cX10_rank 49 = .ok (.istore 8, 2) := by decide +kernel
theorem dX10_rank_51 : decode cX10_rank 51 = .ok (.aload_n 0, 1) := by decide +kernel
theorem dX10_rank_52 : decode cX10_rank 52 = .ok (.getfield 35, 3) := by decide +kernel
theorem dX10_rank_55 : decode cX10_rank 55 = .ok (.iload 8, 2) := by decide +kernel
theorem dX10_rank_57 : decode cX10_rank 57 = .ok (.invokevirtual 188, 3) := by decide +kernel
theorem dX10_rank_60 : decode cX10_rank 60 = .ok (.iload_n 2, 1) := by decide +kernel
theorem dX10_rank_61 : decode cX10_rank 61 = .ok (.iload 7, 2) := by decide +kernel
theorem dX10_rank_63 : decode cX10_rank 63 = .ok (.ishr, 1) := by decide +kernel
theorem dX10_rank_64 : decode cX10_rank 64 = .ok (.iconst 1, 1) := by decide +kernel
theorem dX10_rank_65 : decode cX10_rank 65 = .ok (.iand, 1) := by decide +kernel
theorem dX10_rank_66 : decode cX10_rank 66 = .ok (.ifCond .eq 24, 3) := by decide +kernel
theorem dX10_rank_69 : decode cX10_rank 69 = .ok (.lload 5, 2) := by decide +kernel
theorem dX10_rank_71 : decode cX10_rank 71 = .ok (.aload_n 0, 1) := by decide +kernel
theorem dX10_rank_72 : decode cX10_rank 72 = .ok (.getfield 35, 3) := by decide +kernel
theorem dX10_rank_75 : decode cX10_rank 75 = .ok (.iload 4, 2) := by decide +kernel
theorem dX10_rank_77 : decode cX10_rank 77 = .ok (.invokevirtual 154, 3) := by decide +kernel
theorem dX10_rank_80 : decode cX10_rank 80 = .ok (.ladd, 1) := by decide +kernel
theorem dX10_rank_81 : decode cX10_rank 81 = .ok (.lstore 5, 2) := by decide +kernel
theorem dX10_rank_83 : decode cX10_rank 83 = .ok (.iload 4, 2) := by decide +kernel
theorem dX10_rank_85 : decode cX10_rank 85 = .ok (.iload 8, 2) := by decide +kernel
theorem dX10_rank_87 : decode cX10_rank 87 = .ok (.isub, 1) := by decide +kernel
theorem dX10_rank_88 : decode cX10_rank 88 = .ok (.istore 4, 2) := by decide +kernel
theorem dX10_rank_90 : decode cX10_rank 90 = .ok (.iinc 7 (-1), 3) := by decide +kernel
theorem dX10_rank_93 : decode cX10_rank 93 = .ok (.goto (-55), 3) := by decide +kernel
theorem dX10_rank_96 : decode cX10_rank 96 = .ok (.lload 5, 2) := by decide +kernel
theorem dX10_rank_98 : decode cX10_rank 98 = .ok (.l2i, 1) := by decide +kernel
theorem dX10_rank_99 : decode cX10_rank 99 = .ok (.ireturn, 1) := by decide +kernel
theorem dX10_sumOf_0 : decode cX10_sumOf 0 = .ok (.aload_n 0, 1) := by decide +kernel
theorem dX10_sumOf_1 : decode cX10_sumOf 1 = .ok (.iload_n 1, 1) := by decide +kernel
theorem dX10_sumOf_2 : decode cX10_sumOf 2 = .ok (.invokevirtual 60, 3) := by decide +kernel
theorem dX10_sumOf_5 : decode cX10_sumOf 5 = .ok (.astore_n 3, 1) := by decide +kernel
theorem dX10_sumOf_6 : decode cX10_sumOf 6 = .ok (.aload_n 3, 1) := by decide +kernel
theorem dX10_sumOf_7 : decode cX10_sumOf 7 = .ok (.iload_n 2, 1) := by decide +kernel
theorem dX10_sumOf_8 : decode cX10_sumOf 8 = .ok (.invokestatic 191, 3) := by decide +kernel
theorem dX10_sumOf_11 : decode cX10_sumOf 11 = .ok (.aload_n 3, 1) := by decide +kernel
theorem dX10_sumOf_12 : decode cX10_sumOf 12 = .ok (.iload_n 2, 1) := by decide +kernel
theorem dX10_sumOf_13 : decode cX10_sumOf 13 = .ok (.invokevirtual 194, 3) := by decide +kernel
theorem dX10_sumOf_16 : decode cX10_sumOf 16 = .ok (.ireturn, 1) := by decide +kernel
theorem dX10_partSums_0 : decode cX10_partSums 0 = .ok (.aload_n 0, 1) := by decide +kernel
theorem dX10_partSums_1 : decode cX10_partSums 1 = .ok (.iload_n 1, 1) := by decide +kernel
theorem dX10_partSums_2 : decode cX10_partSums 2 = .ok (.invokevirtual 60, 3) := by decide +kernel
theorem dX10_partSums_5 : decode cX10_partSums 5 = .ok (.astore_n 3, 1) := by decide +kernel
theorem dX10_partSums_6 : decode cX10_partSums 6 = .ok (.aload_n 3, 1) := by decide +kernel
theorem dX10_partSums_7 : decode cX10_partSums 7 = .ok (.iload_n 2, 1) := by decide +kernel
theorem dX10_partSums_8 : decode cX10_partSums 8 = .ok (.invokestatic 191, 3) := by decide +kernel
theorem dX10_partSums_11 : decode cX10_partSums 11 = .ok (.aload_n 0, 1) := by decide +kernel
theorem dX10_partSums_12 : decode cX10_partSums 12 = .ok (.getfield 19, 3) := by decide +kernel
theorem dX10_partSums_15 : decode cX10_partSums 15 = .ok (.aload_n 3, 1) := by decide +kernel
theorem dX10_partSums_16 : decode cX10_partSums 16 = .ok (.iload_n 2, 1) := by decide +kernel
theorem dX10_partSums_17 : decode cX10_partSums 17 = .ok (.invokevirtual 197, 3) := by decide +kernel
theorem dX10_partSums_20 : decode cX10_partSums 20 = .ok (.aload_n 0, 1) := by decide +kernel
theorem dX10_partSums_21 : decode cX10_partSums 21 = .ok (.aload_n 0, 1) := by decide +kernel
theorem dX10_partSums_22 : decode cX10_partSums 22 = .ok (.getfield 19, 3) := by decide +kernel
theorem dX10_partSums_25 : decode cX10_partSums 25 = .ok (.invokevirtual 83, 3) := by decide +kernel
theorem dX10_partSums_28 : decode cX10_partSums 28 = .ok (.ireturn, 1) := by decide +kernel
theorem dX10_compare_0 : decode cX10_compare 0 = .ok (.aload_n 0, 1) := by decide +kernel
theorem dX10_compare_1 : decode cX10_compare 1 = .ok (.aload_n 0, 1) := by decide +kernel
theorem dX10_compare_2 : decode cX10_compare 2 = .ok (.iload_n 1, 1) := by decide +kernel
theorem dX10_compare_3 : decode cX10_compare 3 = .ok (.invokevirtual 60, 3) := by decide +kernel
theorem dX10_compare_6 : decode cX10_compare 6 = .ok (.aload_n 0, 1) := by decide +kernel
theorem dX10_compare_7 : decode cX10_compare 7 = .ok (.iload_n 2, 1) := by decide +kernel
theorem dX10_compare_8 : decode cX10_compare 8 = .ok (.invokevirtual 60, 3) := by decide +kernel
theorem dX10_compare_11 : decode cX10_compare 11 = .ok (.invokevirtual 200, 3) := by decide +kernel
theorem dX10_compare_14 : decode cX10_compare 14 = .ok (.aload_n 0, 1) := by decide +kernel
theorem dX10_compare_15 : decode cX10_compare 15 = .ok (.getfield 25, 3) := by decide +kernel
theorem dX10_compare_18 : decode cX10_compare 18 = .ok (.getfield 204, 3) := by decide +kernel
theorem dX10_compare_21 : decode cX10_compare 21 = .ok (.astore 4, 2) := by decide +kernel
theorem dX10_compare_23 : decode cX10_compare 23 = .ok (.aload_n 0, 1) := by decide +kernel
theorem dX10_compare_24 : decode cX10_compare 24 = .ok (.getfield 29, 3) := by decide +kernel
theorem dX10_compare_27 : decode cX10_compare 27 = .ok (.getfield 204, 3) := by decide +kernel
theorem dX10_compare_30 : decode cX10_compare 30 = .ok (.astore 5, 2) := by decide +kernel
theorem dX10_compare_32 : decode cX10_compare 32 = .ok (.iload_n 3, 1) := by decide +kernel
theorem dX10_compare_33 : decode cX10_compare 33 = .ok (.bipush 38, 2) := by decide +kernel
theorem dX10_compare_35 : decode cX10_compare 35 = .ok (.if_icmp .ne 14, 3) := by decide +kernel
theorem dX10_compare_38 : decode cX10_compare 38 = .ok (.aload 4, 2) := by decide +kernel
theorem dX10_compare_40 : decode cX10_compare 40 = .ok (.aload 5, 2) := by decide +kernel
theorem dX10_compare_42 : decode cX10_compare 42 = .ok (.iconst 0, 1) := by decide +kernel
theorem dX10_compare_43 : decode cX10_compare 43 = .ok (.invokevirtual 208, 3) := by decide +kernel
theorem dX10_compare_46 : decode cX10_compare 46 = .ok (.goto 62, 3) := by decide +kernel
theorem dX10_compare_49 : decode cX10_compare 49 = .ok (.iload_n 3, 1) := by decide +kernel
theorem dX10_compare_50 : decode cX10_compare 50 = .ok (.bipush 124, 2) := by decide +kernel
theorem dX10_compare_52 : decode cX10_compare 52 = .ok (.if_icmp .ne 14, 3) := by decide +kernel
theorem dX10_compare_55 : decode cX10_compare 55 = .ok (.aload 4, 2) := by decide +kernel
theorem dX10_compare_57 : decode cX10_compare 57 = .ok (.aload 5, 2) := by decide +kernel
theorem dX10_compare_59 : decode cX10_compare 59 = .ok (.iconst 0, 1) := by decide +kernel
theorem dX10_compare_60 : decode cX10_compare 60 = .ok (.invokevirtual 212, 3) := by decide +kernel
theorem dX10_compare_63 : decode cX10_compare 63 = .ok (.goto 45, 3) := by decide +kernel
theorem dX10_compare_66 : decode cX10_compare 66 = .ok (.iload_n 3, 1) := by decide +kernel
theorem dX10_compare_67 : decode cX10_compare 67 = .ok (.bipush 94, 2) := by decide +kernel
theorem dX10_compare_69 : decode cX10_compare 69 = .ok (.if_icmp .ne 13, 3) := by decide +kernel
theorem dX10_compare_72 : decode cX10_compare 72 = .ok (.aload 4, 2) := by decide +kernel
theorem dX10_compare_74 : decode cX10_compare 74 = .ok (.aload 5, 2) := by decide +kernel
theorem dX10_compare_76 : decode cX10_compare 76 = .ok (.invokevirtual 215, 3) := by decide +kernel
theorem dX10_compare_79 : decode cX10_compare 79 = .ok (.goto 29, 3) := by decide +kernel
theorem dX10_compare_82 : decode cX10_compare 82 = .ok (.iload_n 3, 1) := by decide +kernel
theorem dX10_compare_83 : decode cX10_compare 83 = .ok (.bipush 45, 2) := by decide +kernel
theorem dX10_compare_85 : decode cX10_compare 85 = .ok (.if_icmp .ne 13, 3) := by decide +kernel
theorem dX10_compare_88 : decode cX10_compare 88 = .ok (.aload 4, 2) := by decide +kernel
theorem dX10_compare_90 : decode cX10_compare 90 = .ok (.aload 5, 2) := by decide +kernel
theorem dX10_compare_92 : decode cX10_compare 92 = .ok (.invokevirtual 219, 3) := by decide +kernel
theorem dX10_compare_95 : decode cX10_compare 95 = .ok (.goto 13, 3) := by decide +kernel
theorem dX10_compare_98 : decode cX10_compare 98 = .ok (.new 167, 3) := by decide +kernel
theorem dX10_compare_101 : decode cX10_compare 101 = .ok (.dup, 1) := by decide +kernel
theorem dX10_compare_102 : decode cX10_compare 102 = .ok (.ldc 222, 2) := by decide +kernel
theorem dX10_compare_104 : decode cX10_compare 104 = .ok (.invokespecial 171, 3) := by decide +kernel
theorem dX10_compare_107 : decode cX10_compare 107 = .ok (.athrow, 1) := by decide +kernel
theorem dX10_compare_108 : decode cX10_compare 108 = .ok (.aload 4, 2) := by decide +kernel
theorem dX10_compare_110 : decode cX10_compare 110 = .ok (.invokevirtual 138, 3) := by decide +kernel
theorem dX10_compare_113 : decode cX10_compare 113 = .ok (.ireturn, 1) := by decide +kernel
theorem dX10_isLike_0 : decode cX10_isLike 0 = .ok (.aload_n 0, 1) := by decide +kernel
theorem dX10_isLike_1 : decode cX10_isLike 1 = .ok (.aload_n 0, 1) := by decide +kernel
theorem dX10_isLike_2 : decode cX10_isLike 2 = .ok (.iload_n 1, 1) := by decide +kernel
theorem dX10_isLike_3 : decode cX10_isLike 3 = .ok (.invokevirtual 60, 3) := by decide +kernel
theorem dX10_isLike_6 : decode cX10_isLike 6 = .ok (.aload_n 0, 1) := by decide +kernel
theorem dX10_isLike_7 : decode cX10_isLike 7 = .ok (.iload_n 2, 1) := by decide +kernel
theorem dX10_isLike_8 : decode cX10_isLike 8 = .ok (.invokevirtual 60, 3) := by decide +kernel
theorem dX10_isLike_11 : decode cX10_isLike 11 = .ok (.invokevirtual 200, 3) := by decide +kernel
theorem dX10_isLike_14 : decode cX10_isLike 14 = .ok (.aload_n 0, 1) := by decide +kernel
theorem dX10_isLike_15 : decode cX10_isLike 15 = .ok (.getfield 25, 3) := by decide +kernel
theorem dX10_isLike_18 : decode cX10_isLike 18 = .ok (.getfield 204, 3) := by decide +kernel
theorem dX10_isLike_21 : decode cX10_isLike 21 = .ok (.aload_n 0, 1) := by decide +kernel
theorem dX10_isLike_22 : decode cX10_isLike 22 = .ok (.getfield 29, 3) := by decide +kernel
theorem dX10_isLike_25 : decode cX10_isLike 25 = .ok (.getfield 204, 3) := by decide +kernel
theorem dX10_isLike_28 : decode cX10_isLike 28 = .ok (.invokevirtual 224, 3) := by decide +kernel
theorem dX10_isLike_31 : decode cX10_isLike 31 = .ok (.ireturn, 1) := by decide +kernel
theorem dX10_together_0 : decode cX10_together 0 = .ok (.aload_n 0, 1) := by decide +kernel
theorem dX10_together_1 : decode cX10_together 1 = .ok (.iload_n 1, 1) := by decide +kernel
theorem dX10_together_2 : decode cX10_together 2 = .ok (.invokevirtual 60, 3) := by decide +kernel
theorem dX10_together_5 : decode cX10_together 5 = .ok (.astore 4, 2) := by decide +kernel
theorem dX10_together_7 : decode cX10_together 7 = .ok (.aload_n 0, 1) := by decide +kernel
theorem dX10_together_8 : decode cX10_together 8 = .ok (.iload_n 2, 1) := by decide +kernel
theorem dX10_together_9 : decode cX10_together 9 = .ok (.invokevirtual 60, 3) := by decide +kernel
theorem dX10_together_12 : decode cX10_together 12 = .ok (.astore 5, 2) := by decide +kernel
theorem dX10_together_14 : decode cX10_together 14 = .ok (.iload_n 3, 1) := by decide +kernel
theorem dX10_together_15 : decode cX10_together 15 = .ok (.invokestatic 125, 3) := by decide +kernel
theorem dX10_together_18 : decode cX10_together 18 = .ok (.aload_n 0, 1) := by decide +kernel
theorem dX10_together_19 : decode cX10_together 19 = .ok (.aload 4, 2) := by decide +kernel
theorem dX10_together_21 : decode cX10_together 21 = .ok (.aload 5, 2) := by decide +kernel
theorem dX10_together_23 : decode cX10_together 23 = .ok (.invokevirtual 200, 3) := by decide +kernel
theorem dX10_together_26 : decode cX10_together 26 = .ok (.aload_n 0, 1) := by decide +kernel
theorem dX10_together_27 : decode cX10_together 27 = .ok (.getfield 25, 3) := by decide +kernel
theorem dX10_together_30 : decode cX10_together 30 = .ok (.getfield 204, 3) := by decide +kernel
theorem dX10_together_33 : decode cX10_together 33 = .ok (.aload_n 0, 1) := by decide +kernel
theorem dX10_together_34 : decode cX10_together 34 = .ok (.getfield 29, 3) := by decide +kernel
theorem dX10_together_37 : decode cX10_together 37 = .ok (.getfield 204, 3) := by decide +kernel
theorem dX10_together_40 : decode cX10_together 40 = .ok (.iload_n 3, 1) := by decide +kernel
theorem dX10_together_41 : decode cX10_together 41 = .ok (.aload 5, 2) := by decide +kernel
theorem dX10_together_43 : decode cX10_together 43 = .ok (.invokevirtual 98, 3) := by decide +kernel
theorem dX10_together_46 : decode cX10_together 46 = .ok (.isub, 1) := by decide +kernel
theorem dX10_together_47 : decode cX10_together 47 = .ok (.invokevirtual 208, 3) := by decide +kernel
theorem dX10_together_50 : decode cX10_together 50 = .ok (.aload_n 0, 1) := by decide +kernel
theorem dX10_together_51 : decode cX10_together 51 = .ok (.getfield 25, 3) := by decide +kernel
theorem dX10_together_54 : decode cX10_together 54 = .ok (.getfield 204, 3) := by decide +kernel
theorem dX10_together_57 : decode cX10_together 57 = .ok (.invokevirtual 138, 3) := by decide +kernel
theorem dX10_together_60 : decode cX10_together 60 = .ok (.ireturn, 1) := by decide +kernel
theorem dX10_isParted_0 : decode cX10_isParted 0 = .ok (.aload_n 0, 1) := by decide +kernel
theorem dX10_isParted_1 : decode cX10_isParted 1 = .ok (.iload_n 1, 1) := by decide +kernel
theorem dX10_isParted_2 : decode cX10_isParted 2 = .ok (.invokevirtual 60, 3) := by decide +kernel
theorem dX10_isParted_5 : decode cX10_isParted 5 = .ok (.astore_n 3, 1) := by decide +kernel
theorem dX10_isParted_6 : decode cX10_isParted 6 = .ok (.aload_n 3, 1) := by decide +kernel
theorem dX10_isParted_7 : decode cX10_isParted 7 = .ok (.iload_n 2, 1) := by decide +kernel
theorem dX10_isParted_8 : decode cX10_isParted 8 = .ok (.invokestatic 191, 3) := by decide +kernel
theorem dX10_isParted_11 : decode cX10_isParted 11 = .ok (.aload_n 0, 1) := by decide +kernel
theorem dX10_isParted_12 : decode cX10_isParted 12 = .ok (.getfield 56, 3) := by decide +kernel
theorem dX10_isParted_15 : decode cX10_isParted 15 = .ok (.aload_n 3, 1) := by decide +kernel
theorem dX10_isParted_16 : decode cX10_isParted 16 = .ok (.iload_n 2, 1) := by decide +kernel
theorem dX10_isParted_17 : decode cX10_isParted 17 = .ok (.invokevirtual 228, 3) := by decide +kernel
theorem dX10_isParted_20 : decode cX10_isParted 20 = .ok (.ireturn, 1) := by decide +kernel
theorem dX10_isAll_0 : decode cX10_isAll 0 = .ok (.aload_n 0, 1) := by decide +kernel
theorem dX10_isAll_1 : decode cX10_isAll 1 = .ok (.iload_n 1, 1) := by decide +kernel
theorem dX10_isAll_2 : decode cX10_isAll 2 = .ok (.invokevirtual 60, 3) := by decide +kernel
theorem dX10_isAll_5 : decode cX10_isAll 5 = .ok (.astore_n 3, 1) := by decide +kernel
theorem dX10_isAll_6 : decode cX10_isAll 6 = .ok (.aload_n 3, 1) := by decide +kernel
theorem dX10_isAll_7 : decode cX10_isAll 7 = .ok (.iload_n 2, 1) := by decide +kernel
theorem dX10_isAll_8 : decode cX10_isAll 8 = .ok (.invokestatic 191, 3) := by decide +kernel
theorem dX10_isAll_11 : decode cX10_isAll 11 = .ok (.iload_n 2, 1) := by decide +kernel
theorem dX10_isAll_12 : decode cX10_isAll 12 = .ok (.invokestatic 232, 3) := by decide +kernel
theorem dX10_isAll_15 : decode cX10_isAll 15 = .ok (.bipush 8, 2) := by decide +kernel
theorem dX10_isAll_17 : decode cX10_isAll 17 = .ok (.if_icmp .le 13, 3) := by decide +kernel
theorem dX10_isAll_20 : decode cX10_isAll 20 = .ok (.new 237, 3) := by decide +kernel
theorem dX10_isAll_23 : decode cX10_isAll 23 = .ok (.dup, 1) := by decide +kernel
theorem dX10_isAll_24 : decode cX10_isAll 24 = .ok (.ldc 239, 2) := by decide +kernel
theorem dX10_isAll_26 : decode cX10_isAll 26 = .ok (.invokespecial 241, 3) := by decide +kernel
theorem dX10_isAll_29 : decode cX10_isAll 29 = .ok (.athrow, 1) := by decide +kernel
theorem dX10_isAll_30 : decode cX10_isAll 30 = .ok (.aload_n 0, 1) := by decide +kernel
theorem dX10_isAll_31 : decode cX10_isAll 31 = .ok (.getfield 56, 3) := by decide +kernel
theorem dX10_isAll_34 : decode cX10_isAll 34 = .ok (.aload_n 3, 1) := by decide +kernel
theorem dX10_isAll_35 : decode cX10_isAll 35 = .ok (.iload_n 2, 1) := by decide +kernel
theorem dX10_isAll_36 : decode cX10_isAll 36 = .ok (.invokevirtual 242, 3) := by decide +kernel
theorem dX10_isAll_39 : decode cX10_isAll 39 = .ok (.ireturn, 1) := by decide +kernel
theorem dX10_isLeft_0 : decode cX10_isLeft 0 = .ok (.aload_n 0, 1) := by decide +kernel
theorem dX10_isLeft_1 : decode cX10_isLeft 1 = .ok (.iload_n 1, 1) := by decide +kernel
theorem dX10_isLeft_2 : decode cX10_isLeft 2 = .ok (.invokevirtual 60, 3) := by decide +kernel
theorem dX10_isLeft_5 : decode cX10_isLeft 5 = .ok (.astore_n 3, 1) := by decide +kernel
theorem dX10_isLeft_6 : decode cX10_isLeft 6 = .ok (.aload_n 3, 1) := by decide +kernel
theorem dX10_isLeft_7 : decode cX10_isLeft 7 = .ok (.iload_n 2, 1) := by decide +kernel
theorem dX10_isLeft_8 : decode cX10_isLeft 8 = .ok (.invokestatic 79, 3) := by decide +kernel
theorem dX10_isLeft_11 : decode cX10_isLeft 11 = .ok (.aload_n 0, 1) := by decide +kernel
theorem dX10_isLeft_12 : decode cX10_isLeft 12 = .ok (.getfield 56, 3) := by decide +kernel
theorem dX10_isLeft_15 : decode cX10_isLeft 15 = .ok (.aload_n 3, 1) := by decide +kernel
theorem dX10_isLeft_16 : decode cX10_isLeft 16 = .ok (.iload_n 2, 1) := by decide +kernel
theorem dX10_isLeft_17 : decode cX10_isLeft 17 = .ok (.invokevirtual 245, 3) := by decide +kernel
theorem dX10_isLeft_20 : decode cX10_isLeft 20 = .ok (.ireturn, 1) := by decide +kernel
theorem dX10_isOftenAlike_0 : decode cX10_isOftenAlike 0 = .ok (.aload_n 0, 1) := by decide +kernel
theorem dX10_isOftenAlike_1 : decode cX10_isOftenAlike 1 = .ok (.getfield 56, 3) := by decide +kernel
theorem dX10_isOftenAlike_4 : decode cX10_isOftenAlike 4 = .ok (.aload_n 0, 1) := by decide +kernel
theorem dX10_isOftenAlike_5 : decode cX10_isOftenAlike 5 = .ok (.iload_n 1, 1) := by decide +kernel
theorem dX10_isOftenAlike_6 : decode cX10_isOftenAlike 6 = .ok (.invokevirtual 60, 3) := by decide +kernel
theorem dX10_isOftenAlike_9 : decode cX10_isOftenAlike 9 = .ok (.invokevirtual 248, 3) := by decide +kernel
theorem dX10_isOftenAlike_12 : decode cX10_isOftenAlike 12 = .ok (.ireturn, 1) := by decide +kernel
theorem dX10_isSound_0 : decode cX10_isSound 0 = .ok (.aload_n 0, 1) := by decide +kernel
theorem dX10_isSound_1 : decode cX10_isSound 1 = .ok (.getfield 56, 3) := by decide +kernel
theorem dX10_isSound_4 : decode cX10_isSound 4 = .ok (.aload_n 0, 1) := by decide +kernel
theorem dX10_isSound_5 : decode cX10_isSound 5 = .ok (.getfield 10, 3) := by decide +kernel
theorem dX10_isSound_8 : decode cX10_isSound 8 = .ok (.invokevirtual 252, 3) := by decide +kernel
theorem dX10_isSound_11 : decode cX10_isSound 11 = .ok (.ifCond .eq 21, 3) := by decide +kernel
theorem dX10_isSound_14 : decode cX10_isSound 14 = .ok (.aload_n 0, 1) := by decide +kernel
theorem dX10_isSound_15 : decode cX10_isSound 15 = .ok (.getfield 56, 3) := by decide +kernel
theorem dX10_isSound_18 : decode cX10_isSound 18 = .ok (.aload_n 0, 1) := by decide +kernel
theorem dX10_isSound_19 : decode cX10_isSound 19 = .ok (.getfield 16, 3) := by decide +kernel
theorem dX10_isSound_22 : decode cX10_isSound 22 = .ok (.invokevirtual 252, 3) := by decide +kernel
theorem dX10_isSound_25 : decode cX10_isSound 25 = .ok (.ifCond .eq 7, 3) := by decide +kernel
theorem dX10_isSound_28 : decode cX10_isSound 28 = .ok (.iconst 1, 1) := by decide +kernel
theorem dX10_isSound_29 : decode cX10_isSound 29 = .ok (.goto 4, 3) := by decide +kernel
theorem dX10_isSound_32 : decode cX10_isSound 32 = .ok (.iconst 0, 1) := by decide +kernel
theorem dX10_isSound_33 : decode cX10_isSound 33 = .ok (.ireturn, 1) := by decide +kernel
theorem dX10_checksum_0 : decode cX10_checksum 0 = .ok (.aload_n 0, 1) := by decide +kernel
theorem dX10_checksum_1 : decode cX10_checksum 1 = .ok (.aload_n 0, 1) := by decide +kernel
theorem dX10_checksum_2 : decode cX10_checksum 2 = .ok (.getfield 16, 3) := by decide +kernel
theorem dX10_checksum_5 : decode cX10_checksum 5 = .ok (.aload_n 0, 1) := by decide +kernel
theorem dX10_checksum_6 : decode cX10_checksum 6 = .ok (.aload_n 0, 1) := by decide +kernel
theorem dX10_checksum_7 : decode cX10_checksum 7 = .ok (.getfield 10, 3) := by decide +kernel
theorem dX10_checksum_10 : decode cX10_checksum 10 = .ok (.ldc2_w 255, 3) := by decide +kernel
theorem dX10_checksum_13 : decode cX10_checksum 13 = .ok (.invokevirtual 257, 3) := by decide +kernel
theorem dX10_checksum_16 : decode cX10_checksum 16 = .ok (.invokevirtual 257, 3) := by decide +kernel
theorem dX10_checksum_19 : decode cX10_checksum 19 = .ok (.lreturn, 1) := by decide +kernel
theorem dX10_hoardTold_0 : decode cX10_hoardTold 0 = .ok (.iload_n 1, 1) := by decide +kernel
theorem dX10_hoardTold_1 : decode cX10_hoardTold 1 = .ok (.ifCond .eq 19, 3) := by decide +kernel
theorem dX10_hoardTold_4 : decode cX10_hoardTold 4 = .ok (.iload_n 1, 1) := by decide +kernel
theorem dX10_hoardTold_5 : decode cX10_hoardTold 5 = .ok (.iconst 1, 1) := by decide +kernel
theorem dX10_hoardTold_6 : decode cX10_hoardTold 6 = .ok (.if_icmp .eq 14, 3) := by decide +kernel
theorem dX10_hoardTold_9 : decode cX10_hoardTold 9 = .ok (.new 72, 3) := by decide +kernel
theorem dX10_hoardTold_12 : decode cX10_hoardTold 12 = .ok (.dup, 1) := by decide +kernel
theorem dX10_hoardTold_13 : decode cX10_hoardTold 13 = .ok (.ldc_w 261, 3) := by decide +kernel
theorem dX10_hoardTold_16 : decode cX10_hoardTold 16 = .ok (.invokespecial 76, 3) := by decide +kernel
theorem dX10_hoardTold_19 : decode cX10_hoardTold 19 = .ok (.athrow, 1) := by decide +kernel
theorem dX10_hoardTold_20 : decode cX10_hoardTold 20 = .ok (.iload_n 1, 1) := by decide +kernel
theorem dX10_hoardTold_21 : decode cX10_hoardTold 21 = .ok (.ifCond .ne 10, 3) := by decide +kernel
theorem dX10_hoardTold_24 : decode cX10_hoardTold 24 = .ok (.aload_n 0, 1) := by decide +kernel
theorem dX10_hoardTold_25 : decode cX10_hoardTold 25 = .ok (.getfield 10, 3) := by decide +kernel
theorem dX10_hoardTold_28 : decode cX10_hoardTold 28 = .ok (.goto 7, 3) := by decide +kernel
theorem dX10_hoardTold_31 : decode cX10_hoardTold 31 = .ok (.aload_n 0, 1) := by decide +kernel
theorem dX10_hoardTold_32 : decode cX10_hoardTold 32 = .ok (.getfield 16, 3) := by decide +kernel
theorem dX10_hoardTold_35 : decode cX10_hoardTold 35 = .ok (.areturn, 1) := by decide +kernel
theorem dX10_needPlace_0 : decode cX10_needPlace 0 = .ok (.aload_n 0, 1) := by decide +kernel
theorem dX10_needPlace_1 : decode cX10_needPlace 1 = .ok (.iload_n 1, 1) := by decide +kernel
theorem dX10_needPlace_2 : decode cX10_needPlace 2 = .ok (.invokevirtual 263, 3) := by decide +kernel
theorem dX10_needPlace_5 : decode cX10_needPlace 5 = .ok (.ifCond .ne 14, 3) := by decide +kernel
theorem dX10_needPlace_8 : decode cX10_needPlace 8 = .ok (.new 72, 3) := by decide +kernel
theorem dX10_needPlace_11 : decode cX10_needPlace 11 = .ok (.dup, 1) := by decide +kernel
theorem dX10_needPlace_12 : decode cX10_needPlace 12 = .ok (.ldc_w 266, 3) := by decide +kernel
theorem dX10_needPlace_15 : decode cX10_needPlace 15 = .ok (.invokespecial 76, 3) := by decide +kernel
theorem dX10_needPlace_18 : decode cX10_needPlace 18 = .ok (.athrow, 1) := by decide +kernel
theorem dX10_needPlace_19 : decode cX10_needPlace 19 = .ok (.return_, 1) := by decide +kernel
theorem dX10_needNumber_0 : decode cX10_needNumber 0 = .ok (.iload_n 0, 1) := by decide +kernel
theorem dX10_needNumber_1 : decode cX10_needNumber 1 = .ok (.iconst 1, 1) := by decide +kernel
theorem dX10_needNumber_2 : decode cX10_needNumber 2 = .ok (.if_icmp .lt 9, 3) := by decide +kernel
theorem dX10_needNumber_5 : decode cX10_needNumber 5 = .ok (.iload_n 0, 1) := by decide +kernel
theorem dX10_needNumber_6 : decode cX10_needNumber 6 = .ok (.bipush 120, 2) := by decide +kernel
theorem dX10_needNumber_8 : decode cX10_needNumber 8 = .ok (.if_icmp .le 14, 3) := by decide +kernel
theorem dX10_needNumber_11 : decode cX10_needNumber 11 = .ok (.new 167, 3) := by decide +kernel
theorem dX10_needNumber_14 : decode cX10_needNumber 14 = .ok (.dup, 1) := by decide +kernel
theorem dX10_needNumber_15 : decode cX10_needNumber 15 = .ok (.ldc_w 268, 3) := by decide +kernel
theorem dX10_needNumber_18 : decode cX10_needNumber 18 = .ok (.invokespecial 171, 3) := by decide +kernel
theorem dX10_needNumber_21 : decode cX10_needNumber 21 = .ok (.athrow, 1) := by decide +kernel
theorem dX10_needNumber_22 : decode cX10_needNumber 22 = .ok (.return_, 1) := by decide +kernel
theorem dX10_needSum_0 : decode cX10_needSum 0 = .ok (.iload_n 0, 1) := by decide +kernel
theorem dX10_needSum_1 : decode cX10_needSum 1 = .ok (.ifCond .lt 10, 3) := by decide +kernel
theorem dX10_needSum_4 : decode cX10_needSum 4 = .ok (.iload_n 0, 1) := by decide +kernel
theorem dX10_needSum_5 : decode cX10_needSum 5 = .ok (.sipush 300, 3) := by decide +kernel
theorem dX10_needSum_8 : decode cX10_needSum 8 = .ok (.if_icmp .le 14, 3) := by decide +kernel
theorem dX10_needSum_11 : decode cX10_needSum 11 = .ok (.new 167, 3) := by decide +kernel
theorem dX10_needSum_14 : decode cX10_needSum 14 = .ok (.dup, 1) := by decide +kernel
theorem dX10_needSum_15 : decode cX10_needSum 15 = .ok (.ldc_w 270, 3) := by decide +kernel
theorem dX10_needSum_18 : decode cX10_needSum 18 = .ok (.invokespecial 171, 3) := by decide +kernel
theorem dX10_needSum_21 : decode cX10_needSum 21 = .ok (.athrow, 1) := by decide +kernel
theorem dX10_needSum_22 : decode cX10_needSum 22 = .ok (.return_, 1) := by decide +kernel
theorem dX10_needChoice_0 : decode cX10_needChoice 0 = .ok (.iload_n 1, 1) := by decide +kernel
theorem dX10_needChoice_1 : decode cX10_needChoice 1 = .ok (.ifCond .lt 13, 3) := by decide +kernel
theorem dX10_needChoice_4 : decode cX10_needChoice 4 = .ok (.iload_n 1, 1) := by decide +kernel
theorem dX10_needChoice_5 : decode cX10_needChoice 5 = .ok (.iconst 1, 1) := by decide +kernel
theorem dX10_needChoice_6 : decode cX10_needChoice 6 = .ok (.aload_n 0, 1) := by decide +kernel
theorem dX10_needChoice_7 : decode cX10_needChoice 7 = .ok (.getfield 64, 3) := by decide +kernel
theorem dX10_needChoice_10 : decode cX10_needChoice 10 = .ok (.ishl, 1) := by decide +kernel
theorem dX10_needChoice_11 : decode cX10_needChoice 11 = .ok (.if_icmp .lt 14, 3) := by decide +kernel
theorem dX10_needChoice_14 : decode cX10_needChoice 14 = .ok (.new 167, 3) := by decide +kernel
theorem dX10_needChoice_17 : decode cX10_needChoice 17 = .ok (.dup, 1) := by decide +kernel
theorem dX10_needChoice_18 : decode cX10_needChoice 18 = .ok (.ldc_w 272, 3) := by decide +kernel
theorem dX10_needChoice_21 : decode cX10_needChoice 21 = .ok (.invokespecial 171, 3) := by decide +kernel
theorem dX10_needChoice_24 : decode cX10_needChoice 24 = .ok (.athrow, 1) := by decide +kernel
theorem dX10_needChoice_25 : decode cX10_needChoice 25 = .ok (.return_, 1) := by decide +kernel
theorem dX10_needRoom_0 : decode cX10_needRoom 0 = .ok (.iload_n 0, 1) := by decide +kernel
theorem dX10_needRoom_1 : decode cX10_needRoom 1 = .ok (.bipush 20, 2) := by decide +kernel
theorem dX10_needRoom_3 : decode cX10_needRoom 3 = .ok (.if_icmp .gt 10, 3) := by decide +kernel
theorem dX10_needRoom_6 : decode cX10_needRoom 6 = .ok (.iload_n 1, 1) := by decide +kernel
theorem dX10_needRoom_7 : decode cX10_needRoom 7 = .ok (.sipush 300, 3) := by decide +kernel
theorem dX10_needRoom_10 : decode cX10_needRoom 10 = .ok (.if_icmp .le 14, 3) := by decide +kernel
theorem dX10_needRoom_13 : decode cX10_needRoom 13 = .ok (.new 237, 3) := by decide +kernel
theorem dX10_needRoom_16 : decode cX10_needRoom 16 = .ok (.dup, 1) := by decide +kernel
theorem dX10_needRoom_17 : decode cX10_needRoom 17 = .ok (.ldc_w 274, 3) := by decide +kernel
theorem dX10_needRoom_20 : decode cX10_needRoom 20 = .ok (.invokespecial 241, 3) := by decide +kernel
theorem dX10_needRoom_23 : decode cX10_needRoom 23 = .ok (.athrow, 1) := by decide +kernel
theorem dX10_needRoom_24 : decode cX10_needRoom 24 = .ok (.return_, 1) := by decide +kernel
theorem dX10_putNumber_0 : decode cX10_putNumber 0 = .ok (.iload_n 3, 1) := by decide +kernel
theorem dX10_putNumber_1 : decode cX10_putNumber 1 = .ok (.invokestatic 91, 3) := by decide +kernel
theorem dX10_putNumber_4 : decode cX10_putNumber 4 = .ok (.aload_n 1, 1) := by decide +kernel
theorem dX10_putNumber_5 : decode cX10_putNumber 5 = .ok (.getfield 64, 3) := by decide +kernel
theorem dX10_putNumber_8 : decode cX10_putNumber 8 = .ok (.iconst 1, 1) := by decide +kernel
theorem dX10_putNumber_9 : decode cX10_putNumber 9 = .ok (.iadd, 1) := by decide +kernel
theorem dX10_putNumber_10 : decode cX10_putNumber 10 = .ok (.aload_n 1, 1) := by decide +kernel
theorem dX10_putNumber_11 : decode cX10_putNumber 11 = .ok (.invokevirtual 98, 3) := by decide +kernel
theorem dX10_putNumber_14 : decode cX10_putNumber 14 = .ok (.iload_n 3, 1) := by decide +kernel
theorem dX10_putNumber_15 : decode cX10_putNumber 15 = .ok (.iadd, 1) := by decide +kernel
theorem dX10_putNumber_16 : decode cX10_putNumber 16 = .ok (.invokestatic 102, 3) := by decide +kernel
theorem dX10_putNumber_19 : decode cX10_putNumber 19 = .ok (.aload_n 1, 1) := by decide +kernel
theorem dX10_putNumber_20 : decode cX10_putNumber 20 = .ok (.iload_n 2, 1) := by decide +kernel
theorem dX10_putNumber_21 : decode cX10_putNumber 21 = .ok (.iload_n 3, 1) := by decide +kernel
theorem dX10_putNumber_22 : decode cX10_putNumber 22 = .ok (.invokevirtual 109, 3) := by decide +kernel
theorem dX10_putNumber_25 : decode cX10_putNumber 25 = .ok (.aload_n 0, 1) := by decide +kernel
theorem dX10_putNumber_26 : decode cX10_putNumber 26 = .ok (.aload_n 1, 1) := by decide +kernel
theorem dX10_putNumber_27 : decode cX10_putNumber 27 = .ok (.invokevirtual 83, 3) := by decide +kernel
theorem dX10_putNumber_30 : decode cX10_putNumber 30 = .ok (.ireturn, 1) := by decide +kernel
theorem dX10_madeBy_0 : decode cX10_madeBy 0 = .ok (.iload_n 2, 1) := by decide +kernel
theorem dX10_madeBy_1 : decode cX10_madeBy 1 = .ok (.ifCond .eq 14, 3) := by decide +kernel
theorem dX10_madeBy_4 : decode cX10_madeBy 4 = .ok (.aload_n 0, 1) := by decide +kernel
theorem dX10_madeBy_5 : decode cX10_madeBy 5 = .ok (.getfield 25, 3) := by decide +kernel
theorem dX10_madeBy_8 : decode cX10_madeBy 8 = .ok (.aload_n 1, 1) := by decide +kernel
theorem dX10_madeBy_9 : decode cX10_madeBy 9 = .ok (.invokevirtual 276, 3) := by decide +kernel
theorem dX10_madeBy_12 : decode cX10_madeBy 12 = .ok (.goto 11, 3) := by decide +kernel
theorem dX10_madeBy_15 : decode cX10_madeBy 15 = .ok (.aload_n 0, 1) := by decide +kernel
theorem dX10_madeBy_16 : decode cX10_madeBy 16 = .ok (.getfield 25, 3) := by decide +kernel
theorem dX10_madeBy_19 : decode cX10_madeBy 19 = .ok (.aload_n 1, 1) := by decide +kernel
theorem dX10_madeBy_20 : decode cX10_madeBy 20 = .ok (.invokevirtual 279, 3) := by decide +kernel
theorem dX10_madeBy_23 : decode cX10_madeBy 23 = .ok (.aload_n 0, 1) := by decide +kernel
theorem dX10_madeBy_24 : decode cX10_madeBy 24 = .ok (.getfield 25, 3) := by decide +kernel
theorem dX10_madeBy_27 : decode cX10_madeBy 27 = .ok (.getfield 204, 3) := by decide +kernel
theorem dX10_madeBy_30 : decode cX10_madeBy 30 = .ok (.areturn, 1) := by decide +kernel
theorem dX10_countOnce_0 : decode cX10_countOnce 0 = .ok (.aload_n 0, 1) := by decide +kernel
theorem dX10_countOnce_1 : decode cX10_countOnce 1 = .ok (.getfield 25, 3) := by decide +kernel
theorem dX10_countOnce_4 : decode cX10_countOnce 4 = .ok (.aload_n 1, 1) := by decide +kernel
theorem dX10_countOnce_5 : decode cX10_countOnce 5 = .ok (.invokevirtual 279, 3) := by decide +kernel
theorem dX10_countOnce_8 : decode cX10_countOnce 8 = .ok (.aload_n 0, 1) := by decide +kernel
theorem dX10_countOnce_9 : decode cX10_countOnce 9 = .ok (.getfield 25, 3) := by decide +kernel
theorem dX10_countOnce_12 : decode cX10_countOnce 12 = .ok (.getfield 204, 3) := by decide +kernel
theorem dX10_countOnce_15 : decode cX10_countOnce 15 = .ok (.invokevirtual 138, 3) := by decide +kernel
theorem dX10_countOnce_18 : decode cX10_countOnce 18 = .ok (.ireturn, 1) := by decide +kernel
theorem dX10_fillBoth_0 : decode cX10_fillBoth 0 = .ok (.aload_n 0, 1) := by decide +kernel
theorem dX10_fillBoth_1 : decode cX10_fillBoth 1 = .ok (.getfield 25, 3) := by decide +kernel
theorem dX10_fillBoth_4 : decode cX10_fillBoth 4 = .ok (.aload_n 1, 1) := by decide +kernel
theorem dX10_fillBoth_5 : decode cX10_fillBoth 5 = .ok (.invokevirtual 279, 3) := by decide +kernel
theorem dX10_fillBoth_8 : decode cX10_fillBoth 8 = .ok (.aload_n 0, 1) := by decide +kernel
theorem dX10_fillBoth_9 : decode cX10_fillBoth 9 = .ok (.getfield 29, 3) := by decide +kernel
theorem dX10_fillBoth_12 : decode cX10_fillBoth 12 = .ok (.aload_n 2, 1) := by decide +kernel
theorem dX10_fillBoth_13 : decode cX10_fillBoth 13 = .ok (.invokevirtual 279, 3) := by decide +kernel
theorem dX10_fillBoth_16 : decode cX10_fillBoth 16 = .ok (.return_, 1) := by decide +kernel
theorem dX10_firstThatIs_0 : decode cX10_firstThatIs 0 = .ok (.iload_n 2, 1) := by decide +kernel
theorem dX10_firstThatIs_1 : decode cX10_firstThatIs 1 = .ok (.istore_n 3, 1) := by decide +kernel
theorem dX10_firstThatIs_2 : decode cX10_firstThatIs 2 = .ok (.iload_n 3, 1) := by decide +kernel
theorem dX10_firstThatIs_3 : decode cX10_firstThatIs 3 = .ok (.sipush 300, 3) := by decide +kernel
theorem dX10_firstThatIs_6 : decode cX10_firstThatIs 6 = .ok (.if_icmp .gt 20, 3) := by decide +kernel
theorem dX10_firstThatIs_9 : decode cX10_firstThatIs 9 = .ok (.aload_n 1, 1) := by decide +kernel
theorem dX10_firstThatIs_10 : decode cX10_firstThatIs 10 = .ok (.iload_n 3, 1) := by decide +kernel
theorem dX10_firstThatIs_11 : decode cX10_firstThatIs 11 = .ok (.invokevirtual 132, 3) := by decide +kernel
theorem dX10_firstThatIs_14 : decode cX10_firstThatIs 14 = .ok (.iload_n 0, 1) := by decide +kernel
theorem dX10_firstThatIs_15 : decode cX10_firstThatIs 15 = .ok (.if_icmp .ne 5, 3) := by decide +kernel
theorem dX10_firstThatIs_18 : decode cX10_firstThatIs 18 = .ok (.iload_n 3, 1) := by decide +kernel
theorem dX10_firstThatIs_19 : decode cX10_firstThatIs 19 = .ok (.ireturn, 1) := by decide +kernel
theorem dX10_firstThatIs_20 : decode cX10_firstThatIs 20 = .ok (.iinc 3 1, 3) := by decide +kernel
theorem dX10_firstThatIs_23 : decode cX10_firstThatIs 23 = .ok (.goto (-21), 3) := by decide +kernel
theorem dX10_firstThatIs_26 : decode cX10_firstThatIs 26 = .ok (.new 145, 3) := by decide +kernel
theorem dX10_firstThatIs_29 : decode cX10_firstThatIs 29 = .ok (.dup, 1) := by decide +kernel
theorem dX10_firstThatIs_30 : decode cX10_firstThatIs 30 = .ok (.ldc_w 282, 3) := by decide +kernel
theorem dX10_firstThatIs_33 : decode cX10_firstThatIs 33 = .ok (.invokespecial 149, 3) := by decide +kernel
theorem dX10_firstThatIs_36 : decode cX10_firstThatIs 36 = .ok (.athrow, 1) := by decide +kernel
theorem dX10_checksumOn_0 : decode cX10_checksumOn 0 = .ok (.aload_n 0, 1) := by decide +kernel
theorem dX10_checksumOn_1 : decode cX10_checksumOn 1 = .ok (.getfield 35, 3) := by decide +kernel
theorem dX10_checksumOn_4 : decode cX10_checksumOn 4 = .ok (.aload_n 1, 1) := by decide +kernel
theorem dX10_checksumOn_5 : decode cX10_checksumOn 5 = .ok (.iconst 0, 1) := by decide +kernel
theorem dX10_checksumOn_6 : decode cX10_checksumOn 6 = .ok (.invokevirtual 150, 3) := by decide +kernel
theorem dX10_checksumOn_9 : decode cX10_checksumOn 9 = .ok (.ldc2_w 284, 3) := by decide +kernel
theorem dX10_checksumOn_12 : decode cX10_checksumOn 12 = .ok (.lload_n 2, 1) := by decide +kernel
theorem dX10_checksumOn_13 : decode cX10_checksumOn 13 = .ok (.lmul, 1) := by decide +kernel
theorem dX10_checksumOn_14 : decode cX10_checksumOn 14 = .ok (.aload_n 1, 1) := by decide +kernel
theorem dX10_checksumOn_15 : decode cX10_checksumOn 15 = .ok (.getfield 64, 3) := by decide +kernel
theorem dX10_checksumOn_18 : decode cX10_checksumOn 18 = .ok (.i2l, 1) := by decide +kernel
theorem dX10_checksumOn_19 : decode cX10_checksumOn 19 = .ok (.ladd, 1) := by decide +kernel
theorem dX10_checksumOn_20 : decode cX10_checksumOn 20 = .ok (.lstore 4, 2) := by decide +kernel
theorem dX10_checksumOn_22 : decode cX10_checksumOn 22 = .ok (.iconst 0, 1) := by decide +kernel
theorem dX10_checksumOn_23 : decode cX10_checksumOn 23 = .ok (.istore 6, 2) := by decide +kernel
theorem dX10_checksumOn_25 : decode cX10_checksumOn 25 = .ok (.iload 6, 2) := by decide +kernel
theorem dX10_checksumOn_27 : decode cX10_checksumOn 27 = .ok (.aload_n 1, 1) := by decide +kernel
theorem dX10_checksumOn_28 : decode cX10_checksumOn 28 = .ok (.getfield 64, 3) := by decide +kernel
theorem dX10_checksumOn_31 : decode cX10_checksumOn 31 = .ok (.if_icmp .ge 25, 3) := by decide +kernel
theorem dX10_checksumOn_34 : decode cX10_checksumOn 34 = .ok (.ldc2_w 284, 3) := by decide +kernel
theorem dX10_checksumOn_37 : decode cX10_checksumOn 37 = .ok (.lload 4, 2) := by decide +kernel
theorem dX10_checksumOn_39 : decode cX10_checksumOn 39 = .ok (.lmul, 1) := by decide +kernel
theorem dX10_checksumOn_40 : decode cX10_checksumOn 40 = .ok (.aload_n 1, 1) := by decide +kernel
theorem dX10_checksumOn_41 : decode cX10_checksumOn 41 = .ok (.iload 6, 2) := by decide +kernel
theorem dX10_checksumOn_43 : decode cX10_checksumOn 43 = .ok (.invokevirtual 95, 3) := by decide +kernel
theorem dX10_checksumOn_46 : decode cX10_checksumOn 46 = .ok (.i2l, 1) := by decide +kernel
theorem dX10_checksumOn_47 : decode cX10_checksumOn 47 = .ok (.ladd, 1) := by decide +kernel
theorem dX10_checksumOn_48 : decode cX10_checksumOn 48 = .ok (.lstore 4, 2) := by decide +kernel
theorem dX10_checksumOn_50 : decode cX10_checksumOn 50 = .ok (.iinc 6 1, 3) := by decide +kernel
theorem dX10_checksumOn_53 : decode cX10_checksumOn 53 = .ok (.goto (-28), 3) := by decide +kernel
theorem dX10_checksumOn_56 : decode cX10_checksumOn 56 = .ok (.iconst 0, 1) := by decide +kernel
theorem dX10_checksumOn_57 : decode cX10_checksumOn 57 = .ok (.istore 6, 2) := by decide +kernel
theorem dX10_checksumOn_59 : decode cX10_checksumOn 59 = .ok (.iload 6, 2) := by decide +kernel
theorem dX10_checksumOn_61 : decode cX10_checksumOn 61 = .ok (.sipush 300, 3) := by decide +kernel
theorem dX10_checksumOn_64 : decode cX10_checksumOn 64 = .ok (.if_icmp .gt 27, 3) := by decide +kernel
theorem dX10_checksumOn_67 : decode cX10_checksumOn 67 = .ok (.ldc2_w 284, 3) := by decide +kernel
theorem dX10_checksumOn_70 : decode cX10_checksumOn 70 = .ok (.lload 4, 2) := by decide +kernel
theorem dX10_checksumOn_72 : decode cX10_checksumOn 72 = .ok (.lmul, 1) := by decide +kernel
theorem dX10_checksumOn_73 : decode cX10_checksumOn 73 = .ok (.aload_n 0, 1) := by decide +kernel
theorem dX10_checksumOn_74 : decode cX10_checksumOn 74 = .ok (.getfield 35, 3) := by decide +kernel
theorem dX10_checksumOn_77 : decode cX10_checksumOn 77 = .ok (.iload 6, 2) := by decide +kernel
theorem dX10_checksumOn_79 : decode cX10_checksumOn 79 = .ok (.invokevirtual 154, 3) := by decide +kernel
theorem dX10_checksumOn_82 : decode cX10_checksumOn 82 = .ok (.ladd, 1) := by decide +kernel
theorem dX10_checksumOn_83 : decode cX10_checksumOn 83 = .ok (.lstore 4, 2) := by decide +kernel
theorem dX10_checksumOn_85 : decode cX10_checksumOn 85 = .ok (.iinc 6 1, 3) := by decide +kernel
theorem dX10_checksumOn_88 : decode cX10_checksumOn 88 = .ok (.goto (-29), 3) := by decide +kernel
theorem dX10_checksumOn_91 : decode cX10_checksumOn 91 = .ok (.lload 4, 2) := by decide +kernel
theorem dX10_checksumOn_93 : decode cX10_checksumOn 93 = .ok (.lreturn, 1) := by decide +kernel
