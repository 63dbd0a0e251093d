theorem dX11_init_0 : decode cX11_init 0 = .ok (.aload_n 0, 1) := by decide +kernel
theorem dX11_init_1 : decode cX11_init 1 = .ok (.invokespecial 1, 3) := by decide +kernel
theorem dX11_init_4 : decode cX11_init 4 = .ok (.aload_n 0, 1) := by decide +kernel
theorem dX11_init_5 : decode cX11_init 5 = .ok (.iconst 2, 1) := by decide +kernel
theorem dX11_init_6 : decode cX11_init 6 = .ok (.bipush 20, 2) := by decide +kernel
theorem dX11_init_8 : decode cX11_init 8 = .ok (.multianewarray 9 2, 4) := by decide +kernel
theorem dX11_init_12 : decode cX11_init 12 = .ok (.putfield 11, 3) := by decide +kernel
theorem dX11_init_15 : decode cX11_init 15 = .ok (.aload_n 0, 1) := by decide +kernel
theorem dX11_init_16 : decode cX11_init 16 = .ok (.iconst 2, 1) := by decide +kernel
theorem dX11_init_17 : decode cX11_init 17 = .ok (.newarray .int, 2) := by decide +kernel
theorem dX11_init_19 : decode cX11_init 19 = .ok (.putfield 14, 3) := by decide +kernel
theorem dX11_init_22 : decode cX11_init 22 = .ok (.aload_n 0, 1) := by decide +kernel
theorem dX11_init_23 : decode cX11_init 23 = .ok (.iconst 2, 1) := by decide +kernel
theorem dX11_init_24 : decode cX11_init 24 = .ok (.sipush 301, 3) := by decide +kernel
theorem dX11_init_27 : decode cX11_init 27 = .ok (.multianewarray 18 2, 4) := by decide +kernel
theorem dX11_init_31 : decode cX11_init 31 = .ok (.putfield 20, 3) := by decide +kernel
theorem dX11_init_34 : decode cX11_init 34 = .ok (.aload_n 0, 1) := by decide +kernel
theorem dX11_init_35 : decode cX11_init 35 = .ok (.sipush 301, 3) := by decide +kernel
theorem dX11_init_38 : decode cX11_init 38 = .ok (.newarray .long, 2) := by decide +kernel
theorem dX11_init_40 : decode cX11_init 40 = .ok (.putfield 23, 3) := by decide +kernel
theorem dX11_init_43 : decode cX11_init 43 = .ok (.aload_n 0, 1) := by decide +kernel
theorem dX11_init_44 : decode cX11_init 44 = .ok (.sipush 301, 3) := by decide +kernel
theorem dX11_init_47 : decode cX11_init 47 = .ok (.newarray .int, 2) := by decide +kernel
theorem dX11_init_49 : decode cX11_init 49 = .ok (.putfield 27, 3) := by decide +kernel
theorem dX11_init_52 : decode cX11_init 52 = .ok (.aload_n 0, 1) := by decide +kernel
theorem dX11_init_53 : decode cX11_init 53 = .ok (.getfield 20, 3) := by decide +kernel
theorem dX11_init_56 : decode cX11_init 56 = .ok (.iconst 0, 1) := by decide +kernel
theorem dX11_init_57 : decode cX11_init 57 = .ok (.aaload, 1) := by decide +kernel
theorem dX11_init_58 : decode cX11_init 58 = .ok (.iconst 0, 1) := by decide +kernel
theorem dX11_init_59 : decode cX11_init 59 = .ok (.lconst 1, 1) := by decide +kernel
theorem dX11_init_60 : decode cX11_init 60 = .ok (.lastore, 1) := by decide +kernel
theorem dX11_init_61 : decode cX11_init 61 = .ok (.aload_n 0, 1) := by decide +kernel
theorem dX11_init_62 : decode cX11_init 62 = .ok (.getfield 20, 3) := by decide +kernel
theorem dX11_init_65 : decode cX11_init 65 = .ok (.iconst 1, 1) := by decide +kernel
theorem dX11_init_66 : decode cX11_init 66 = .ok (.aaload, 1) := by decide +kernel
theorem dX11_init_67 : decode cX11_init 67 = .ok (.iconst 0, 1) := by decide +kernel
theorem dX11_init_68 : decode cX11_init 68 = .ok (.lconst 1, 1) := by decide +kernel
theorem dX11_init_69 : decode cX11_init 69 = .ok (.lastore, 1) := by decide +kernel
theorem dX11_init_70 : decode cX11_init 70 = .ok (.return_, 1) := by decide +kernel
theorem dX11_thrown_0 : decode cX11_thrown 0 = .ok (.aload_n 0, 1) := by decide +kernel
theorem dX11_thrown_1 : decode cX11_thrown 1 = .ok (.getfield 30, 3) := by decide +kernel
theorem dX11_thrown_4 : decode cX11_thrown 4 = .ok (.ireturn, 1) := by decide +kernel
theorem dX11_no_0 : decode cX11_no 0 = .ok (.aload_n 0, 1) := by decide +kernel
theorem dX11_no_1 : decode cX11_no 1 = .ok (.iload_n 1, 1) := by decide +kernel
theorem dX11_no_2 : decode cX11_no 2 = .ok (.ifCond .eq 7, 3) := by decide +kernel
theorem dX11_no_5 : decode cX11_no 5 = .ok (.iconst 0, 1) := by decide +kernel
theorem dX11_no_6 : decode cX11_no 6 = .ok (.goto 4, 3) := by decide +kernel
theorem dX11_no_9 : decode cX11_no 9 = .ok (.iload_n 2, 1) := by decide +kernel
theorem dX11_no_10 : decode cX11_no 10 = .ok (.putfield 30, 3) := by decide +kernel
theorem dX11_no_13 : decode cX11_no 13 = .ok (.iload_n 1, 1) := by decide +kernel
theorem dX11_no_14 : decode cX11_no 14 = .ok (.ifCond .ne 7, 3) := by decide +kernel
theorem dX11_no_17 : decode cX11_no 17 = .ok (.iconst 1, 1) := by decide +kernel
theorem dX11_no_18 : decode cX11_no 18 = .ok (.goto 4, 3) := by decide +kernel
theorem dX11_no_21 : decode cX11_no 21 = .ok (.iconst 0, 1) := by decide +kernel
theorem dX11_no_22 : decode cX11_no 22 = .ok (.ireturn, 1) := by decide +kernel
theorem dX11_in_0 : decode cX11_in 0 = .ok (.iload_n 0, 1) := by decide +kernel
theorem dX11_in_1 : decode cX11_in 1 = .ok (.iload_n 1, 1) := by decide +kernel
theorem dX11_in_2 : decode cX11_in 2 = .ok (.if_icmp .lt 12, 3) := by decide +kernel
theorem dX11_in_5 : decode cX11_in 5 = .ok (.iload_n 0, 1) := by decide +kernel
theorem dX11_in_6 : decode cX11_in 6 = .ok (.iload_n 2, 1) := by decide +kernel
theorem dX11_in_7 : decode cX11_in 7 = .ok (.if_icmp .gt 7, 3) := by decide +kernel
theorem dX11_in_10 : decode cX11_in 10 = .ok (.iconst 1, 1) := by decide +kernel
theorem dX11_in_11 : decode cX11_in 11 = .ok (.goto 4, 3) := by decide +kernel
theorem dX11_in_14 : decode cX11_in 14 = .ok (.iconst 0, 1) := by decide +kernel
theorem dX11_in_15 : decode cX11_in 15 = .ok (.ireturn, 1) := by decide +kernel
theorem dX11_isHoard_0 : decode cX11_isHoard 0 = .ok (.iload_n 0, 1) := by decide +kernel
theorem dX11_isHoard_1 : decode cX11_isHoard 1 = .ok (.iconst 0, 1) := by decide +kernel
theorem dX11_isHoard_2 : decode cX11_isHoard 2 = .ok (.iconst 1, 1) := by decide +kernel
theorem dX11_isHoard_3 : decode cX11_isHoard 3 = .ok (.invokestatic 34, 3) := by decide +kernel
theorem dX11_isHoard_6 : decode cX11_isHoard 6 = .ok (.ireturn, 1) := by decide +kernel
theorem dX11_isPlace_0 : decode cX11_isPlace 0 = .ok (.iload_n 1, 1) := by decide +kernel
theorem dX11_isPlace_1 : decode cX11_isPlace 1 = .ok (.invokestatic 38, 3) := by decide +kernel
theorem dX11_isPlace_4 : decode cX11_isPlace 4 = .ok (.ifCond .eq 23, 3) := by decide +kernel
theorem dX11_isPlace_7 : decode cX11_isPlace 7 = .ok (.iload_n 2, 1) := by decide +kernel
theorem dX11_isPlace_8 : decode cX11_isPlace 8 = .ok (.iconst 0, 1) := by decide +kernel
theorem dX11_isPlace_9 : decode cX11_isPlace 9 = .ok (.aload_n 0, 1) := by decide +kernel
theorem dX11_isPlace_10 : decode cX11_isPlace 10 = .ok (.getfield 14, 3) := by decide +kernel
theorem dX11_isPlace_13 : decode cX11_isPlace 13 = .ok (.iload_n 1, 1) := by decide +kernel
theorem dX11_isPlace_14 : decode cX11_isPlace 14 = .ok (.iaload, 1) := by decide +kernel
theorem dX11_isPlace_15 : decode cX11_isPlace 15 = .ok (.iconst 1, 1) := by decide +kernel
theorem dX11_isPlace_16 : decode cX11_isPlace 16 = .ok (.isub, 1) := by decide +kernel
theorem dX11_isPlace_17 : decode cX11_isPlace 17 = .ok (.invokestatic 34, 3) := by decide +kernel
theorem dX11_isPlace_20 : decode cX11_isPlace 20 = .ok (.ifCond .eq 7, 3) := by decide +kernel
theorem dX11_isPlace_23 : decode cX11_isPlace 23 = .ok (.iconst 1, 1) := by decide +kernel
theorem dX11_isPlace_24 : decode cX11_isPlace 24 = .ok (.goto 4, 3) := by decide +kernel
theorem dX11_isPlace_27 : decode cX11_isPlace 27 = .ok (.iconst 0, 1) := by decide +kernel
theorem dX11_isPlace_28 : decode cX11_isPlace 28 = .ok (.ireturn, 1) := by decide +kernel
theorem dX11_lacks_0 : decode cX11_lacks 0 = .ok (.aload_n 0, 1) := by decide +kernel
theorem dX11_lacks_1 : decode cX11_lacks 1 = .ok (.iload_n 1, 1) := by decide +kernel
theorem dX11_lacks_2 : decode cX11_lacks 2 = .ok (.invokestatic 38, 3) := by decide +kernel
theorem dX11_lacks_5 : decode cX11_lacks 5 = .ok (.iconst 1, 1) := by decide +kernel
theorem dX11_lacks_6 : decode cX11_lacks 6 = .ok (.invokevirtual 42, 3) := by decide +kernel
theorem dX11_lacks_9 : decode cX11_lacks 9 = .ok (.ireturn, 1) := by decide +kernel
theorem dX11_lacksSum_0 : decode cX11_lacksSum 0 = .ok (.aload_n 0, 1) := by decide +kernel
theorem dX11_lacksSum_1 : decode cX11_lacksSum 1 = .ok (.iload_n 1, 1) := by decide +kernel
theorem dX11_lacksSum_2 : decode cX11_lacksSum 2 = .ok (.invokestatic 38, 3) := by decide +kernel
theorem dX11_lacksSum_5 : decode cX11_lacksSum 5 = .ok (.iconst 1, 1) := by decide +kernel
theorem dX11_lacksSum_6 : decode cX11_lacksSum 6 = .ok (.invokevirtual 42, 3) := by decide +kernel
theorem dX11_lacksSum_9 : decode cX11_lacksSum 9 = .ok (.ifCond .ne 19, 3) := by decide +kernel
theorem dX11_lacksSum_12 : decode cX11_lacksSum 12 = .ok (.aload_n 0, 1) := by decide +kernel
theorem dX11_lacksSum_13 : decode cX11_lacksSum 13 = .ok (.iload_n 2, 1) := by decide +kernel
theorem dX11_lacksSum_14 : decode cX11_lacksSum 14 = .ok (.iconst 0, 1) := by decide +kernel
theorem dX11_lacksSum_15 : decode cX11_lacksSum 15 = .ok (.sipush 300, 3) := by decide +kernel
theorem dX11_lacksSum_18 : decode cX11_lacksSum 18 = .ok (.invokestatic 34, 3) := by decide +kernel
theorem dX11_lacksSum_21 : decode cX11_lacksSum 21 = .ok (.iconst 2, 1) := by decide +kernel
theorem dX11_lacksSum_22 : decode cX11_lacksSum 22 = .ok (.invokevirtual 42, 3) := by decide +kernel
theorem dX11_lacksSum_25 : decode cX11_lacksSum 25 = .ok (.ifCond .eq 7, 3) := by decide +kernel
theorem dX11_lacksSum_28 : decode cX11_lacksSum 28 = .ok (.iconst 1, 1) := by decide +kernel
theorem dX11_lacksSum_29 : decode cX11_lacksSum 29 = .ok (.goto 4, 3) := by decide +kernel
theorem dX11_lacksSum_32 : decode cX11_lacksSum 32 = .ok (.iconst 0, 1) := by decide +kernel
theorem dX11_lacksSum_33 : decode cX11_lacksSum 33 = .ok (.ireturn, 1) := by decide +kernel
theorem dX11_lacksChoice_0 : decode cX11_lacksChoice 0 = .ok (.aload_n 0, 1) := by decide +kernel
theorem dX11_lacksChoice_1 : decode cX11_lacksChoice 1 = .ok (.iload_n 1, 1) := by decide +kernel
theorem dX11_lacksChoice_2 : decode cX11_lacksChoice 2 = .ok (.invokestatic 38, 3) := by decide +kernel
theorem dX11_lacksChoice_5 : decode cX11_lacksChoice 5 = .ok (.iconst 1, 1) := by decide +kernel
theorem dX11_lacksChoice_6 : decode cX11_lacksChoice 6 = .ok (.invokevirtual 42, 3) := by decide +kernel
theorem dX11_lacksChoice_9 : decode cX11_lacksChoice 9 = .ok (.ifCond .ne 26, 3) := by decide +kernel
theorem dX11_lacksChoice_12 : decode cX11_lacksChoice 12 = .ok (.aload_n 0, 1) := by decide +kernel
theorem dX11_lacksChoice_13 : decode cX11_lacksChoice 13 = .ok (.iload_n 2, 1) := by decide +kernel
theorem dX11_lacksChoice_14 : decode cX11_lacksChoice 14 = .ok (.iconst 0, 1) := by decide +kernel
theorem dX11_lacksChoice_15 : decode cX11_lacksChoice 15 = .ok (.iconst 1, 1) := by decide +kernel
theorem dX11_lacksChoice_16 : decode cX11_lacksChoice 16 = .ok (.aload_n 0, 1) := by decide +kernel
theorem dX11_lacksChoice_17 : decode cX11_lacksChoice 17 = .ok (.getfield 14, 3) := by decide +kernel
theorem dX11_lacksChoice_20 : decode cX11_lacksChoice 20 = .ok (.iload_n 1, 1) := by decide +kernel
theorem dX11_lacksChoice_21 : decode cX11_lacksChoice 21 = .ok (.iaload, 1) := by decide +kernel
theorem dX11_lacksChoice_22 : decode cX11_lacksChoice 22 = .ok (.ishl, 1) := by decide +kernel
theorem dX11_lacksChoice_23 : decode cX11_lacksChoice 23 = .ok (.iconst 1, 1) := by decide +kernel
theorem dX11_lacksChoice_24 : decode cX11_lacksChoice 24 = .ok (.isub, 1) := by decide +kernel
theorem dX11_lacksChoice_25 : decode cX11_lacksChoice 25 = .ok (.invokestatic 34, 3) := by decide +kernel
theorem dX11_lacksChoice_28 : decode cX11_lacksChoice 28 = .ok (.iconst 2, 1) := by decide +kernel
theorem dX11_lacksChoice_29 : decode cX11_lacksChoice 29 = .ok (.invokevirtual 42, 3) := by decide +kernel
theorem dX11_lacksChoice_32 : decode cX11_lacksChoice 32 = .ok (.ifCond .eq 7, 3) := by decide +kernel
theorem dX11_lacksChoice_35 : decode cX11_lacksChoice 35 = .ok (.iconst 1, 1) := by decide +kernel
theorem dX11_lacksChoice_36 : decode cX11_lacksChoice 36 = .ok (.goto 4, 3) := by decide +kernel
theorem dX11_lacksChoice_39 : decode cX11_lacksChoice 39 = .ok (.iconst 0, 1) := by decide +kernel
theorem dX11_lacksChoice_40 : decode cX11_lacksChoice 40 = .ok (.ireturn, 1) := by decide +kernel
theorem dX11_sumOfAll_0 : decode cX11_sumOfAll 0 = .ok (.iconst 0, 1) := by decide +kernel
theorem dX11_sumOfAll_1 : decode cX11_sumOfAll 1 = .ok (.istore_n 2, 1) := by decide +kernel
theorem dX11_sumOfAll_2 : decode cX11_sumOfAll 2 = .ok (.iconst 0, 1) := by decide +kernel
theorem dX11_sumOfAll_3 : decode cX11_sumOfAll 3 = .ok (.istore_n 3, 1) := by decide +kernel
theorem dX11_sumOfAll_4 : decode cX11_sumOfAll 4 = .ok (.iload_n 3, 1) := by decide +kernel
theorem dX11_sumOfAll_5 : decode cX11_sumOfAll 5 = .ok (.aload_n 0, 1) := by decide +kernel
theorem dX11_sumOfAll_6 : decode cX11_sumOfAll 6 = .ok (.getfield 14, 3) := by decide +kernel
theorem dX11_sumOfAll_9 : decode cX11_sumOfAll 9 = .ok (.iload_n 1, 1) := by decide +kernel
theorem dX11_sumOfAll_10 : decode cX11_sumOfAll 10 = .ok (.iaload, 1) := by decide +kernel
theorem dX11_sumOfAll_11 : decode cX11_sumOfAll 11 = .ok (.if_icmp .ge 20, 3) := by decide +kernel
theorem dX11_sumOfAll_14 : decode cX11_sumOfAll 14 = .ok (.iload_n 2, 1) := by decide +kernel
theorem dX11_sumOfAll_15 : decode cX11_sumOfAll 15 = .ok (.aload_n 0, 1) := by decide +kernel
theorem dX11_sumOfAll_16 : decode cX11_sumOfAll 16 = .ok (.getfield 11, 3) := by decide +kernel
theorem dX11_sumOfAll_19 : decode cX11_sumOfAll 19 = .ok (.iload_n 1, 1) := by decide +kernel
theorem dX11_sumOfAll_20 : decode cX11_sumOfAll 20 = .ok (.aaload, 1) := by decide +kernel
theorem dX11_sumOfAll_21 : decode cX11_sumOfAll 21 = .ok (.iload_n 3, 1) := by decide +kernel
theorem dX11_sumOfAll_22 : decode cX11_sumOfAll 22 = .ok (.iaload, 1) := by decide +kernel
theorem dX11_sumOfAll_23 : decode cX11_sumOfAll 23 = .ok (.iadd, 1) := by decide +kernel
theorem dX11_sumOfAll_24 : decode cX11_sumOfAll 24 = .ok (.istore_n 2, 1) := by decide +kernel
theorem dX11_sumOfAll_25 : decode cX11_sumOfAll 25 = .ok (.iinc 3 1, 3) := by decide +kernel
theorem dX11_sumOfAll_28 : decode cX11_sumOfAll 28 = .ok (.goto (-24), 3) := by decide +kernel
theorem dX11_sumOfAll_31 : decode cX11_sumOfAll 31 = .ok (.iload_n 2, 1) := by decide +kernel
theorem dX11_sumOfAll_32 : decode cX11_sumOfAll 32 = .ok (.ireturn, 1) := by decide +kernel
theorem dX11_sumOfSome_0 : decode cX11_sumOfSome 0 = .ok (.iconst 0, 1) := by decide +kernel
theorem dX11_sumOfSome_1 : decode cX11_sumOfSome 1 = .ok (.istore_n 3, 1) := by decide +kernel
theorem dX11_sumOfSome_2 : decode cX11_sumOfSome 2 = .ok (.iconst 0, 1) := by decide +kernel
theorem dX11_sumOfSome_3 : decode cX11_sumOfSome 3 = .ok (.istore 4, 2) := by decide +kernel
theorem dX11_sumOfSome_5 : decode cX11_sumOfSome 5 = .ok (.iload 4, 2) := by decide +kernel
theorem dX11_sumOfSome_7 : decode cX11_sumOfSome 7 = .ok (.aload_n 0, 1) := by decide +kernel
theorem dX11_sumOfSome_8 : decode cX11_sumOfSome 8 = .ok (.getfield 14, 3) := by decide +kernel
theorem dX11_sumOfSome_11 : decode cX11_sumOfSome 11 = .ok (.iload_n 1, 1) := by decide +kernel
theorem dX11_sumOfSome_12 : decode cX11_sumOfSome 12 = .ok (.iaload, 1) := by decide +kernel
theorem dX11_sumOfSome_13 : decode cX11_sumOfSome 13 = .ok (.if_icmp .ge 35, 3) := by decide +kernel
theorem dX11_sumOfSome_16 : decode cX11_sumOfSome 16 = .ok (.iload_n 3, 1) := by decide +kernel
theorem dX11_sumOfSome_17 : decode cX11_sumOfSome 17 = .ok (.iload_n 2, 1) := by decide +kernel
theorem dX11_sumOfSome_18 : decode cX11_sumOfSome 18 = .ok (.iload 4, 2) := by decide +kernel
theorem dX11_sumOfSome_20 : decode cX11_sumOfSome 20 = .ok (.ishr, 1) := by decide +kernel
theorem dX11_sumOfSome_21 : decode cX11_sumOfSome 21 = .ok (.iconst 2, 1) := by decide +kernel
theorem dX11_sumOfSome_22 : decode cX11_sumOfSome 22 = .ok (.irem, 1) := by decide +kernel
theorem dX11_sumOfSome_23 : decode cX11_sumOfSome 23 = .ok (.iconst 1, 1) := by decide +kernel
theorem dX11_sumOfSome_24 : decode cX11_sumOfSome 24 = .ok (.if_icmp .ne 15, 3) := by decide +kernel
theorem dX11_sumOfSome_27 : decode cX11_sumOfSome 27 = .ok (.aload_n 0, 1) := by decide +kernel
theorem dX11_sumOfSome_28 : decode cX11_sumOfSome 28 = .ok (.getfield 11, 3) := by decide +kernel
theorem dX11_sumOfSome_31 : decode cX11_sumOfSome 31 = .ok (.iload_n 1, 1) := by decide +kernel
theorem dX11_sumOfSome_32 : decode cX11_sumOfSome 32 = .ok (.aaload, 1) := by decide +kernel
theorem dX11_sumOfSome_33 : decode cX11_sumOfSome 33 = .ok (.iload 4, 2) := by decide +kernel
theorem dX11_sumOfSome_35 : decode cX11_sumOfSome 35 = .ok (.iaload, 1) := by decide +kernel
theorem dX11_sumOfSome_36 : decode cX11_sumOfSome 36 = .ok (.goto 4, 3) := by decide +kernel
theorem dX11_sumOfSome_39 : decode cX11_sumOfSome 39 = .ok (.iconst 0, 1) := by decide +kernel
theorem dX11_sumOfSome_40 : decode cX11_sumOfSome 40 = .ok (.iadd, 1) := by decide +kernel
theorem dX11_sumOfSome_41 : decode cX11_sumOfSome 41 = .ok (.istore_n 3, 1) := by decide +kernel
theorem dX11_sumOfSome_42 : decode cX11_sumOfSome 42 = .ok (.iinc 4 1, 3) := by decide +kernel
theorem dX11_sumOfSome_45 : decode cX11_sumOfSome 45 = .ok (.goto (-40), 3) := by decide +kernel
theorem dX11_sumOfSome_48 : decode cX11_sumOfSome 48 = .ok (.iload_n 3, 1) := by decide +kernel
theorem dX11_sumOfSome_49 : decode cX11_sumOfSome 49 = .ok (.ireturn, 1) := by decide +kernel
theorem dX11_count_0 : decode cX11_count 0 = .ok (.iconst 1, 1) := by decide +kernel
theorem dX11_count_1 : decode cX11_count 1 = .ok (.istore 4, 2) := by decide +kernel
theorem dX11_count_3 : decode cX11_count 3 = .ok (.iload 4, 2) := by decide +kernel
theorem dX11_count_5 : decode cX11_count 5 = .ok (.sipush 300, 3) := by decide +kernel
theorem dX11_count_8 : decode cX11_count 8 = .ok (.if_icmp .gt 14, 3) := by decide +kernel
theorem dX11_count_11 : decode cX11_count 11 = .ok (.aload_n 1, 1) := by decide +kernel
theorem dX11_count_12 : decode cX11_count 12 = .ok (.iload 4, 2) := by decide +kernel
theorem dX11_count_14 : decode cX11_count 14 = .ok (.lconst 0, 1) := by decide +kernel
theorem dX11_count_15 : decode cX11_count 15 = .ok (.lastore, 1) := by decide +kernel
theorem dX11_count_16 : decode cX11_count 16 = .ok (.iinc 4 1, 3) := by decide +kernel
theorem dX11_count_19 : decode cX11_count 19 = .ok (.goto (-16), 3) := by decide +kernel
theorem dX11_count_22 : decode cX11_count 22 = .ok (.aload_n 1, 1) := by decide +kernel
theorem dX11_count_23 : decode cX11_count 23 = .ok (.iconst 0, 1) := by decide +kernel
theorem dX11_count_24 : decode cX11_count 24 = .ok (.lconst 1, 1) := by decide +kernel
theorem dX11_count_25 : decode cX11_count 25 = .ok (.lastore, 1) := by decide +kernel
theorem dX11_count_26 : decode cX11_count 26 = .ok (.iconst 0, 1) := by decide +kernel
theorem dX11_count_27 : decode cX11_count 27 = .ok (.istore 4, 2) := by decide +kernel
theorem dX11_count_29 : decode cX11_count 29 = .ok (.iload 4, 2) := by decide +kernel
theorem dX11_count_31 : decode cX11_count 31 = .ok (.aload_n 0, 1) := by decide +kernel
theorem dX11_count_32 : decode cX11_count 32 = .ok (.getfield 14, 3) := by decide +kernel
theorem dX11_count_35 : decode cX11_count 35 = .ok (.iload_n 2, 1) := by decide +kernel
theorem dX11_count_36 : decode cX11_count 36 = .ok (.iaload, 1) := by decide +kernel
theorem dX11_count_37 : decode cX11_count 37 = .ok (.if_icmp .ge 62, 3) := by decide +kernel
theorem dX11_count_40 : decode cX11_count 40 = .ok (.aload_n 0, 1) := by decide +kernel
theorem dX11_count_41 : decode cX11_count 41 = .ok (.getfield 11, 3) := by decide +kernel
theorem dX11_count_44 : decode cX11_count 44 = .ok (.iload_n 2, 1) := by decide +kernel
theorem dX11_count_45 : decode cX11_count 45 = .ok (.aaload, 1) := by decide +kernel
theorem dX11_count_46 : decode cX11_count 46 = .ok (.iload 4, 2) := by decide +kernel
theorem dX11_count_48 : decode cX11_count 48 = .ok (.iaload, 1) := by decide +kernel
theorem dX11_count_49 : decode cX11_count 49 = .ok (.istore 5, 2) := by decide +kernel
theorem dX11_count_51 : decode cX11_count 51 = .ok (.iload_n 3, 1) := by decide +kernel
theorem dX11_count_52 : decode cX11_count 52 = .ok (.iload 4, 2) := by decide +kernel
theorem dX11_count_54 : decode cX11_count 54 = .ok (.ishr, 1) := by decide +kernel
theorem dX11_count_55 : decode cX11_count 55 = .ok (.iconst 2, 1) := by decide +kernel
theorem dX11_count_56 : decode cX11_count 56 = .ok (.irem, 1) := by decide +kernel
theorem dX11_count_57 : decode cX11_count 57 = .ok (.iconst 1, 1) := by decide +kernel
theorem dX11_count_58 : decode cX11_count 58 = .ok (.if_icmp .ne 35, 3) := by decide +kernel
theorem dX11_count_61 : decode cX11_count 61 = .ok (.sipush 300, 3) := by decide +kernel
theorem dX11_count_64 : decode cX11_count 64 = .ok (.istore 6, 2) := by decide +kernel
theorem dX11_count_66 : decode cX11_count 66 = .ok (.iload 6, 2) := by decide +kernel
theorem dX11_count_68 : decode cX11_count 68 = .ok (.iload 5, 2) := by decide +kernel
theorem dX11_count_70 : decode cX11_count 70 = .ok (.if_icmp .lt 23, 3) := by decide +kernel
theorem dX11_count_73 : decode cX11_count 73 = .ok (.aload_n 1, 1) := by decide +kernel
theorem dX11_count_74 : decode cX11_count 74 = .ok (.iload 6, 2) := by decide +kernel
theorem dX11_count_76 : decode cX11_count 76 = .ok (.dup2, 1) := by decide +kernel
theorem dX11_count_77 : decode cX11_count 77 = .ok (.laload, 1) := by decide +kernel
theorem dX11_count_78 : decode cX11_count 78 = .ok (.aload_n 1, 1) := by decide +kernel
theorem dX11_count_79 : decode cX11_count 79 = .ok (.iload 6, 2) := by decide +kernel
theorem dX11_count_81 : decode cX11_count 81 = .ok (.iload 5, 2) := by decide +kernel
theorem dX11_count_83 : decode cX11_count 83 = .ok (.isub, 1) := by decide +kernel
theorem dX11_count_84 : decode cX11_count 84 = .ok (.laload, 1) := by decide +kernel
theorem dX11_count_85 : decode cX11_count 85 = .ok (.ladd, 1) := by decide +kernel
theorem dX11_count_86 : decode cX11_count 86 = .ok (.lastore, 1) := by decide +kernel
theorem dX11_count_87 : decode cX11_count 87 = .ok (.iinc 6 (-1), 3) := by decide +kernel
theorem dX11_count_90 : decode cX11_count 90 = .ok (.goto (-24), 3) := by decide +kernel
theorem dX11_count_93 : decode cX11_count 93 = .ok (.iinc 4 1, 3) := by decide +kernel
theorem dX11_count_96 : decode cX11_count 96 = .ok (.goto (-67), 3) := by decide +kernel
theorem dX11_count_99 : decode cX11_count 99 = .ok (.return_, 1) := by decide +kernel
theorem dX11_above_0 : decode cX11_above 0 = .ok (.iconst 0, 1) := by decide +kernel
theorem dX11_above_1 : decode cX11_above 1 = .ok (.istore_n 1, 1) := by decide +kernel
theorem dX11_above_2 : decode cX11_above 2 = .ok (.aload_n 0, 1) := by decide +kernel
theorem dX11_above_3 : decode cX11_above 3 = .ok (.astore_n 2, 1) := by decide +kernel
theorem dX11_above_4 : decode cX11_above 4 = .ok (.aload_n 2, 1) := by decide +kernel
theorem dX11_above_5 : decode cX11_above 5 = .ok (.arraylength, 1) := by decide +kernel
theorem dX11_above_6 : decode cX11_above 6 = .ok (.istore_n 3, 1) := by decide +kernel
theorem dX11_above_7 : decode cX11_above 7 = .ok (.iconst 0, 1) := by decide +kernel
theorem dX11_above_8 : decode cX11_above 8 = .ok (.istore 4, 2) := by decide +kernel
theorem dX11_above_10 : decode cX11_above 10 = .ok (.iload 4, 2) := by decide +kernel
theorem dX11_above_12 : decode cX11_above 12 = .ok (.iload_n 3, 1) := by decide +kernel
theorem dX11_above_13 : decode cX11_above 13 = .ok (.if_icmp .ge 30, 3) := by decide +kernel
theorem dX11_above_16 : decode cX11_above 16 = .ok (.aload_n 2, 1) := by decide +kernel
theorem dX11_above_17 : decode cX11_above 17 = .ok (.iload 4, 2) := by decide +kernel
theorem dX11_above_19 : decode cX11_above 19 = .ok (.laload, 1) := by decide +kernel
theorem dX11_above_20 : decode cX11_above 20 = .ok (.lstore 5, 2) := by decide +kernel
theorem dX11_above_22 : decode cX11_above 22 = .ok (.iload_n 1, 1) := by decide +kernel
theorem dX11_above_23 : decode cX11_above 23 = .ok (.lload 5, 2) := by decide +kernel
theorem dX11_above_25 : decode cX11_above 25 = .ok (.lconst 0, 1) := by decide +kernel
theorem dX11_above_26 : decode cX11_above 26 = .ok (.lcmp, 1) := by decide +kernel
theorem dX11_above_27 : decode cX11_above 27 = .ok (.ifCond .le 7, 3) := by decide +kernel
theorem dX11_above_30 : decode cX11_above 30 = .ok (.iconst 1, 1) := by decide +kernel
theorem dX11_above_31 : decode cX11_above 31 = .ok (.goto 4, 3) := by decide +kernel
theorem dX11_above_34 : decode cX11_above 34 = .ok (.iconst 0, 1) := by decide +kernel
theorem dX11_above_35 : decode cX11_above 35 = .ok (.iadd, 1) := by decide +kernel
theorem dX11_above_36 : decode cX11_above 36 = .ok (.istore_n 1, 1) := by decide +kernel
theorem dX11_above_37 : decode cX11_above 37 = .ok (.iinc 4 1, 3) := by decide +kernel
theorem dX11_above_40 : decode cX11_above 40 = .ok (.goto (-30), 3) := by decide +kernel
theorem dX11_above_43 : decode cX11_above 43 = .ok (.iload_n 1, 1) := by decide +kernel
theorem dX11_above_44 : decode cX11_above 44 = .ok (.ireturn, 1) := by decide +kernel
theorem dX11_recounted_0 : decode cX11_recounted 0 = .ok (.aload_n 0, 1) := by decide +kernel
theorem dX11_recounted_1 : decode cX11_recounted 1 = .ok (.aload_n 0, 1) := by decide +kernel
theorem dX11_recounted_2 : decode cX11_recounted 2 = .ok (.getfield 20, 3) := by decide +kernel
theorem dX11_recounted_5 : decode cX11_recounted 5 = .ok (.iload_n 1, 1) := by decide +kernel
theorem dX11_recounted_6 : decode cX11_recounted 6 = .ok (.aaload, 1) := by decide +kernel
theorem dX11_recounted_7 : decode cX11_recounted 7 = .ok (.iload_n 1, 1) := by decide +kernel
theorem dX11_recounted_8 : decode cX11_recounted 8 = .ok (.iconst 1, 1) := by decide +kernel
theorem dX11_recounted_9 : decode cX11_recounted 9 = .ok (.aload_n 0, 1) := by decide +kernel
theorem dX11_recounted_10 : decode cX11_recounted 10 = .ok (.getfield 14, 3) := by decide +kernel
theorem dX11_recounted_13 : decode cX11_recounted 13 = .ok (.iload_n 1, 1) := by decide +kernel
theorem dX11_recounted_14 : decode cX11_recounted 14 = .ok (.iaload, 1) := by decide +kernel
theorem dX11_recounted_15 : decode cX11_recounted 15 = .ok (.ishl, 1) := by decide +kernel
theorem dX11_recounted_16 : decode cX11_recounted 16 = .ok (.iconst 1, 1) := by decide +kernel
theorem dX11_recounted_17 : decode cX11_recounted 17 = .ok (.isub, 1) := by decide +kernel
theorem dX11_recounted_18 : decode cX11_recounted 18 = .ok (.invokevirtual 46, 3) := by decide +kernel
theorem dX11_recounted_21 : decode cX11_recounted 21 = .ok (.aload_n 0, 1) := by decide +kernel
theorem dX11_recounted_22 : decode cX11_recounted 22 = .ok (.getfield 20, 3) := by decide +kernel
theorem dX11_recounted_25 : decode cX11_recounted 25 = .ok (.iload_n 1, 1) := by decide +kernel
theorem dX11_recounted_26 : decode cX11_recounted 26 = .ok (.aaload, 1) := by decide +kernel
theorem dX11_recounted_27 : decode cX11_recounted 27 = .ok (.invokestatic 50, 3) := by decide +kernel
theorem dX11_recounted_30 : decode cX11_recounted 30 = .ok (.ireturn, 1) := by decide +kernel
theorem dX11_mark_0 : decode cX11_mark 0 = .ok (.iconst 0, 1) := by decide +kernel
theorem dX11_mark_1 : decode cX11_mark 1 = .ok (.istore_n 2, 1) := by decide +kernel
theorem dX11_mark_2 : decode cX11_mark 2 = .ok (.iload_n 2, 1) := by decide +kernel
theorem dX11_mark_3 : decode cX11_mark 3 = .ok (.sipush 300, 3) := by decide +kernel
theorem dX11_mark_6 : decode cX11_mark 6 = .ok (.if_icmp .gt 24, 3) := by decide +kernel
theorem dX11_mark_9 : decode cX11_mark 9 = .ok (.aload_n 0, 1) := by decide +kernel
theorem dX11_mark_10 : decode cX11_mark 10 = .ok (.getfield 27, 3) := by decide +kernel
theorem dX11_mark_13 : decode cX11_mark 13 = .ok (.iload_n 2, 1) := by decide +kernel
theorem dX11_mark_14 : decode cX11_mark 14 = .ok (.iload_n 2, 1) := by decide +kernel
theorem dX11_mark_15 : decode cX11_mark 15 = .ok (.ifCond .ne 7, 3) := by decide +kernel
theorem dX11_mark_18 : decode cX11_mark 18 = .ok (.iconst 1, 1) := by decide +kernel
theorem dX11_mark_19 : decode cX11_mark 19 = .ok (.goto 4, 3) := by decide +kernel
theorem dX11_mark_22 : decode cX11_mark 22 = .ok (.iconst 0, 1) := by decide +kernel
theorem dX11_mark_23 : decode cX11_mark 23 = .ok (.iastore, 1) := by decide +kernel
theorem dX11_mark_24 : decode cX11_mark 24 = .ok (.iinc 2 1, 3) := by decide +kernel
theorem dX11_mark_27 : decode cX11_mark 27 = .ok (.goto (-25), 3) := by decide +kernel
theorem dX11_mark_30 : decode cX11_mark 30 = .ok (.iconst 0, 1) := by decide +kernel
theorem dX11_mark_31 : decode cX11_mark 31 = .ok (.istore_n 2, 1) := by decide +kernel
theorem dX11_mark_32 : decode cX11_mark 32 = .ok (.iload_n 2, 1) := by decide +kernel
theorem dX11_mark_33 : decode cX11_mark 33 = .ok (.aload_n 0, 1) := by decide +kernel
theorem dX11_mark_34 : decode cX11_mark 34 = .ok (.getfield 14, 3) := by decide +kernel
theorem dX11_mark_37 : decode cX11_mark 37 = .ok (.iload_n 1, 1) := by decide +kernel
theorem dX11_mark_38 : decode cX11_mark 38 = .ok (.iaload, 1) := by decide +kernel
theorem dX11_mark_39 : decode cX11_mark 39 = .ok (.if_icmp .ge 56, 3) := by decide +kernel
theorem dX11_mark_42 : decode cX11_mark 42 = .ok (.aload_n 0, 1) := by decide +kernel
theorem dX11_mark_43 : decode cX11_mark 43 = .ok (.getfield 11, 3) := by decide +kernel
theorem dX11_mark_46 : decode cX11_mark 46 = .ok (.iload_n 1, 1) := by decide +kernel
theorem dX11_mark_47 : decode cX11_mark 47 = .ok (.aaload, 1) := by decide +kernel
theorem dX11_mark_48 : decode cX11_mark 48 = .ok (.iload_n 2, 1) := by decide +kernel
theorem dX11_mark_49 : decode cX11_mark 49 = .ok (.iaload, 1) := by decide +kernel
theorem dX11_mark_50 : decode cX11_mark 50 = .ok (.istore_n 3, 1) := by decide +kernel
theorem dX11_mark_51 : decode cX11_mark 51 = .ok (.sipush 300, 3) := by decide +kernel
theorem dX11_mark_54 : decode cX11_mark 54 = .ok (.istore 4, 2) := by decide +kernel
theorem dX11_mark_56 : decode cX11_mark 56 = .ok (.iload 4, 2) := by decide +kernel
theorem dX11_mark_58 : decode cX11_mark 58 = .ok (.iload_n 3, 1) := by decide +kernel
theorem dX11_mark_59 : decode cX11_mark 59 = .ok (.if_icmp .lt 30, 3) := by decide +kernel
theorem dX11_mark_62 : decode cX11_mark 62 = .ok (.aload_n 0, 1) := by decide +kernel
theorem dX11_mark_63 : decode cX11_mark 63 = .ok (.getfield 27, 3) := by decide +kernel
theorem dX11_mark_66 : decode cX11_mark 66 = .ok (.iload 4, 2) := by decide +kernel
theorem dX11_mark_68 : decode cX11_mark 68 = .ok (.dup2, 1) := by decide +kernel
theorem dX11_mark_69 : decode cX11_mark 69 = .ok (.iaload, 1) := by decide +kernel
theorem dX11_mark_70 : decode cX11_mark 70 = .ok (.aload_n 0, 1) := by decide +kernel
theorem dX11_mark_71 : decode cX11_mark 71 = .ok (.getfield 27, 3) := by decide +kernel
theorem dX11_mark_74 : decode cX11_mark 74 = .ok (.iload 4, 2) := by decide +kernel
theorem dX11_mark_76 : decode cX11_mark 76 = .ok (.iload_n 3, 1) := by decide +kernel
theorem dX11_mark_77 : decode cX11_mark 77 = .ok (.isub, 1) := by decide +kernel
theorem dX11_mark_78 : decode cX11_mark 78 = .ok (.iaload, 1) := by decide +kernel
theorem dX11_mark_79 : decode cX11_mark 79 = .ok (.iconst 1, 1) := by decide +kernel
theorem dX11_mark_80 : decode cX11_mark 80 = .ok (.ishl, 1) := by decide +kernel
theorem dX11_mark_81 : decode cX11_mark 81 = .ok (.ior, 1) := by decide +kernel
theorem dX11_mark_82 : decode cX11_mark 82 = .ok (.iastore, 1) := by decide +kernel
theorem dX11_mark_83 : decode cX11_mark 83 = .ok (.iinc 4 (-1), 3) := by decide +kernel
theorem dX11_mark_86 : decode cX11_mark 86 = .ok (.goto (-30), 3) := by decide +kernel
theorem dX11_mark_89 : decode cX11_mark 89 = .ok (.iinc 2 1, 3) := by decide +kernel
theorem dX11_mark_92 : decode cX11_mark 92 = .ok (.goto (-60), 3) := by decide +kernel
theorem dX11_mark_95 : decode cX11_mark 95 = .ok (.return_, 1) := by decide +kernel
theorem dX11_tell_0 : decode cX11_tell 0 = .ok (.iload_n 2, 1) := by decide +kernel
theorem dX11_tell_1 : decode cX11_tell 1 = .ok (.ifCond .ne 73, 3) := by decide +kernel
theorem dX11_tell_4 : decode cX11_tell 4 = .ok (.aload_n 0, 1) := by decide +kernel
theorem dX11_tell_5 : decode cX11_tell 5 = .ok (.iload_n 1, 1) := by decide +kernel
theorem dX11_tell_6 : decode cX11_tell 6 = .ok (.invokevirtual 54, 3) := by decide +kernel
theorem dX11_tell_9 : decode cX11_tell 9 = .ok (.iconst 0, 1) := by decide +kernel
theorem dX11_tell_10 : decode cX11_tell 10 = .ok (.istore_n 3, 1) := by decide +kernel
theorem dX11_tell_11 : decode cX11_tell 11 = .ok (.iload_n 3, 1) := by decide +kernel
theorem dX11_tell_12 : decode cX11_tell 12 = .ok (.sipush 300, 3) := by decide +kernel
theorem dX11_tell_15 : decode cX11_tell 15 = .ok (.if_icmp .gt 58, 3) := by decide +kernel
theorem dX11_tell_18 : decode cX11_tell 18 = .ok (.aload_n 0, 1) := by decide +kernel
theorem dX11_tell_19 : decode cX11_tell 19 = .ok (.getfield 27, 3) := by decide +kernel
theorem dX11_tell_22 : decode cX11_tell 22 = .ok (.iload_n 3, 1) := by decide +kernel
theorem dX11_tell_23 : decode cX11_tell 23 = .ok (.iaload, 1) := by decide +kernel
theorem dX11_tell_24 : decode cX11_tell 24 = .ok (.ifCond .ne 7, 3) := by decide +kernel
theorem dX11_tell_27 : decode cX11_tell 27 = .ok (.iconst (-1), 1) := by decide +kernel
theorem dX11_tell_28 : decode cX11_tell 28 = .ok (.goto 4, 3) := by decide +kernel
theorem dX11_tell_31 : decode cX11_tell 31 = .ok (.iconst 0, 1) := by decide +kernel
theorem dX11_tell_32 : decode cX11_tell 32 = .ok (.istore 4, 2) := by decide +kernel
theorem dX11_tell_34 : decode cX11_tell 34 = .ok (.iload 4, 2) := by decide +kernel
theorem dX11_tell_36 : decode cX11_tell 36 = .ok (.ifCond .lt 23, 3) := by decide +kernel
theorem dX11_tell_39 : decode cX11_tell 39 = .ok (.aload_n 0, 1) := by decide +kernel
theorem dX11_tell_40 : decode cX11_tell 40 = .ok (.getfield 27, 3) := by decide +kernel
theorem dX11_tell_43 : decode cX11_tell 43 = .ok (.iload_n 3, 1) := by decide +kernel
theorem dX11_tell_44 : decode cX11_tell 44 = .ok (.iaload, 1) := by decide +kernel
theorem dX11_tell_45 : decode cX11_tell 45 = .ok (.iload 4, 2) := by decide +kernel
theorem dX11_tell_47 : decode cX11_tell 47 = .ok (.ishr, 1) := by decide +kernel
theorem dX11_tell_48 : decode cX11_tell 48 = .ok (.iconst 2, 1) := by decide +kernel
theorem dX11_tell_49 : decode cX11_tell 49 = .ok (.irem, 1) := by decide +kernel
theorem dX11_tell_50 : decode cX11_tell 50 = .ok (.ifCond .ne 9, 3) := by decide +kernel
theorem dX11_tell_53 : decode cX11_tell 53 = .ok (.iinc 4 1, 3) := by decide +kernel
theorem dX11_tell_56 : decode cX11_tell 56 = .ok (.goto (-22), 3) := by decide +kernel
theorem dX11_tell_59 : decode cX11_tell 59 = .ok (.aload_n 0, 1) := by decide +kernel
theorem dX11_tell_60 : decode cX11_tell 60 = .ok (.getfield 27, 3) := by decide +kernel
theorem dX11_tell_63 : decode cX11_tell 63 = .ok (.iload_n 3, 1) := by decide +kernel
theorem dX11_tell_64 : decode cX11_tell 64 = .ok (.iload 4, 2) := by decide +kernel
theorem dX11_tell_66 : decode cX11_tell 66 = .ok (.iastore, 1) := by decide +kernel
theorem dX11_tell_67 : decode cX11_tell 67 = .ok (.iinc 3 1, 3) := by decide +kernel
theorem dX11_tell_70 : decode cX11_tell 70 = .ok (.goto (-59), 3) := by decide +kernel
theorem dX11_tell_73 : decode cX11_tell 73 = .ok (.return_, 1) := by decide +kernel
theorem dX11_tell_74 : decode cX11_tell 74 = .ok (.aload_n 0, 1) := by decide +kernel
theorem dX11_tell_75 : decode cX11_tell 75 = .ok (.getfield 27, 3) := by decide +kernel
theorem dX11_tell_78 : decode cX11_tell 78 = .ok (.iconst 0, 1) := by decide +kernel
theorem dX11_tell_79 : decode cX11_tell 79 = .ok (.iconst 0, 1) := by decide +kernel
theorem dX11_tell_80 : decode cX11_tell 80 = .ok (.iastore, 1) := by decide +kernel
theorem dX11_tell_81 : decode cX11_tell 81 = .ok (.iconst 1, 1) := by decide +kernel
theorem dX11_tell_82 : decode cX11_tell 82 = .ok (.istore_n 3, 1) := by decide +kernel
theorem dX11_tell_83 : decode cX11_tell 83 = .ok (.iload_n 3, 1) := by decide +kernel
theorem dX11_tell_84 : decode cX11_tell 84 = .ok (.sipush 300, 3) := by decide +kernel
theorem dX11_tell_87 : decode cX11_tell 87 = .ok (.if_icmp .gt 106, 3) := by decide +kernel
theorem dX11_tell_90 : decode cX11_tell 90 = .ok (.aload_n 0, 1) := by decide +kernel
theorem dX11_tell_91 : decode cX11_tell 91 = .ok (.getfield 27, 3) := by decide +kernel
theorem dX11_tell_94 : decode cX11_tell 94 = .ok (.iload_n 3, 1) := by decide +kernel
theorem dX11_tell_95 : decode cX11_tell 95 = .ok (.iconst (-1), 1) := by decide +kernel
theorem dX11_tell_96 : decode cX11_tell 96 = .ok (.iastore, 1) := by decide +kernel
theorem dX11_tell_97 : decode cX11_tell 97 = .ok (.iconst 0, 1) := by decide +kernel
theorem dX11_tell_98 : decode cX11_tell 98 = .ok (.istore 4, 2) := by decide +kernel
theorem dX11_tell_100 : decode cX11_tell 100 = .ok (.iload 4, 2) := by decide +kernel
theorem dX11_tell_102 : decode cX11_tell 102 = .ok (.aload_n 0, 1) := by decide +kernel
theorem dX11_tell_103 : decode cX11_tell 103 = .ok (.getfield 14, 3) := by decide +kernel
theorem dX11_tell_106 : decode cX11_tell 106 = .ok (.iload_n 1, 1) := by decide +kernel
theorem dX11_tell_107 : decode cX11_tell 107 = .ok (.iaload, 1) := by decide +kernel
theorem dX11_tell_108 : decode cX11_tell 108 = .ok (.if_icmp .ge 79, 3) := by decide +kernel
theorem dX11_tell_111 : decode cX11_tell 111 = .ok (.iload_n 3, 1) := by decide +kernel
theorem dX11_tell_112 : decode cX11_tell 112 = .ok (.aload_n 0, 1) := by decide +kernel
theorem dX11_tell_113 : decode cX11_tell 113 = .ok (.getfield 11, 3) := by decide +kernel
theorem dX11_tell_116 : decode cX11_tell 116 = .ok (.iload_n 1, 1) := by decide +kernel
theorem dX11_tell_117 : decode cX11_tell 117 = .ok (.aaload, 1) := by decide +kernel
theorem dX11_tell_118 : decode cX11_tell 118 = .ok (.iload 4, 2) := by decide +kernel
theorem dX11_tell_120 : decode cX11_tell 120 = .ok (.iaload, 1) := by decide +kernel
theorem dX11_tell_121 : decode cX11_tell 121 = .ok (.isub, 1) := by decide +kernel
theorem dX11_tell_122 : decode cX11_tell 122 = .ok (.istore 5, 2) := by decide +kernel
theorem dX11_tell_124 : decode cX11_tell 124 = .ok (.iload 5, 2) := by decide +kernel
theorem dX11_tell_126 : decode cX11_tell 126 = .ok (.ifCond .lt 55, 3) := by decide +kernel
theorem dX11_tell_129 : decode cX11_tell 129 = .ok (.aload_n 0, 1) := by decide +kernel
theorem dX11_tell_130 : decode cX11_tell 130 = .ok (.getfield 27, 3) := by decide +kernel
theorem dX11_tell_133 : decode cX11_tell 133 = .ok (.iload 5, 2) := by decide +kernel
theorem dX11_tell_135 : decode cX11_tell 135 = .ok (.iaload, 1) := by decide +kernel
theorem dX11_tell_136 : decode cX11_tell 136 = .ok (.ifCond .lt 45, 3) := by decide +kernel
theorem dX11_tell_139 : decode cX11_tell 139 = .ok (.aload_n 0, 1) := by decide +kernel
theorem dX11_tell_140 : decode cX11_tell 140 = .ok (.getfield 27, 3) := by decide +kernel
theorem dX11_tell_143 : decode cX11_tell 143 = .ok (.iload_n 3, 1) := by decide +kernel
theorem dX11_tell_144 : decode cX11_tell 144 = .ok (.iaload, 1) := by decide +kernel
theorem dX11_tell_145 : decode cX11_tell 145 = .ok (.ifCond .lt 21, 3) := by decide +kernel
theorem dX11_tell_148 : decode cX11_tell 148 = .ok (.aload_n 0, 1) := by decide +kernel
theorem dX11_tell_149 : decode cX11_tell 149 = .ok (.getfield 27, 3) := by decide +kernel
theorem dX11_tell_152 : decode cX11_tell 152 = .ok (.iload 5, 2) := by decide +kernel
theorem dX11_tell_154 : decode cX11_tell 154 = .ok (.iaload, 1) := by decide +kernel
theorem dX11_tell_155 : decode cX11_tell 155 = .ok (.iconst 1, 1) := by decide +kernel
theorem dX11_tell_156 : decode cX11_tell 156 = .ok (.iadd, 1) := by decide +kernel
theorem dX11_tell_157 : decode cX11_tell 157 = .ok (.aload_n 0, 1) := by decide +kernel
theorem dX11_tell_158 : decode cX11_tell 158 = .ok (.getfield 27, 3) := by decide +kernel
theorem dX11_tell_161 : decode cX11_tell 161 = .ok (.iload_n 3, 1) := by decide +kernel
theorem dX11_tell_162 : decode cX11_tell 162 = .ok (.iaload, 1) := by decide +kernel
theorem dX11_tell_163 : decode cX11_tell 163 = .ok (.if_icmp .ge 18, 3) := by decide +kernel
theorem dX11_tell_166 : decode cX11_tell 166 = .ok (.aload_n 0, 1) := by decide +kernel
theorem dX11_tell_167 : decode cX11_tell 167 = .ok (.getfield 27, 3) := by decide +kernel
theorem dX11_tell_170 : decode cX11_tell 170 = .ok (.iload_n 3, 1) := by decide +kernel
theorem dX11_tell_171 : decode cX11_tell 171 = .ok (.aload_n 0, 1) := by decide +kernel
theorem dX11_tell_172 : decode cX11_tell 172 = .ok (.getfield 27, 3) := by decide +kernel
theorem dX11_tell_175 : decode cX11_tell 175 = .ok (.iload 5, 2) := by decide +kernel
theorem dX11_tell_177 : decode cX11_tell 177 = .ok (.iaload, 1) := by decide +kernel
theorem dX11_tell_178 : decode cX11_tell 178 = .ok (.iconst 1, 1) := by decide +kernel
theorem dX11_tell_179 : decode cX11_tell 179 = .ok (.iadd, 1) := by decide +kernel
theorem dX11_tell_180 : decode cX11_tell 180 = .ok (.iastore, 1) := by decide +kernel
theorem dX11_tell_181 : decode cX11_tell 181 = .ok (.iinc 4 1, 3) := by decide +kernel
theorem dX11_tell_184 : decode cX11_tell 184 = .ok (.goto (-84), 3) := by decide +kernel
theorem dX11_tell_187 : decode cX11_tell 187 = .ok (.iinc 3 1, 3) := by decide +kernel
theorem dX11_tell_190 : decode cX11_tell 190 = .ok (.goto (-107), 3) := by decide +kernel
theorem dX11_tell_193 : decode cX11_tell 193 = .ok (.return_, 1) := by decide +kernel
theorem dX11_isTooMuch_0 : decode cX11_isTooMuch 0 = .ok (.aload_n 0, 1) := by decide +kernel
theorem dX11_isTooMuch_1 : decode cX11_isTooMuch 1 = .ok (.getfield 14, 3) := by decide +kernel
theorem dX11_isTooMuch_4 : decode cX11_isTooMuch 4 = .ok (.iload_n 1, 1) := by decide +kernel
theorem dX11_isTooMuch_5 : decode cX11_isTooMuch 5 = .ok (.iaload, 1) := by decide +kernel
theorem dX11_isTooMuch_6 : decode cX11_isTooMuch 6 = .ok (.iload_n 2, 1) := by decide +kernel
theorem dX11_isTooMuch_7 : decode cX11_isTooMuch 7 = .ok (.iadd, 1) := by decide +kernel
theorem dX11_isTooMuch_8 : decode cX11_isTooMuch 8 = .ok (.bipush 20, 2) := by decide +kernel
theorem dX11_isTooMuch_10 : decode cX11_isTooMuch 10 = .ok (.if_icmp .gt 16, 3) := by decide +kernel
theorem dX11_isTooMuch_13 : decode cX11_isTooMuch 13 = .ok (.aload_n 0, 1) := by decide +kernel
theorem dX11_isTooMuch_14 : decode cX11_isTooMuch 14 = .ok (.iload_n 1, 1) := by decide +kernel
theorem dX11_isTooMuch_15 : decode cX11_isTooMuch 15 = .ok (.invokevirtual 58, 3) := by decide +kernel
theorem dX11_isTooMuch_18 : decode cX11_isTooMuch 18 = .ok (.iload_n 3, 1) := by decide +kernel
theorem dX11_isTooMuch_19 : decode cX11_isTooMuch 19 = .ok (.iadd, 1) := by decide +kernel
theorem dX11_isTooMuch_20 : decode cX11_isTooMuch 20 = .ok (.sipush 300, 3) := by decide +kernel
theorem dX11_isTooMuch_23 : decode cX11_isTooMuch 23 = .ok (.if_icmp .le 7, 3) := by decide +kernel
theorem dX11_isTooMuch_26 : decode cX11_isTooMuch 26 = .ok (.iconst 1, 1) := by decide +kernel
theorem dX11_isTooMuch_27 : decode cX11_isTooMuch 27 = .ok (.goto 4, 3) := by decide +kernel
theorem dX11_isTooMuch_30 : decode cX11_isTooMuch 30 = .ok (.iconst 0, 1) := by decide +kernel
theorem dX11_isTooMuch_31 : decode cX11_isTooMuch 31 = .ok (.ireturn, 1) := by decide +kernel
theorem dX11_add_0 : decode cX11_add 0 = .ok (.aload_n 0, 1) := by decide +kernel
theorem dX11_add_1 : decode cX11_add 1 = .ok (.iload_n 1, 1) := by decide +kernel
theorem dX11_add_2 : decode cX11_add 2 = .ok (.invokevirtual 62, 3) := by decide +kernel
theorem dX11_add_5 : decode cX11_add 5 = .ok (.ifCond .ne 41, 3) := by decide +kernel
theorem dX11_add_8 : decode cX11_add 8 = .ok (.aload_n 0, 1) := by decide +kernel
theorem dX11_add_9 : decode cX11_add 9 = .ok (.iload_n 2, 1) := by decide +kernel
theorem dX11_add_10 : decode cX11_add 10 = .ok (.iconst 1, 1) := by decide +kernel
theorem dX11_add_11 : decode cX11_add 11 = .ok (.bipush 120, 2) := by decide +kernel
theorem dX11_add_13 : decode cX11_add 13 = .ok (.invokestatic 34, 3) := by decide +kernel
theorem dX11_add_16 : decode cX11_add 16 = .ok (.iconst 2, 1) := by decide +kernel
theorem dX11_add_17 : decode cX11_add 17 = .ok (.invokevirtual 42, 3) := by decide +kernel
theorem dX11_add_20 : decode cX11_add 20 = .ok (.ifCond .ne 26, 3) := by decide +kernel
theorem dX11_add_23 : decode cX11_add 23 = .ok (.aload_n 0, 1) := by decide +kernel
theorem dX11_add_24 : decode cX11_add 24 = .ok (.aload_n 0, 1) := by decide +kernel
theorem dX11_add_25 : decode cX11_add 25 = .ok (.iload_n 1, 1) := by decide +kernel
theorem dX11_add_26 : decode cX11_add 26 = .ok (.iconst 1, 1) := by decide +kernel
theorem dX11_add_27 : decode cX11_add 27 = .ok (.iload_n 2, 1) := by decide +kernel
theorem dX11_add_28 : decode cX11_add 28 = .ok (.invokevirtual 65, 3) := by decide +kernel
theorem dX11_add_31 : decode cX11_add 31 = .ok (.ifCond .ne 7, 3) := by decide +kernel
theorem dX11_add_34 : decode cX11_add 34 = .ok (.iconst 1, 1) := by decide +kernel
theorem dX11_add_35 : decode cX11_add 35 = .ok (.goto 4, 3) := by decide +kernel
theorem dX11_add_38 : decode cX11_add 38 = .ok (.iconst 0, 1) := by decide +kernel
theorem dX11_add_39 : decode cX11_add 39 = .ok (.iconst 3, 1) := by decide +kernel
theorem dX11_add_40 : decode cX11_add 40 = .ok (.invokevirtual 42, 3) := by decide +kernel
theorem dX11_add_43 : decode cX11_add 43 = .ok (.ifCond .eq 5, 3) := by decide +kernel
theorem dX11_add_46 : decode cX11_add 46 = .ok (.iconst 0, 1) := by decide +kernel
theorem dX11_add_47 : decode cX11_add 47 = .ok (.ireturn, 1) := by decide +kernel
theorem dX11_add_48 : decode cX11_add 48 = .ok (.aload_n 0, 1) := by decide +kernel
theorem dX11_add_49 : decode cX11_add 49 = .ok (.getfield 11, 3) := by decide +kernel
theorem dX11_add_52 : decode cX11_add 52 = .ok (.iload_n 1, 1) := by decide +kernel
theorem dX11_add_53 : decode cX11_add 53 = .ok (.aaload, 1) := by decide +kernel
theorem dX11_add_54 : decode cX11_add 54 = .ok (.aload_n 0, 1) := by decide +kernel
theorem dX11_add_55 : decode cX11_add 55 = .ok (.getfield 14, 3) := by decide +kernel
theorem dX11_add_58 : decode cX11_add 58 = .ok (.iload_n 1, 1) := by decide +kernel
theorem dX11_add_59 : decode cX11_add 59 = .ok (.iaload, 1) := by decide +kernel
theorem dX11_add_60 : decode cX11_add 60 = .ok (.iload_n 2, 1) := by decide +kernel
theorem dX11_add_61 : decode cX11_add 61 = .ok (.iastore, 1) := by decide +kernel
theorem dX11_add_62 : decode cX11_add 62 = .ok (.aload_n 0, 1) := by decide +kernel
theorem dX11_add_63 : decode cX11_add 63 = .ok (.getfield 14, 3) := by decide +kernel
theorem dX11_add_66 : decode cX11_add 66 = .ok (.iload_n 1, 1) := by decide +kernel
theorem dX11_add_67 : decode cX11_add 67 = .ok (.dup2, 1) := by decide +kernel
theorem dX11_add_68 : decode cX11_add 68 = .ok (.iaload, 1) := by decide +kernel
theorem dX11_add_69 : decode cX11_add 69 = .ok (.iconst 1, 1) := by decide +kernel
theorem dX11_add_70 : decode cX11_add 70 = .ok (.iadd, 1) := by decide +kernel
theorem dX11_add_71 : decode cX11_add 71 = .ok (.iastore, 1) := by decide +kernel
theorem dX11_add_72 : decode cX11_add 72 = .ok (.aload_n 0, 1) := by decide +kernel
theorem dX11_add_73 : decode cX11_add 73 = .ok (.iload_n 1, 1) := by decide +kernel
theorem dX11_add_74 : decode cX11_add 74 = .ok (.invokevirtual 68, 3) := by decide +kernel
theorem dX11_add_77 : decode cX11_add 77 = .ok (.ireturn, 1) := by decide +kernel
theorem dX11_insert_0 : decode cX11_insert 0 = .ok (.aload_n 0, 1) := by decide +kernel
theorem dX11_insert_1 : decode cX11_insert 1 = .ok (.iload_n 1, 1) := by decide +kernel
theorem dX11_insert_2 : decode cX11_insert 2 = .ok (.invokestatic 38, 3) := by decide +kernel
theorem dX11_insert_5 : decode cX11_insert 5 = .ok (.ifCond .eq 21, 3) := by decide +kernel
theorem dX11_insert_8 : decode cX11_insert 8 = .ok (.iload_n 2, 1) := by decide +kernel
theorem dX11_insert_9 : decode cX11_insert 9 = .ok (.iconst 0, 1) := by decide +kernel
theorem dX11_insert_10 : decode cX11_insert 10 = .ok (.aload_n 0, 1) := by decide +kernel
theorem dX11_insert_11 : decode cX11_insert 11 = .ok (.getfield 14, 3) := by decide +kernel
theorem dX11_insert_14 : decode cX11_insert 14 = .ok (.iload_n 1, 1) := by decide +kernel
theorem dX11_insert_15 : decode cX11_insert 15 = .ok (.iaload, 1) := by decide +kernel
theorem dX11_insert_16 : decode cX11_insert 16 = .ok (.invokestatic 34, 3) := by decide +kernel
theorem dX11_insert_19 : decode cX11_insert 19 = .ok (.ifCond .eq 7, 3) := by decide +kernel
theorem dX11_insert_22 : decode cX11_insert 22 = .ok (.iconst 1, 1) := by decide +kernel
theorem dX11_insert_23 : decode cX11_insert 23 = .ok (.goto 4, 3) := by decide +kernel
theorem dX11_insert_26 : decode cX11_insert 26 = .ok (.iconst 0, 1) := by decide +kernel
theorem dX11_insert_27 : decode cX11_insert 27 = .ok (.iconst 1, 1) := by decide +kernel
theorem dX11_insert_28 : decode cX11_insert 28 = .ok (.invokevirtual 42, 3) := by decide +kernel
theorem dX11_insert_31 : decode cX11_insert 31 = .ok (.ifCond .ne 41, 3) := by decide +kernel
theorem dX11_insert_34 : decode cX11_insert 34 = .ok (.aload_n 0, 1) := by decide +kernel
theorem dX11_insert_35 : decode cX11_insert 35 = .ok (.iload_n 3, 1) := by decide +kernel
theorem dX11_insert_36 : decode cX11_insert 36 = .ok (.iconst 1, 1) := by decide +kernel
theorem dX11_insert_37 : decode cX11_insert 37 = .ok (.bipush 120, 2) := by decide +kernel
theorem dX11_insert_39 : decode cX11_insert 39 = .ok (.invokestatic 34, 3) := by decide +kernel
theorem dX11_insert_42 : decode cX11_insert 42 = .ok (.iconst 2, 1) := by decide +kernel
theorem dX11_insert_43 : decode cX11_insert 43 = .ok (.invokevirtual 42, 3) := by decide +kernel
theorem dX11_insert_46 : decode cX11_insert 46 = .ok (.ifCond .ne 26, 3) := by decide +kernel
theorem dX11_insert_49 : decode cX11_insert 49 = .ok (.aload_n 0, 1) := by decide +kernel
theorem dX11_insert_50 : decode cX11_insert 50 = .ok (.aload_n 0, 1) := by decide +kernel
theorem dX11_insert_51 : decode cX11_insert 51 = .ok (.iload_n 1, 1) := by decide +kernel
theorem dX11_insert_52 : decode cX11_insert 52 = .ok (.iconst 1, 1) := by decide +kernel
theorem dX11_insert_53 : decode cX11_insert 53 = .ok (.iload_n 3, 1) := by decide +kernel
theorem dX11_insert_54 : decode cX11_insert 54 = .ok (.invokevirtual 65, 3) := by decide +kernel
theorem dX11_insert_57 : decode cX11_insert 57 = .ok (.ifCond .ne 7, 3) := by decide +kernel
theorem dX11_insert_60 : decode cX11_insert 60 = .ok (.iconst 1, 1) := by decide +kernel
theorem dX11_insert_61 : decode cX11_insert 61 = .ok (.goto 4, 3) := by decide +kernel
theorem dX11_insert_64 : decode cX11_insert 64 = .ok (.iconst 0, 1) := by decide +kernel
theorem dX11_insert_65 : decode cX11_insert 65 = .ok (.iconst 3, 1) := by decide +kernel
theorem dX11_insert_66 : decode cX11_insert 66 = .ok (.invokevirtual 42, 3) := by decide +kernel
theorem dX11_insert_69 : decode cX11_insert 69 = .ok (.ifCond .eq 5, 3) := by decide +kernel
theorem dX11_insert_72 : decode cX11_insert 72 = .ok (.iconst 0, 1) := by decide +kernel
theorem dX11_insert_73 : decode cX11_insert 73 = .ok (.ireturn, 1) := by decide +kernel
theorem dX11_insert_74 : decode cX11_insert 74 = .ok (.aload_n 0, 1) := by decide +kernel
theorem dX11_insert_75 : decode cX11_insert 75 = .ok (.getfield 14, 3) := by decide +kernel
theorem dX11_insert_78 : decode cX11_insert 78 = .ok (.iload_n 1, 1) := by decide +kernel
theorem dX11_insert_79 : decode cX11_insert 79 = .ok (.iaload, 1) := by decide +kernel
theorem dX11_insert_80 : decode cX11_insert 80 = .ok (.istore 4, 2) := by decide +kernel
theorem dX11_insert_82 : decode cX11_insert 82 = .ok (.iload 4, 2) := by decide +kernel
theorem dX11_insert_84 : decode cX11_insert 84 = .ok (.iload_n 2, 1) := by decide +kernel
theorem dX11_insert_85 : decode cX11_insert 85 = .ok (.if_icmp .le 29, 3) := by decide +kernel
theorem dX11_insert_88 : decode cX11_insert 88 = .ok (.aload_n 0, 1) := by decide +kernel
theorem dX11_insert_89 : decode cX11_insert 89 = .ok (.getfield 11, 3) := by decide +kernel
theorem dX11_insert_92 : decode cX11_insert 92 = .ok (.iload_n 1, 1) := by decide +kernel
theorem dX11_insert_93 : decode cX11_insert 93 = .ok (.aaload, 1) := by decide +kernel
theorem dX11_insert_94 : decode cX11_insert 94 = .ok (.iload 4, 2) := by decide +kernel
theorem dX11_insert_96 : decode cX11_insert 96 = .ok (.aload_n 0, 1) := by decide +kernel
theorem dX11_insert_97 : decode cX11_insert 97 = .ok (.getfield 11, 3) := by decide +kernel
theorem dX11_insert_100 : decode cX11_insert 100 = .ok (.iload_n 1, 1) := by decide +kernel
theorem dX11_insert_101 : decode cX11_insert 101 = .ok (.aaload, 1) := by decide +kernel
theorem dX11_insert_102 : decode cX11_insert 102 = .ok (.iload 4, 2) := by decide +kernel
theorem dX11_insert_104 : decode cX11_insert 104 = .ok (.iconst 1, 1) := by decide +kernel
theorem dX11_insert_105 : decode cX11_insert 105 = .ok (.isub, 1) := by decide +kernel
theorem dX11_insert_106 : decode cX11_insert 106 = .ok (.iaload, 1) := by decide +kernel
theorem dX11_insert_107 : decode cX11_insert 107 = .ok (.iastore, 1) := by decide +kernel
theorem dX11_insert_108 : decode cX11_insert 108 = .ok (.iinc 4 (-1), 3) := by decide +kernel
theorem dX11_insert_111 : decode cX11_insert 111 = .ok (.goto (-29), 3) := by decide +kernel
theorem dX11_insert_114 : decode cX11_insert 114 = .ok (.aload_n 0, 1) := by decide +kernel
theorem dX11_insert_115 : decode cX11_insert 115 = .ok (.getfield 11, 3) := by decide +kernel
theorem dX11_insert_118 : decode cX11_insert 118 = .ok (.iload_n 1, 1) := by decide +kernel
theorem dX11_insert_119 : decode cX11_insert 119 = .ok (.aaload, 1) := by decide +kernel
theorem dX11_insert_120 : decode cX11_insert 120 = .ok (.iload_n 2, 1) := by decide +kernel
theorem dX11_insert_121 : decode cX11_insert 121 = .ok (.iload_n 3, 1) := by decide +kernel
theorem dX11_insert_122 : decode cX11_insert 122 = .ok (.iastore, 1) := by decide +kernel
theorem dX11_insert_123 : decode cX11_insert 123 = .ok (.aload_n 0, 1) := by decide +kernel
theorem dX11_insert_124 : decode cX11_insert 124 = .ok (.getfield 14, 3) := by decide +kernel
theorem dX11_insert_127 : decode cX11_insert 127 = .ok (.iload_n 1, 1) := by decide +kernel
theorem dX11_insert_128 : decode cX11_insert 128 = .ok (.dup2, 1) := by decide +kernel
theorem dX11_insert_129 : decode cX11_insert 129 = .ok (.iaload, 1) := by decide +kernel
theorem dX11_insert_130 : decode cX11_insert 130 = .ok (.iconst 1, 1) := by decide +kernel
theorem dX11_insert_131 : decode cX11_insert 131 = .ok (.iadd, 1) := by decide +kernel
theorem dX11_insert_132 : decode cX11_insert 132 = .ok (.iastore, 1) := by decide +kernel
theorem dX11_insert_133 : decode cX11_insert 133 = .ok (.aload_n 0, 1) := by decide +kernel
theorem dX11_insert_134 : decode cX11_insert 134 = .ok (.iload_n 1, 1) := by decide +kernel
theorem dX11_insert_135 : decode cX11_insert 135 = .ok (.invokevirtual 68, 3) := by decide +kernel
theorem dX11_insert_138 : decode cX11_insert 138 = .ok (.ireturn, 1) := by decide +kernel
theorem dX11_takeOut_0 : decode cX11_takeOut 0 = .ok (.aload_n 0, 1) := by decide +kernel
theorem dX11_takeOut_1 : decode cX11_takeOut 1 = .ok (.aload_n 0, 1) := by decide +kernel
theorem dX11_takeOut_2 : decode cX11_takeOut 2 = .ok (.iload_n 1, 1) := by decide +kernel
theorem dX11_takeOut_3 : decode cX11_takeOut 3 = .ok (.iload_n 2, 1) := by decide +kernel
theorem dX11_takeOut_4 : decode cX11_takeOut 4 = .ok (.invokevirtual 71, 3) := by decide +kernel
theorem dX11_takeOut_7 : decode cX11_takeOut 7 = .ok (.iconst 1, 1) := by decide +kernel
theorem dX11_takeOut_8 : decode cX11_takeOut 8 = .ok (.invokevirtual 42, 3) := by decide +kernel
theorem dX11_takeOut_11 : decode cX11_takeOut 11 = .ok (.ifCond .eq 5, 3) := by decide +kernel
theorem dX11_takeOut_14 : decode cX11_takeOut 14 = .ok (.iconst 0, 1) := by decide +kernel
theorem dX11_takeOut_15 : decode cX11_takeOut 15 = .ok (.ireturn, 1) := by decide +kernel
theorem dX11_takeOut_16 : decode cX11_takeOut 16 = .ok (.aload_n 0, 1) := by decide +kernel
theorem dX11_takeOut_17 : decode cX11_takeOut 17 = .ok (.getfield 20, 3) := by decide +kernel
theorem dX11_takeOut_20 : decode cX11_takeOut 20 = .ok (.iload_n 1, 1) := by decide +kernel
theorem dX11_takeOut_21 : decode cX11_takeOut 21 = .ok (.aaload, 1) := by decide +kernel
theorem dX11_takeOut_22 : decode cX11_takeOut 22 = .ok (.invokestatic 50, 3) := by decide +kernel
theorem dX11_takeOut_25 : decode cX11_takeOut 25 = .ok (.istore_n 3, 1) := by decide +kernel
theorem dX11_takeOut_26 : decode cX11_takeOut 26 = .ok (.iload_n 2, 1) := by decide +kernel
theorem dX11_takeOut_27 : decode cX11_takeOut 27 = .ok (.iconst 1, 1) := by decide +kernel
theorem dX11_takeOut_28 : decode cX11_takeOut 28 = .ok (.iadd, 1) := by decide +kernel
theorem dX11_takeOut_29 : decode cX11_takeOut 29 = .ok (.istore 4, 2) := by decide +kernel
theorem dX11_takeOut_31 : decode cX11_takeOut 31 = .ok (.iload 4, 2) := by decide +kernel
theorem dX11_takeOut_33 : decode cX11_takeOut 33 = .ok (.aload_n 0, 1) := by decide +kernel
theorem dX11_takeOut_34 : decode cX11_takeOut 34 = .ok (.getfield 14, 3) := by decide +kernel
theorem dX11_takeOut_37 : decode cX11_takeOut 37 = .ok (.iload_n 1, 1) := by decide +kernel
theorem dX11_takeOut_38 : decode cX11_takeOut 38 = .ok (.iaload, 1) := by decide +kernel
theorem dX11_takeOut_39 : decode cX11_takeOut 39 = .ok (.if_icmp .ge 29, 3) := by decide +kernel
theorem dX11_takeOut_42 : decode cX11_takeOut 42 = .ok (.aload_n 0, 1) := by decide +kernel
theorem dX11_takeOut_43 : decode cX11_takeOut 43 = .ok (.getfield 11, 3) := by decide +kernel
theorem dX11_takeOut_46 : decode cX11_takeOut 46 = .ok (.iload_n 1, 1) := by decide +kernel
theorem dX11_takeOut_47 : decode cX11_takeOut 47 = .ok (.aaload, 1) := by decide +kernel
theorem dX11_takeOut_48 : decode cX11_takeOut 48 = .ok (.iload 4, 2) := by decide +kernel
theorem dX11_takeOut_50 : decode cX11_takeOut 50 = .ok (.iconst 1, 1) := by decide +kernel
theorem dX11_takeOut_51 : decode cX11_takeOut 51 = .ok (.isub, 1) := by decide +kernel
theorem dX11_takeOut_52 : decode cX11_takeOut 52 = .ok (.aload_n 0, 1) := by decide +kernel
theorem dX11_takeOut_53 : decode cX11_takeOut 53 = .ok (.getfield 11, 3) := by decide +kernel
theorem dX11_takeOut_56 : decode cX11_takeOut 56 = .ok (.iload_n 1, 1) := by decide +kernel
theorem dX11_takeOut_57 : decode cX11_takeOut 57 = .ok (.aaload, 1) := by decide +kernel
theorem dX11_takeOut_58 : decode cX11_takeOut 58 = .ok (.iload 4, 2) := by decide +kernel
theorem dX11_takeOut_60 : decode cX11_takeOut 60 = .ok (.iaload, 1) := by decide +kernel
theorem dX11_takeOut_61 : decode cX11_takeOut 61 = .ok (.iastore, 1) := by decide +kernel
theorem dX11_takeOut_62 : decode cX11_takeOut 62 = .ok (.iinc 4 1, 3) := by decide +kernel
theorem dX11_takeOut_65 : decode cX11_takeOut 65 = .ok (.goto (-34), 3) := by decide +kernel
theorem dX11_takeOut_68 : decode cX11_takeOut 68 = .ok (.aload_n 0, 1) := by decide +kernel
theorem dX11_takeOut_69 : decode cX11_takeOut 69 = .ok (.getfield 14, 3) := by decide +kernel
theorem dX11_takeOut_72 : decode cX11_takeOut 72 = .ok (.iload_n 1, 1) := by decide +kernel
theorem dX11_takeOut_73 : decode cX11_takeOut 73 = .ok (.dup2, 1) := by decide +kernel
theorem dX11_takeOut_74 : decode cX11_takeOut 74 = .ok (.iaload, 1) := by decide +kernel
theorem dX11_takeOut_75 : decode cX11_takeOut 75 = .ok (.iconst 1, 1) := by decide +kernel
theorem dX11_takeOut_76 : decode cX11_takeOut 76 = .ok (.isub, 1) := by decide +kernel
theorem dX11_takeOut_77 : decode cX11_takeOut 77 = .ok (.iastore, 1) := by decide +kernel
theorem dX11_takeOut_78 : decode cX11_takeOut 78 = .ok (.iload_n 3, 1) := by decide +kernel
theorem dX11_takeOut_79 : decode cX11_takeOut 79 = .ok (.aload_n 0, 1) := by decide +kernel
theorem dX11_takeOut_80 : decode cX11_takeOut 80 = .ok (.iload_n 1, 1) := by decide +kernel
theorem dX11_takeOut_81 : decode cX11_takeOut 81 = .ok (.invokevirtual 68, 3) := by decide +kernel
theorem dX11_takeOut_84 : decode cX11_takeOut 84 = .ok (.isub, 1) := by decide +kernel
theorem dX11_takeOut_85 : decode cX11_takeOut 85 = .ok (.ireturn, 1) := by decide +kernel
theorem dX11_exchange_0 : decode cX11_exchange 0 = .ok (.aload_n 0, 1) := by decide +kernel
theorem dX11_exchange_1 : decode cX11_exchange 1 = .ok (.aload_n 0, 1) := by decide +kernel
theorem dX11_exchange_2 : decode cX11_exchange 2 = .ok (.iload_n 1, 1) := by decide +kernel
theorem dX11_exchange_3 : decode cX11_exchange 3 = .ok (.iload_n 2, 1) := by decide +kernel
theorem dX11_exchange_4 : decode cX11_exchange 4 = .ok (.invokevirtual 71, 3) := by decide +kernel
theorem dX11_exchange_7 : decode cX11_exchange 7 = .ok (.iconst 1, 1) := by decide +kernel
theorem dX11_exchange_8 : decode cX11_exchange 8 = .ok (.invokevirtual 42, 3) := by decide +kernel
theorem dX11_exchange_11 : decode cX11_exchange 11 = .ok (.ifCond .ne 50, 3) := by decide +kernel
theorem dX11_exchange_14 : decode cX11_exchange 14 = .ok (.aload_n 0, 1) := by decide +kernel
theorem dX11_exchange_15 : decode cX11_exchange 15 = .ok (.iload_n 3, 1) := by decide +kernel
theorem dX11_exchange_16 : decode cX11_exchange 16 = .ok (.iconst 1, 1) := by decide +kernel
theorem dX11_exchange_17 : decode cX11_exchange 17 = .ok (.bipush 120, 2) := by decide +kernel
theorem dX11_exchange_19 : decode cX11_exchange 19 = .ok (.invokestatic 34, 3) := by decide +kernel
theorem dX11_exchange_22 : decode cX11_exchange 22 = .ok (.iconst 2, 1) := by decide +kernel
theorem dX11_exchange_23 : decode cX11_exchange 23 = .ok (.invokevirtual 42, 3) := by decide +kernel
theorem dX11_exchange_26 : decode cX11_exchange 26 = .ok (.ifCond .ne 35, 3) := by decide +kernel
theorem dX11_exchange_29 : decode cX11_exchange 29 = .ok (.aload_n 0, 1) := by decide +kernel
theorem dX11_exchange_30 : decode cX11_exchange 30 = .ok (.aload_n 0, 1) := by decide +kernel
theorem dX11_exchange_31 : decode cX11_exchange 31 = .ok (.iload_n 1, 1) := by decide +kernel
theorem dX11_exchange_32 : decode cX11_exchange 32 = .ok (.iconst 0, 1) := by decide +kernel
theorem dX11_exchange_33 : decode cX11_exchange 33 = .ok (.iload_n 3, 1) := by decide +kernel
theorem dX11_exchange_34 : decode cX11_exchange 34 = .ok (.aload_n 0, 1) := by decide +kernel
theorem dX11_exchange_35 : decode cX11_exchange 35 = .ok (.getfield 11, 3) := by decide +kernel
theorem dX11_exchange_38 : decode cX11_exchange 38 = .ok (.iload_n 1, 1) := by decide +kernel
theorem dX11_exchange_39 : decode cX11_exchange 39 = .ok (.aaload, 1) := by decide +kernel
theorem dX11_exchange_40 : decode cX11_exchange 40 = .ok (.iload_n 2, 1) := by decide +kernel
theorem dX11_exchange_41 : decode cX11_exchange 41 = .ok (.iaload, 1) := by decide +kernel
theorem dX11_exchange_42 : decode cX11_exchange 42 = .ok (.isub, 1) := by decide +kernel
theorem dX11_exchange_43 : decode cX11_exchange 43 = .ok (.invokevirtual 65, 3) := by decide +kernel
theorem dX11_exchange_46 : decode cX11_exchange 46 = .ok (.ifCond .ne 7, 3) := by decide +kernel
theorem dX11_exchange_49 : decode cX11_exchange 49 = .ok (.iconst 1, 1) := by decide +kernel
theorem dX11_exchange_50 : decode cX11_exchange 50 = .ok (.goto 4, 3) := by decide +kernel
theorem dX11_exchange_53 : decode cX11_exchange 53 = .ok (.iconst 0, 1) := by decide +kernel
theorem dX11_exchange_54 : decode cX11_exchange 54 = .ok (.iconst 3, 1) := by decide +kernel
theorem dX11_exchange_55 : decode cX11_exchange 55 = .ok (.invokevirtual 42, 3) := by decide +kernel
theorem dX11_exchange_58 : decode cX11_exchange 58 = .ok (.ifCond .eq 5, 3) := by decide +kernel
theorem dX11_exchange_61 : decode cX11_exchange 61 = .ok (.iconst 0, 1) := by decide +kernel
theorem dX11_exchange_62 : decode cX11_exchange 62 = .ok (.ireturn, 1) := by decide +kernel
theorem dX11_exchange_63 : decode cX11_exchange 63 = .ok (.aload_n 0, 1) := by decide +kernel
theorem dX11_exchange_64 : decode cX11_exchange 64 = .ok (.getfield 11, 3) := by decide +kernel
theorem dX11_exchange_67 : decode cX11_exchange 67 = .ok (.iload_n 1, 1) := by decide +kernel
theorem dX11_exchange_68 : decode cX11_exchange 68 = .ok (.aaload, 1) := by decide +kernel
theorem dX11_exchange_69 : decode cX11_exchange 69 = .ok (.iload_n 2, 1) := by decide +kernel
theorem dX11_exchange_70 : decode cX11_exchange 70 = .ok (.iaload, 1) := by decide +kernel
theorem dX11_exchange_71 : decode cX11_exchange 71 = .ok (.istore 4, 2) := by decide +kernel
theorem dX11_exchange_73 : decode cX11_exchange 73 = .ok (.aload_n 0, 1) := by decide +kernel
theorem dX11_exchange_74 : decode cX11_exchange 74 = .ok (.getfield 11, 3) := by decide +kernel
theorem dX11_exchange_77 : decode cX11_exchange 77 = .ok (.iload_n 1, 1) := by decide +kernel
theorem dX11_exchange_78 : decode cX11_exchange 78 = .ok (.aaload, 1) := by decide +kernel
theorem dX11_exchange_79 : decode cX11_exchange 79 = .ok (.iload_n 2, 1) := by decide +kernel
theorem dX11_exchange_80 : decode cX11_exchange 80 = .ok (.iload_n 3, 1) := by decide +kernel
theorem dX11_exchange_81 : decode cX11_exchange 81 = .ok (.iastore, 1) := by decide +kernel
theorem dX11_exchange_82 : decode cX11_exchange 82 = .ok (.aload_n 0, 1) := by decide +kernel
theorem dX11_exchange_83 : decode cX11_exchange 83 = .ok (.iload_n 1, 1) := by decide +kernel
theorem dX11_exchange_84 : decode cX11_exchange 84 = .ok (.invokevirtual 68, 3) := by decide +kernel
theorem dX11_exchange_87 : decode cX11_exchange 87 = .ok (.istore 5, 2) := by decide +kernel
theorem dX11_exchange_89 : decode cX11_exchange 89 = .ok (.iload 4, 2) := by decide +kernel
theorem dX11_exchange_91 : decode cX11_exchange 91 = .ok (.ireturn, 1) := by decide +kernel
theorem dX11_move_0 : decode cX11_move 0 = .ok (.aload_n 0, 1) := by decide +kernel
theorem dX11_move_1 : decode cX11_move 1 = .ok (.aload_n 0, 1) := by decide +kernel
theorem dX11_move_2 : decode cX11_move 2 = .ok (.iload_n 1, 1) := by decide +kernel
theorem dX11_move_3 : decode cX11_move 3 = .ok (.iload_n 2, 1) := by decide +kernel
theorem dX11_move_4 : decode cX11_move 4 = .ok (.invokevirtual 71, 3) := by decide +kernel
theorem dX11_move_7 : decode cX11_move 7 = .ok (.ifCond .eq 16, 3) := by decide +kernel
theorem dX11_move_10 : decode cX11_move 10 = .ok (.aload_n 0, 1) := by decide +kernel
theorem dX11_move_11 : decode cX11_move 11 = .ok (.iload_n 1, 1) := by decide +kernel
theorem dX11_move_12 : decode cX11_move 12 = .ok (.iload_n 3, 1) := by decide +kernel
theorem dX11_move_13 : decode cX11_move 13 = .ok (.invokevirtual 71, 3) := by decide +kernel
theorem dX11_move_16 : decode cX11_move 16 = .ok (.ifCond .eq 7, 3) := by decide +kernel
theorem dX11_move_19 : decode cX11_move 19 = .ok (.iconst 1, 1) := by decide +kernel
theorem dX11_move_20 : decode cX11_move 20 = .ok (.goto 4, 3) := by decide +kernel
theorem dX11_move_23 : decode cX11_move 23 = .ok (.iconst 0, 1) := by decide +kernel
theorem dX11_move_24 : decode cX11_move 24 = .ok (.iconst 1, 1) := by decide +kernel
theorem dX11_move_25 : decode cX11_move 25 = .ok (.invokevirtual 42, 3) := by decide +kernel
theorem dX11_move_28 : decode cX11_move 28 = .ok (.ifCond .eq 5, 3) := by decide +kernel
theorem dX11_move_31 : decode cX11_move 31 = .ok (.iconst 0, 1) := by decide +kernel
theorem dX11_move_32 : decode cX11_move 32 = .ok (.ireturn, 1) := by decide +kernel
theorem dX11_move_33 : decode cX11_move 33 = .ok (.aload_n 0, 1) := by decide +kernel
theorem dX11_move_34 : decode cX11_move 34 = .ok (.getfield 11, 3) := by decide +kernel
theorem dX11_move_37 : decode cX11_move 37 = .ok (.iload_n 1, 1) := by decide +kernel
theorem dX11_move_38 : decode cX11_move 38 = .ok (.aaload, 1) := by decide +kernel
theorem dX11_move_39 : decode cX11_move 39 = .ok (.iload_n 2, 1) := by decide +kernel
theorem dX11_move_40 : decode cX11_move 40 = .ok (.iaload, 1) := by decide +kernel
theorem dX11_move_41 : decode cX11_move 41 = .ok (.istore 4, 2) := by decide +kernel
theorem dX11_move_43 : decode cX11_move 43 = .ok (.iload_n 2, 1) := by decide +kernel
theorem dX11_move_44 : decode cX11_move 44 = .ok (.iload_n 3, 1) := by decide +kernel
theorem dX11_move_45 : decode cX11_move 45 = .ok (.if_icmp .ge 7, 3) := by decide +kernel
theorem dX11_move_48 : decode cX11_move 48 = .ok (.iconst 1, 1) := by decide +kernel
theorem dX11_move_49 : decode cX11_move 49 = .ok (.goto 4, 3) := by decide +kernel
theorem dX11_move_52 : decode cX11_move 52 = .ok (.iconst (-1), 1) := by decide +kernel
theorem dX11_move_53 : decode cX11_move 53 = .ok (.istore 5, 2) := by decide +kernel
theorem dX11_move_55 : decode cX11_move 55 = .ok (.iload_n 2, 1) := by decide +kernel
theorem dX11_move_56 : decode cX11_move 56 = .ok (.istore 6, 2) := by decide +kernel
theorem dX11_move_58 : decode cX11_move 58 = .ok (.iload 6, 2) := by decide +kernel
theorem dX11_move_60 : decode cX11_move 60 = .ok (.iload_n 3, 1) := by decide +kernel
theorem dX11_move_61 : decode cX11_move 61 = .ok (.if_icmp .eq 34, 3) := by decide +kernel
theorem dX11_move_64 : decode cX11_move 64 = .ok (.aload_n 0, 1) := by decide +kernel
theorem dX11_move_65 : decode cX11_move 65 = .ok (.getfield 11, 3) := by decide +kernel
theorem dX11_move_68 : decode cX11_move 68 = .ok (.iload_n 1, 1) := by decide +kernel
theorem dX11_move_69 : decode cX11_move 69 = .ok (.aaload, 1) := by decide +kernel
theorem dX11_move_70 : decode cX11_move 70 = .ok (.iload 6, 2) := by decide +kernel
theorem dX11_move_72 : decode cX11_move 72 = .ok (.aload_n 0, 1) := by decide +kernel
theorem dX11_move_73 : decode cX11_move 73 = .ok (.getfield 11, 3) := by decide +kernel
theorem dX11_move_76 : decode cX11_move 76 = .ok (.iload_n 1, 1) := by decide +kernel
theorem dX11_move_77 : decode cX11_move 77 = .ok (.aaload, 1) := by decide +kernel
theorem dX11_move_78 : decode cX11_move 78 = .ok (.iload 6, 2) := by decide +kernel
theorem dX11_move_80 : decode cX11_move 80 = .ok (.iload 5, 2) := by decide +kernel
theorem dX11_move_82 : decode cX11_move 82 = .ok (.iadd, 1) := by decide +kernel
theorem dX11_move_83 : decode cX11_move 83 = .ok (.iaload, 1) := by decide +kernel
theorem dX11_move_84 : decode cX11_move 84 = .ok (.iastore, 1) := by decide +kernel
theorem dX11_move_85 : decode cX11_move 85 = .ok (.iload 6, 2) := by decide +kernel
theorem dX11_move_87 : decode cX11_move 87 = .ok (.iload 5, 2) := by decide +kernel
theorem dX11_move_89 : decode cX11_move 89 = .ok (.iadd, 1) := by decide +kernel
theorem dX11_move_90 : decode cX11_move 90 = .ok (.istore 6, 2) := by decide +kernel
theorem dX11_move_92 : decode cX11_move 92 = .ok (.goto (-34), 3) := by decide +kernel
theorem dX11_move_95 : decode cX11_move 95 = .ok (.aload_n 0, 1) := by decide +kernel
theorem dX11_move_96 : decode cX11_move 96 = .ok (.getfield 11, 3) := by decide +kernel
theorem dX11_move_99 : decode cX11_move 99 = .ok (.iload_n 1, 1) := by decide +kernel
theorem dX11_move_100 : decode cX11_move 100 = .ok (.aaload, 1) := by decide +kernel
theorem dX11_move_101 : decode cX11_move 101 = .ok (.iload_n 3, 1) := by decide +kernel
theorem dX11_move_102 : decode cX11_move 102 = .ok (.iload 4, 2) := by decide +kernel
theorem dX11_move_104 : decode cX11_move 104 = .ok (.iastore, 1) := by decide +kernel
theorem dX11_move_105 : decode cX11_move 105 = .ok (.iload 4, 2) := by decide +kernel
theorem dX11_move_107 : decode cX11_move 107 = .ok (.ireturn, 1) := by decide +kernel
theorem dX11_sort_0 : decode cX11_sort 0 = .ok (.aload_n 0, 1) := by decide +kernel
theorem dX11_sort_1 : decode cX11_sort 1 = .ok (.iload_n 1, 1) := by decide +kernel
theorem dX11_sort_2 : decode cX11_sort 2 = .ok (.invokevirtual 62, 3) := by decide +kernel
theorem dX11_sort_5 : decode cX11_sort 5 = .ok (.ifCond .eq 5, 3) := by decide +kernel
theorem dX11_sort_8 : decode cX11_sort 8 = .ok (.iconst 0, 1) := by decide +kernel
theorem dX11_sort_9 : decode cX11_sort 9 = .ok (.ireturn, 1) := by decide +kernel
theorem dX11_sort_10 : decode cX11_sort 10 = .ok (.aload_n 0, 1) := by decide +kernel
theorem dX11_sort_11 : decode cX11_sort 11 = .ok (.getfield 14, 3) := by decide +kernel
theorem dX11_sort_14 : decode cX11_sort 14 = .ok (.iload_n 1, 1) := by decide +kernel
theorem dX11_sort_15 : decode cX11_sort 15 = .ok (.iaload, 1) := by decide +kernel
theorem dX11_sort_16 : decode cX11_sort 16 = .ok (.newarray .int, 2) := by decide +kernel
theorem dX11_sort_18 : decode cX11_sort 18 = .ok (.astore_n 2, 1) := by decide +kernel
theorem dX11_sort_19 : decode cX11_sort 19 = .ok (.iconst 0, 1) := by decide +kernel
theorem dX11_sort_20 : decode cX11_sort 20 = .ok (.istore_n 3, 1) := by decide +kernel
theorem dX11_sort_21 : decode cX11_sort 21 = .ok (.iload_n 3, 1) := by decide +kernel
theorem dX11_sort_22 : decode cX11_sort 22 = .ok (.aload_n 2, 1) := by decide +kernel
theorem dX11_sort_23 : decode cX11_sort 23 = .ok (.arraylength, 1) := by decide +kernel
theorem dX11_sort_24 : decode cX11_sort 24 = .ok (.if_icmp .ge 20, 3) := by decide +kernel
theorem dX11_sort_27 : decode cX11_sort 27 = .ok (.aload_n 2, 1) := by decide +kernel
theorem dX11_sort_28 : decode cX11_sort 28 = .ok (.iload_n 3, 1) := by decide +kernel
theorem dX11_sort_29 : decode cX11_sort 29 = .ok (.aload_n 0, 1) := by decide +kernel
theorem dX11_sort_30 : decode cX11_sort 30 = .ok (.getfield 11, 3) := by decide +kernel
theorem dX11_sort_33 : decode cX11_sort 33 = .ok (.iload_n 1, 1) := by decide +kernel
theorem dX11_sort_34 : decode cX11_sort 34 = .ok (.aaload, 1) := by decide +kernel
theorem dX11_sort_35 : decode cX11_sort 35 = .ok (.iload_n 3, 1) := by decide +kernel
theorem dX11_sort_36 : decode cX11_sort 36 = .ok (.iaload, 1) := by decide +kernel
theorem dX11_sort_37 : decode cX11_sort 37 = .ok (.iastore, 1) := by decide +kernel
theorem dX11_sort_38 : decode cX11_sort 38 = .ok (.iinc 3 1, 3) := by decide +kernel
theorem dX11_sort_41 : decode cX11_sort 41 = .ok (.goto (-20), 3) := by decide +kernel
theorem dX11_sort_44 : decode cX11_sort 44 = .ok (.iconst 0, 1) := by decide +kernel
theorem dX11_sort_45 : decode cX11_sort 45 = .ok (.istore_n 3, 1) := by decide +kernel
theorem dX11_sort_46 : decode cX11_sort 46 = .ok (.iconst 1, 1) := by decide +kernel
theorem dX11_sort_47 : decode cX11_sort 47 = .ok (.istore 4, 2) := by decide +kernel
theorem dX11_sort_49 : decode cX11_sort 49 = .ok (.iload 4, 2) := by decide +kernel
theorem dX11_sort_51 : decode cX11_sort 51 = .ok (.bipush 120, 2) := by decide +kernel
theorem dX11_sort_53 : decode cX11_sort 53 = .ok (.if_icmp .gt 60, 3) := by decide +kernel
theorem dX11_sort_56 : decode cX11_sort 56 = .ok (.aload_n 2, 1) := by decide +kernel
theorem dX11_sort_57 : decode cX11_sort 57 = .ok (.astore 5, 2) := by decide +kernel
theorem dX11_sort_59 : decode cX11_sort 59 = .ok (.aload 5, 2) := by decide +kernel
theorem dX11_sort_61 : decode cX11_sort 61 = .ok (.arraylength, 1) := by decide +kernel
theorem dX11_sort_62 : decode cX11_sort 62 = .ok (.istore 6, 2) := by decide +kernel
theorem dX11_sort_64 : decode cX11_sort 64 = .ok (.iconst 0, 1) := by decide +kernel
theorem dX11_sort_65 : decode cX11_sort 65 = .ok (.istore 7, 2) := by decide +kernel
theorem dX11_sort_67 : decode cX11_sort 67 = .ok (.iload 7, 2) := by decide +kernel
theorem dX11_sort_69 : decode cX11_sort 69 = .ok (.iload 6, 2) := by decide +kernel
theorem dX11_sort_71 : decode cX11_sort 71 = .ok (.if_icmp .ge 36, 3) := by decide +kernel
theorem dX11_sort_74 : decode cX11_sort 74 = .ok (.aload 5, 2) := by decide +kernel
theorem dX11_sort_76 : decode cX11_sort 76 = .ok (.iload 7, 2) := by decide +kernel
theorem dX11_sort_78 : decode cX11_sort 78 = .ok (.iaload, 1) := by decide +kernel
theorem dX11_sort_79 : decode cX11_sort 79 = .ok (.istore 8, 2) := by decide +kernel
theorem dX11_sort_81 : decode cX11_sort 81 = .ok (.iload 8, 2) := by decide +kernel
theorem dX11_sort_83 : decode cX11_sort 83 = .ok (.iload 4, 2) := by decide +kernel
theorem dX11_sort_85 : decode cX11_sort 85 = .ok (.if_icmp .ne 16, 3) := by decide +kernel
theorem dX11_sort_88 : decode cX11_sort 88 = .ok (.aload_n 0, 1) := by decide +kernel
theorem dX11_sort_89 : decode cX11_sort 89 = .ok (.getfield 11, 3) := by decide +kernel
theorem dX11_sort_92 : decode cX11_sort 92 = .ok (.iload_n 1, 1) := by decide +kernel
theorem dX11_sort_93 : decode cX11_sort 93 = .ok (.aaload, 1) := by decide +kernel
theorem dX11_sort_94 : decode cX11_sort 94 = .ok (.iload_n 3, 1) := by decide +kernel
theorem dX11_sort_95 : decode cX11_sort 95 = .ok (.iload 4, 2) := by decide +kernel
theorem dX11_sort_97 : decode cX11_sort 97 = .ok (.iastore, 1) := by decide +kernel
theorem dX11_sort_98 : decode cX11_sort 98 = .ok (.iinc 3 1, 3) := by decide +kernel
theorem dX11_sort_101 : decode cX11_sort 101 = .ok (.iinc 7 1, 3) := by decide +kernel
theorem dX11_sort_104 : decode cX11_sort 104 = .ok (.goto (-37), 3) := by decide +kernel
theorem dX11_sort_107 : decode cX11_sort 107 = .ok (.iinc 4 1, 3) := by decide +kernel
theorem dX11_sort_110 : decode cX11_sort 110 = .ok (.goto (-61), 3) := by decide +kernel
theorem dX11_sort_113 : decode cX11_sort 113 = .ok (.iconst 0, 1) := by decide +kernel
theorem dX11_sort_114 : decode cX11_sort 114 = .ok (.istore 4, 2) := by decide +kernel
theorem dX11_sort_116 : decode cX11_sort 116 = .ok (.iconst 0, 1) := by decide +kernel
theorem dX11_sort_117 : decode cX11_sort 117 = .ok (.istore 5, 2) := by decide +kernel
theorem dX11_sort_119 : decode cX11_sort 119 = .ok (.iload 5, 2) := by decide +kernel
theorem dX11_sort_121 : decode cX11_sort 121 = .ok (.aload_n 2, 1) := by decide +kernel
theorem dX11_sort_122 : decode cX11_sort 122 = .ok (.arraylength, 1) := by decide +kernel
theorem dX11_sort_123 : decode cX11_sort 123 = .ok (.if_icmp .ge 35, 3) := by decide +kernel
theorem dX11_sort_126 : decode cX11_sort 126 = .ok (.iload 4, 2) := by decide +kernel
theorem dX11_sort_128 : decode cX11_sort 128 = .ok (.aload_n 2, 1) := by decide +kernel
theorem dX11_sort_129 : decode cX11_sort 129 = .ok (.iload 5, 2) := by decide +kernel
theorem dX11_sort_131 : decode cX11_sort 131 = .ok (.iaload, 1) := by decide +kernel
theorem dX11_sort_132 : decode cX11_sort 132 = .ok (.aload_n 0, 1) := by decide +kernel
theorem dX11_sort_133 : decode cX11_sort 133 = .ok (.getfield 11, 3) := by decide +kernel
theorem dX11_sort_136 : decode cX11_sort 136 = .ok (.iload_n 1, 1) := by decide +kernel
theorem dX11_sort_137 : decode cX11_sort 137 = .ok (.aaload, 1) := by decide +kernel
theorem dX11_sort_138 : decode cX11_sort 138 = .ok (.iload 5, 2) := by decide +kernel
theorem dX11_sort_140 : decode cX11_sort 140 = .ok (.iaload, 1) := by decide +kernel
theorem dX11_sort_141 : decode cX11_sort 141 = .ok (.if_icmp .ne 7, 3) := by decide +kernel
theorem dX11_sort_144 : decode cX11_sort 144 = .ok (.iconst 0, 1) := by decide +kernel
theorem dX11_sort_145 : decode cX11_sort 145 = .ok (.goto 4, 3) := by decide +kernel
theorem dX11_sort_148 : decode cX11_sort 148 = .ok (.iconst 1, 1) := by decide +kernel
theorem dX11_sort_149 : decode cX11_sort 149 = .ok (.iadd, 1) := by decide +kernel
theorem dX11_sort_150 : decode cX11_sort 150 = .ok (.istore 4, 2) := by decide +kernel
theorem dX11_sort_152 : decode cX11_sort 152 = .ok (.iinc 5 1, 3) := by decide +kernel
theorem dX11_sort_155 : decode cX11_sort 155 = .ok (.goto (-36), 3) := by decide +kernel
theorem dX11_sort_158 : decode cX11_sort 158 = .ok (.iload 4, 2) := by decide +kernel
theorem dX11_sort_160 : decode cX11_sort 160 = .ok (.ireturn, 1) := by decide +kernel
theorem dX11_clear_0 : decode cX11_clear 0 = .ok (.aload_n 0, 1) := by decide +kernel
theorem dX11_clear_1 : decode cX11_clear 1 = .ok (.iload_n 1, 1) := by decide +kernel
theorem dX11_clear_2 : decode cX11_clear 2 = .ok (.invokevirtual 62, 3) := by decide +kernel
theorem dX11_clear_5 : decode cX11_clear 5 = .ok (.ifCond .eq 5, 3) := by decide +kernel
theorem dX11_clear_8 : decode cX11_clear 8 = .ok (.iconst 0, 1) := by decide +kernel
theorem dX11_clear_9 : decode cX11_clear 9 = .ok (.ireturn, 1) := by decide +kernel
theorem dX11_clear_10 : decode cX11_clear 10 = .ok (.aload_n 0, 1) := by decide +kernel
theorem dX11_clear_11 : decode cX11_clear 11 = .ok (.getfield 14, 3) := by decide +kernel
theorem dX11_clear_14 : decode cX11_clear 14 = .ok (.iload_n 1, 1) := by decide +kernel
theorem dX11_clear_15 : decode cX11_clear 15 = .ok (.iaload, 1) := by decide +kernel
theorem dX11_clear_16 : decode cX11_clear 16 = .ok (.istore_n 2, 1) := by decide +kernel
theorem dX11_clear_17 : decode cX11_clear 17 = .ok (.aload_n 0, 1) := by decide +kernel
theorem dX11_clear_18 : decode cX11_clear 18 = .ok (.getfield 14, 3) := by decide +kernel
theorem dX11_clear_21 : decode cX11_clear 21 = .ok (.iload_n 1, 1) := by decide +kernel
theorem dX11_clear_22 : decode cX11_clear 22 = .ok (.iconst 0, 1) := by decide +kernel
theorem dX11_clear_23 : decode cX11_clear 23 = .ok (.iastore, 1) := by decide +kernel
theorem dX11_clear_24 : decode cX11_clear 24 = .ok (.aload_n 0, 1) := by decide +kernel
theorem dX11_clear_25 : decode cX11_clear 25 = .ok (.iload_n 1, 1) := by decide +kernel
theorem dX11_clear_26 : decode cX11_clear 26 = .ok (.invokevirtual 68, 3) := by decide +kernel
theorem dX11_clear_29 : decode cX11_clear 29 = .ok (.istore_n 3, 1) := by decide +kernel
theorem dX11_clear_30 : decode cX11_clear 30 = .ok (.iload_n 2, 1) := by decide +kernel
theorem dX11_clear_31 : decode cX11_clear 31 = .ok (.ireturn, 1) := by decide +kernel
theorem dX11_join_0 : decode cX11_join 0 = .ok (.aload_n 0, 1) := by decide +kernel
theorem dX11_join_1 : decode cX11_join 1 = .ok (.iload_n 1, 1) := by decide +kernel
theorem dX11_join_2 : decode cX11_join 2 = .ok (.invokestatic 38, 3) := by decide +kernel
theorem dX11_join_5 : decode cX11_join 5 = .ok (.ifCond .eq 21, 3) := by decide +kernel
theorem dX11_join_8 : decode cX11_join 8 = .ok (.iload_n 2, 1) := by decide +kernel
theorem dX11_join_9 : decode cX11_join 9 = .ok (.invokestatic 38, 3) := by decide +kernel
theorem dX11_join_12 : decode cX11_join 12 = .ok (.ifCond .eq 14, 3) := by decide +kernel
theorem dX11_join_15 : decode cX11_join 15 = .ok (.iload_n 3, 1) := by decide +kernel
theorem dX11_join_16 : decode cX11_join 16 = .ok (.invokestatic 38, 3) := by decide +kernel
theorem dX11_join_19 : decode cX11_join 19 = .ok (.ifCond .eq 7, 3) := by decide +kernel
theorem dX11_join_22 : decode cX11_join 22 = .ok (.iconst 1, 1) := by decide +kernel
theorem dX11_join_23 : decode cX11_join 23 = .ok (.goto 4, 3) := by decide +kernel
theorem dX11_join_26 : decode cX11_join 26 = .ok (.iconst 0, 1) := by decide +kernel
theorem dX11_join_27 : decode cX11_join 27 = .ok (.iconst 1, 1) := by decide +kernel
theorem dX11_join_28 : decode cX11_join 28 = .ok (.invokevirtual 42, 3) := by decide +kernel
theorem dX11_join_31 : decode cX11_join 31 = .ok (.ifCond .ne 35, 3) := by decide +kernel
theorem dX11_join_34 : decode cX11_join 34 = .ok (.aload_n 0, 1) := by decide +kernel
theorem dX11_join_35 : decode cX11_join 35 = .ok (.aload_n 0, 1) := by decide +kernel
theorem dX11_join_36 : decode cX11_join 36 = .ok (.iload_n 1, 1) := by decide +kernel
theorem dX11_join_37 : decode cX11_join 37 = .ok (.aload_n 0, 1) := by decide +kernel
theorem dX11_join_38 : decode cX11_join 38 = .ok (.getfield 14, 3) := by decide +kernel
theorem dX11_join_41 : decode cX11_join 41 = .ok (.iload_n 2, 1) := by decide +kernel
theorem dX11_join_42 : decode cX11_join 42 = .ok (.iaload, 1) := by decide +kernel
theorem dX11_join_43 : decode cX11_join 43 = .ok (.aload_n 0, 1) := by decide +kernel
theorem dX11_join_44 : decode cX11_join 44 = .ok (.iload_n 2, 1) := by decide +kernel
theorem dX11_join_45 : decode cX11_join 45 = .ok (.invokevirtual 58, 3) := by decide +kernel
theorem dX11_join_48 : decode cX11_join 48 = .ok (.invokevirtual 65, 3) := by decide +kernel
theorem dX11_join_51 : decode cX11_join 51 = .ok (.ifCond .ne 7, 3) := by decide +kernel
theorem dX11_join_54 : decode cX11_join 54 = .ok (.iconst 1, 1) := by decide +kernel
theorem dX11_join_55 : decode cX11_join 55 = .ok (.goto 4, 3) := by decide +kernel
theorem dX11_join_58 : decode cX11_join 58 = .ok (.iconst 0, 1) := by decide +kernel
theorem dX11_join_59 : decode cX11_join 59 = .ok (.iconst 2, 1) := by decide +kernel
theorem dX11_join_60 : decode cX11_join 60 = .ok (.invokevirtual 42, 3) := by decide +kernel
theorem dX11_join_63 : decode cX11_join 63 = .ok (.ifCond .eq 5, 3) := by decide +kernel
theorem dX11_join_66 : decode cX11_join 66 = .ok (.iconst 0, 1) := by decide +kernel
theorem dX11_join_67 : decode cX11_join 67 = .ok (.ireturn, 1) := by decide +kernel
theorem dX11_join_68 : decode cX11_join 68 = .ok (.aload_n 0, 1) := by decide +kernel
theorem dX11_join_69 : decode cX11_join 69 = .ok (.getfield 14, 3) := by decide +kernel
theorem dX11_join_72 : decode cX11_join 72 = .ok (.iload_n 1, 1) := by decide +kernel
theorem dX11_join_73 : decode cX11_join 73 = .ok (.iaload, 1) := by decide +kernel
theorem dX11_join_74 : decode cX11_join 74 = .ok (.aload_n 0, 1) := by decide +kernel
theorem dX11_join_75 : decode cX11_join 75 = .ok (.getfield 14, 3) := by decide +kernel
theorem dX11_join_78 : decode cX11_join 78 = .ok (.iload_n 2, 1) := by decide +kernel
theorem dX11_join_79 : decode cX11_join 79 = .ok (.iaload, 1) := by decide +kernel
theorem dX11_join_80 : decode cX11_join 80 = .ok (.iadd, 1) := by decide +kernel
theorem dX11_join_81 : decode cX11_join 81 = .ok (.newarray .int, 2) := by decide +kernel
theorem dX11_join_83 : decode cX11_join 83 = .ok (.astore 4, 2) := by decide +kernel
theorem dX11_join_85 : decode cX11_join 85 = .ok (.iconst 0, 1) := by decide +kernel
theorem dX11_join_86 : decode cX11_join 86 = .ok (.istore 5, 2) := by decide +kernel
theorem dX11_join_88 : decode cX11_join 88 = .ok (.iload 5, 2) := by decide +kernel
theorem dX11_join_90 : decode cX11_join 90 = .ok (.aload 4, 2) := by decide +kernel
theorem dX11_join_92 : decode cX11_join 92 = .ok (.arraylength, 1) := by decide +kernel
theorem dX11_join_93 : decode cX11_join 93 = .ok (.if_icmp .ge 53, 3) := by decide +kernel
theorem dX11_join_96 : decode cX11_join 96 = .ok (.aload 4, 2) := by decide +kernel
theorem dX11_join_98 : decode cX11_join 98 = .ok (.iload 5, 2) := by decide +kernel
theorem dX11_join_100 : decode cX11_join 100 = .ok (.iload 5, 2) := by decide +kernel
theorem dX11_join_102 : decode cX11_join 102 = .ok (.aload_n 0, 1) := by decide +kernel
theorem dX11_join_103 : decode cX11_join 103 = .ok (.getfield 14, 3) := by decide +kernel
theorem dX11_join_106 : decode cX11_join 106 = .ok (.iload_n 1, 1) := by decide +kernel
theorem dX11_join_107 : decode cX11_join 107 = .ok (.iaload, 1) := by decide +kernel
theorem dX11_join_108 : decode cX11_join 108 = .ok (.if_icmp .ge 15, 3) := by decide +kernel
theorem dX11_join_111 : decode cX11_join 111 = .ok (.aload_n 0, 1) := by decide +kernel
theorem dX11_join_112 : decode cX11_join 112 = .ok (.getfield 11, 3) := by decide +kernel
theorem dX11_join_115 : decode cX11_join 115 = .ok (.iload_n 1, 1) := by decide +kernel
theorem dX11_join_116 : decode cX11_join 116 = .ok (.aaload, 1) := by decide +kernel
theorem dX11_join_117 : decode cX11_join 117 = .ok (.iload 5, 2) := by decide +kernel
theorem dX11_join_119 : decode cX11_join 119 = .ok (.iaload, 1) := by decide +kernel
theorem dX11_join_120 : decode cX11_join 120 = .ok (.goto 19, 3) := by decide +kernel
theorem dX11_join_123 : decode cX11_join 123 = .ok (.aload_n 0, 1) := by decide +kernel
theorem dX11_join_124 : decode cX11_join 124 = .ok (.getfield 11, 3) := by decide +kernel
theorem dX11_join_127 : decode cX11_join 127 = .ok (.iload_n 2, 1) := by decide +kernel
theorem dX11_join_128 : decode cX11_join 128 = .ok (.aaload, 1) := by decide +kernel
theorem dX11_join_129 : decode cX11_join 129 = .ok (.iload 5, 2) := by decide +kernel
theorem dX11_join_131 : decode cX11_join 131 = .ok (.aload_n 0, 1) := by decide +kernel
theorem dX11_join_132 : decode cX11_join 132 = .ok (.getfield 14, 3) := by decide +kernel
theorem dX11_join_135 : decode cX11_join 135 = .ok (.iload_n 1, 1) := by decide +kernel
theorem dX11_join_136 : decode cX11_join 136 = .ok (.iaload, 1) := by decide +kernel
theorem dX11_join_137 : decode cX11_join 137 = .ok (.isub, 1) := by decide +kernel
theorem dX11_join_138 : decode cX11_join 138 = .ok (.iaload, 1) := by decide +kernel
theorem dX11_join_139 : decode cX11_join 139 = .ok (.iastore, 1) := by decide +kernel
theorem dX11_join_140 : decode cX11_join 140 = .ok (.iinc 5 1, 3) := by decide +kernel
theorem dX11_join_143 : decode cX11_join 143 = .ok (.goto (-55), 3) := by decide +kernel
theorem dX11_join_146 : decode cX11_join 146 = .ok (.aload_n 0, 1) := by decide +kernel
theorem dX11_join_147 : decode cX11_join 147 = .ok (.getfield 14, 3) := by decide +kernel
theorem dX11_join_150 : decode cX11_join 150 = .ok (.iload_n 3, 1) := by decide +kernel
theorem dX11_join_151 : decode cX11_join 151 = .ok (.aload 4, 2) := by decide +kernel
theorem dX11_join_153 : decode cX11_join 153 = .ok (.arraylength, 1) := by decide +kernel
theorem dX11_join_154 : decode cX11_join 154 = .ok (.iastore, 1) := by decide +kernel
theorem dX11_join_155 : decode cX11_join 155 = .ok (.iconst 0, 1) := by decide +kernel
theorem dX11_join_156 : decode cX11_join 156 = .ok (.istore 5, 2) := by decide +kernel
theorem dX11_join_158 : decode cX11_join 158 = .ok (.iload 5, 2) := by decide +kernel
theorem dX11_join_160 : decode cX11_join 160 = .ok (.aload 4, 2) := by decide +kernel
theorem dX11_join_162 : decode cX11_join 162 = .ok (.arraylength, 1) := by decide +kernel
theorem dX11_join_163 : decode cX11_join 163 = .ok (.if_icmp .ge 23, 3) := by decide +kernel
theorem dX11_join_166 : decode cX11_join 166 = .ok (.aload_n 0, 1) := by decide +kernel
theorem dX11_join_167 : decode cX11_join 167 = .ok (.getfield 11, 3) := by decide +kernel
theorem dX11_join_170 : decode cX11_join 170 = .ok (.iload_n 3, 1) := by decide +kernel
theorem dX11_join_171 : decode cX11_join 171 = .ok (.aaload, 1) := by decide +kernel
theorem dX11_join_172 : decode cX11_join 172 = .ok (.iload 5, 2) := by decide +kernel
theorem dX11_join_174 : decode cX11_join 174 = .ok (.aload 4, 2) := by decide +kernel
theorem dX11_join_176 : decode cX11_join 176 = .ok (.iload 5, 2) := by decide +kernel
theorem dX11_join_178 : decode cX11_join 178 = .ok (.iaload, 1) := by decide +kernel
theorem dX11_join_179 : decode cX11_join 179 = .ok (.iastore, 1) := by decide +kernel
theorem dX11_join_180 : decode cX11_join 180 = .ok (.iinc 5 1, 3) := by decide +kernel
theorem dX11_join_183 : decode cX11_join 183 = .ok (.goto (-25), 3) := by decide +kernel
theorem dX11_join_186 : decode cX11_join 186 = .ok (.aload_n 0, 1) := by decide +kernel
theorem dX11_join_187 : decode cX11_join 187 = .ok (.iload_n 3, 1) := by decide +kernel
theorem dX11_join_188 : decode cX11_join 188 = .ok (.invokevirtual 68, 3) := by decide +kernel
theorem dX11_join_191 : decode cX11_join 191 = .ok (.ireturn, 1) := by decide +kernel
theorem dX11_size_0 : decode cX11_size 0 = .ok (.aload_n 0, 1) := by decide +kernel
theorem dX11_size_1 : decode cX11_size 1 = .ok (.iload_n 1, 1) := by decide +kernel
theorem dX11_size_2 : decode cX11_size 2 = .ok (.invokevirtual 62, 3) := by decide +kernel
theorem dX11_size_5 : decode cX11_size 5 = .ok (.ifCond .eq 5, 3) := by decide +kernel
theorem dX11_size_8 : decode cX11_size 8 = .ok (.iconst 0, 1) := by decide +kernel
theorem dX11_size_9 : decode cX11_size 9 = .ok (.ireturn, 1) := by decide +kernel
theorem dX11_size_10 : decode cX11_size 10 = .ok (.aload_n 0, 1) := by decide +kernel
theorem dX11_size_11 : decode cX11_size 11 = .ok (.getfield 14, 3) := by decide +kernel
theorem dX11_size_14 : decode cX11_size 14 = .ok (.iload_n 1, 1) := by decide +kernel
theorem dX11_size_15 : decode cX11_size 15 = .ok (.iaload, 1) := by decide +kernel
theorem dX11_size_16 : decode cX11_size 16 = .ok (.ireturn, 1) := by decide +kernel
theorem dX11_number_0 : decode cX11_number 0 = .ok (.aload_n 0, 1) := by decide +kernel
theorem dX11_number_1 : decode cX11_number 1 = .ok (.aload_n 0, 1) := by decide +kernel
theorem dX11_number_2 : decode cX11_number 2 = .ok (.iload_n 1, 1) := by decide +kernel
theorem dX11_number_3 : decode cX11_number 3 = .ok (.iload_n 2, 1) := by decide +kernel
theorem dX11_number_4 : decode cX11_number 4 = .ok (.invokevirtual 71, 3) := by decide +kernel
theorem dX11_number_7 : decode cX11_number 7 = .ok (.iconst 1, 1) := by decide +kernel
theorem dX11_number_8 : decode cX11_number 8 = .ok (.invokevirtual 42, 3) := by decide +kernel
theorem dX11_number_11 : decode cX11_number 11 = .ok (.ifCond .eq 5, 3) := by decide +kernel
theorem dX11_number_14 : decode cX11_number 14 = .ok (.iconst 0, 1) := by decide +kernel
theorem dX11_number_15 : decode cX11_number 15 = .ok (.ireturn, 1) := by decide +kernel
theorem dX11_number_16 : decode cX11_number 16 = .ok (.aload_n 0, 1) := by decide +kernel
theorem dX11_number_17 : decode cX11_number 17 = .ok (.getfield 11, 3) := by decide +kernel
theorem dX11_number_20 : decode cX11_number 20 = .ok (.iload_n 1, 1) := by decide +kernel
theorem dX11_number_21 : decode cX11_number 21 = .ok (.aaload, 1) := by decide +kernel
theorem dX11_number_22 : decode cX11_number 22 = .ok (.iload_n 2, 1) := by decide +kernel
theorem dX11_number_23 : decode cX11_number 23 = .ok (.iaload, 1) := by decide +kernel
theorem dX11_number_24 : decode cX11_number 24 = .ok (.ireturn, 1) := by decide +kernel
theorem dX11_total_0 : decode cX11_total 0 = .ok (.aload_n 0, 1) := by decide +kernel
theorem dX11_total_1 : decode cX11_total 1 = .ok (.iload_n 1, 1) := by decide +kernel
theorem dX11_total_2 : decode cX11_total 2 = .ok (.invokevirtual 62, 3) := by decide +kernel
theorem dX11_total_5 : decode cX11_total 5 = .ok (.ifCond .eq 5, 3) := by decide +kernel
theorem dX11_total_8 : decode cX11_total 8 = .ok (.iconst 0, 1) := by decide +kernel
theorem dX11_total_9 : decode cX11_total 9 = .ok (.ireturn, 1) := by decide +kernel
theorem dX11_total_10 : decode cX11_total 10 = .ok (.aload_n 0, 1) := by decide +kernel
theorem dX11_total_11 : decode cX11_total 11 = .ok (.iload_n 1, 1) := by decide +kernel
theorem dX11_total_12 : decode cX11_total 12 = .ok (.invokevirtual 58, 3) := by decide +kernel
theorem dX11_total_15 : decode cX11_total 15 = .ok (.ireturn, 1) := by decide +kernel
theorem dX11_isSum_0 : decode cX11_isSum 0 = .ok (.aload_n 0, 1) := by decide +kernel
theorem dX11_isSum_1 : decode cX11_isSum 1 = .ok (.iload_n 1, 1) := by decide +kernel
theorem dX11_isSum_2 : decode cX11_isSum 2 = .ok (.iload_n 2, 1) := by decide +kernel
theorem dX11_isSum_3 : decode cX11_isSum 3 = .ok (.invokevirtual 75, 3) := by decide +kernel
theorem dX11_isSum_6 : decode cX11_isSum 6 = .ok (.ifCond .eq 5, 3) := by decide +kernel
theorem dX11_isSum_9 : decode cX11_isSum 9 = .ok (.iconst 0, 1) := by decide +kernel
theorem dX11_isSum_10 : decode cX11_isSum 10 = .ok (.ireturn, 1) := by decide +kernel
theorem dX11_isSum_11 : decode cX11_isSum 11 = .ok (.aload_n 0, 1) := by decide +kernel
theorem dX11_isSum_12 : decode cX11_isSum 12 = .ok (.iload_n 1, 1) := by decide +kernel
theorem dX11_isSum_13 : decode cX11_isSum 13 = .ok (.iload_n 3, 1) := by decide +kernel
theorem dX11_isSum_14 : decode cX11_isSum 14 = .ok (.invokevirtual 78, 3) := by decide +kernel
theorem dX11_isSum_17 : decode cX11_isSum 17 = .ok (.aload_n 0, 1) := by decide +kernel
theorem dX11_isSum_18 : decode cX11_isSum 18 = .ok (.getfield 27, 3) := by decide +kernel
theorem dX11_isSum_21 : decode cX11_isSum 21 = .ok (.iload_n 2, 1) := by decide +kernel
theorem dX11_isSum_22 : decode cX11_isSum 22 = .ok (.iaload, 1) := by decide +kernel
theorem dX11_isSum_23 : decode cX11_isSum 23 = .ok (.ifCond .lt 7, 3) := by decide +kernel
theorem dX11_isSum_26 : decode cX11_isSum 26 = .ok (.iconst 1, 1) := by decide +kernel
theorem dX11_isSum_27 : decode cX11_isSum 27 = .ok (.goto 4, 3) := by decide +kernel
theorem dX11_isSum_30 : decode cX11_isSum 30 = .ok (.iconst 0, 1) := by decide +kernel
theorem dX11_isSum_31 : decode cX11_isSum 31 = .ok (.ireturn, 1) := by decide +kernel
theorem dX11_sums_0 : decode cX11_sums 0 = .ok (.aload_n 0, 1) := by decide +kernel
theorem dX11_sums_1 : decode cX11_sums 1 = .ok (.iload_n 1, 1) := by decide +kernel
theorem dX11_sums_2 : decode cX11_sums 2 = .ok (.invokevirtual 62, 3) := by decide +kernel
theorem dX11_sums_5 : decode cX11_sums 5 = .ok (.ifCond .eq 5, 3) := by decide +kernel
theorem dX11_sums_8 : decode cX11_sums 8 = .ok (.iconst 0, 1) := by decide +kernel
theorem dX11_sums_9 : decode cX11_sums 9 = .ok (.ireturn, 1) := by decide +kernel
theorem dX11_sums_10 : decode cX11_sums 10 = .ok (.aload_n 0, 1) := by decide +kernel
theorem dX11_sums_11 : decode cX11_sums 11 = .ok (.iload_n 1, 1) := by decide +kernel
theorem dX11_sums_12 : decode cX11_sums 12 = .ok (.iload_n 2, 1) := by decide +kernel
theorem dX11_sums_13 : decode cX11_sums 13 = .ok (.invokevirtual 78, 3) := by decide +kernel
theorem dX11_sums_16 : decode cX11_sums 16 = .ok (.iconst 0, 1) := by decide +kernel
theorem dX11_sums_17 : decode cX11_sums 17 = .ok (.istore_n 3, 1) := by decide +kernel
theorem dX11_sums_18 : decode cX11_sums 18 = .ok (.aload_n 0, 1) := by decide +kernel
theorem dX11_sums_19 : decode cX11_sums 19 = .ok (.getfield 27, 3) := by decide +kernel
theorem dX11_sums_22 : decode cX11_sums 22 = .ok (.astore 4, 2) := by decide +kernel
theorem dX11_sums_24 : decode cX11_sums 24 = .ok (.aload 4, 2) := by decide +kernel
theorem dX11_sums_26 : decode cX11_sums 26 = .ok (.arraylength, 1) := by decide +kernel
theorem dX11_sums_27 : decode cX11_sums 27 = .ok (.istore 5, 2) := by decide +kernel
theorem dX11_sums_29 : decode cX11_sums 29 = .ok (.iconst 0, 1) := by decide +kernel
theorem dX11_sums_30 : decode cX11_sums 30 = .ok (.istore 6, 2) := by decide +kernel
theorem dX11_sums_32 : decode cX11_sums 32 = .ok (.iload 6, 2) := by decide +kernel
theorem dX11_sums_34 : decode cX11_sums 34 = .ok (.iload 5, 2) := by decide +kernel
theorem dX11_sums_36 : decode cX11_sums 36 = .ok (.if_icmp .ge 29, 3) := by decide +kernel
theorem dX11_sums_39 : decode cX11_sums 39 = .ok (.aload 4, 2) := by decide +kernel
theorem dX11_sums_41 : decode cX11_sums 41 = .ok (.iload 6, 2) := by decide +kernel
theorem dX11_sums_43 : decode cX11_sums 43 = .ok (.iaload, 1) := by decide +kernel
theorem dX11_sums_44 : decode cX11_sums 44 = .ok (.istore 7, 2) := by decide +kernel
theorem dX11_sums_46 : decode cX11_sums 46 = .ok (.iload_n 3, 1) := by decide +kernel
theorem dX11_sums_47 : decode cX11_sums 47 = .ok (.iload 7, 2) := by decide +kernel
theorem dX11_sums_49 : decode cX11_sums 49 = .ok (.ifCond .lt 7, 3) := by decide +kernel
theorem dX11_sums_52 : decode cX11_sums 52 = .ok (.iconst 1, 1) := by decide +kernel
theorem dX11_sums_53 : decode cX11_sums 53 = .ok (.goto 4, 3) := by decide +kernel
theorem dX11_sums_56 : decode cX11_sums 56 = .ok (.iconst 0, 1) := by decide +kernel
theorem dX11_sums_57 : decode cX11_sums 57 = .ok (.iadd, 1) := by decide +kernel
theorem dX11_sums_58 : decode cX11_sums 58 = .ok (.istore_n 3, 1) := by decide +kernel
theorem dX11_sums_59 : decode cX11_sums 59 = .ok (.iinc 6 1, 3) := by decide +kernel
theorem dX11_sums_62 : decode cX11_sums 62 = .ok (.goto (-30), 3) := by decide +kernel
theorem dX11_sums_65 : decode cX11_sums 65 = .ok (.iload_n 3, 1) := by decide +kernel
theorem dX11_sums_66 : decode cX11_sums 66 = .ok (.ireturn, 1) := by decide +kernel
theorem dX11_first_0 : decode cX11_first 0 = .ok (.aload_n 0, 1) := by decide +kernel
theorem dX11_first_1 : decode cX11_first 1 = .ok (.iload_n 1, 1) := by decide +kernel
theorem dX11_first_2 : decode cX11_first 2 = .ok (.iload 4, 2) := by decide +kernel
theorem dX11_first_4 : decode cX11_first 4 = .ok (.invokevirtual 78, 3) := by decide +kernel
theorem dX11_first_7 : decode cX11_first 7 = .ok (.iload_n 2, 1) := by decide +kernel
theorem dX11_first_8 : decode cX11_first 8 = .ok (.istore 6, 2) := by decide +kernel
theorem dX11_first_10 : decode cX11_first 10 = .ok (.iload 6, 2) := by decide +kernel
theorem dX11_first_12 : decode cX11_first 12 = .ok (.iconst 0, 1) := by decide +kernel
theorem dX11_first_13 : decode cX11_first 13 = .ok (.sipush 300, 3) := by decide +kernel
theorem dX11_first_16 : decode cX11_first 16 = .ok (.invokestatic 34, 3) := by decide +kernel
theorem dX11_first_19 : decode cX11_first 19 = .ok (.ifCond .eq 32, 3) := by decide +kernel
theorem dX11_first_22 : decode cX11_first 22 = .ok (.aload_n 0, 1) := by decide +kernel
theorem dX11_first_23 : decode cX11_first 23 = .ok (.getfield 27, 3) := by decide +kernel
theorem dX11_first_26 : decode cX11_first 26 = .ok (.iload 6, 2) := by decide +kernel
theorem dX11_first_28 : decode cX11_first 28 = .ok (.iaload, 1) := by decide +kernel
theorem dX11_first_29 : decode cX11_first 29 = .ok (.ifCond .lt 7, 3) := by decide +kernel
theorem dX11_first_32 : decode cX11_first 32 = .ok (.iconst 1, 1) := by decide +kernel
theorem dX11_first_33 : decode cX11_first 33 = .ok (.goto 4, 3) := by decide +kernel
theorem dX11_first_36 : decode cX11_first 36 = .ok (.iconst 0, 1) := by decide +kernel
theorem dX11_first_37 : decode cX11_first 37 = .ok (.iload 5, 2) := by decide +kernel
theorem dX11_first_39 : decode cX11_first 39 = .ok (.if_icmp .eq 12, 3) := by decide +kernel
theorem dX11_first_42 : decode cX11_first 42 = .ok (.iload 6, 2) := by decide +kernel
theorem dX11_first_44 : decode cX11_first 44 = .ok (.iload_n 3, 1) := by decide +kernel
theorem dX11_first_45 : decode cX11_first 45 = .ok (.iadd, 1) := by decide +kernel
theorem dX11_first_46 : decode cX11_first 46 = .ok (.istore 6, 2) := by decide +kernel
theorem dX11_first_48 : decode cX11_first 48 = .ok (.goto (-38), 3) := by decide +kernel
theorem dX11_first_51 : decode cX11_first 51 = .ok (.iload 6, 2) := by decide +kernel
theorem dX11_first_53 : decode cX11_first 53 = .ok (.iconst 0, 1) := by decide +kernel
theorem dX11_first_54 : decode cX11_first 54 = .ok (.sipush 300, 3) := by decide +kernel
theorem dX11_first_57 : decode cX11_first 57 = .ok (.invokestatic 34, 3) := by decide +kernel
theorem dX11_first_60 : decode cX11_first 60 = .ok (.ifCond .eq 8, 3) := by decide +kernel
theorem dX11_first_63 : decode cX11_first 63 = .ok (.iload 6, 2) := by decide +kernel
theorem dX11_first_65 : decode cX11_first 65 = .ok (.goto 4, 3) := by decide +kernel
theorem dX11_first_68 : decode cX11_first 68 = .ok (.iconst (-1), 1) := by decide +kernel
theorem dX11_first_69 : decode cX11_first 69 = .ok (.ireturn, 1) := by decide +kernel
theorem dX11_next_0 : decode cX11_next 0 = .ok (.aload_n 0, 1) := by decide +kernel
theorem dX11_next_1 : decode cX11_next 1 = .ok (.iload_n 1, 1) := by decide +kernel
theorem dX11_next_2 : decode cX11_next 2 = .ok (.iload_n 2, 1) := by decide +kernel
theorem dX11_next_3 : decode cX11_next 3 = .ok (.invokevirtual 75, 3) := by decide +kernel
theorem dX11_next_6 : decode cX11_next 6 = .ok (.ifCond .ne 28, 3) := by decide +kernel
theorem dX11_next_9 : decode cX11_next 9 = .ok (.aload_n 0, 1) := by decide +kernel
theorem dX11_next_10 : decode cX11_next 10 = .ok (.aload_n 0, 1) := by decide +kernel
theorem dX11_next_11 : decode cX11_next 11 = .ok (.iload_n 1, 1) := by decide +kernel
theorem dX11_next_12 : decode cX11_next 12 = .ok (.iload_n 2, 1) := by decide +kernel
theorem dX11_next_13 : decode cX11_next 13 = .ok (.iconst 1, 1) := by decide +kernel
theorem dX11_next_14 : decode cX11_next 14 = .ok (.iload_n 3, 1) := by decide +kernel
theorem dX11_next_15 : decode cX11_next 15 = .ok (.iconst 1, 1) := by decide +kernel
theorem dX11_next_16 : decode cX11_next 16 = .ok (.invokevirtual 82, 3) := by decide +kernel
theorem dX11_next_19 : decode cX11_next 19 = .ok (.ifCond .lt 7, 3) := by decide +kernel
theorem dX11_next_22 : decode cX11_next 22 = .ok (.iconst 1, 1) := by decide +kernel
theorem dX11_next_23 : decode cX11_next 23 = .ok (.goto 4, 3) := by decide +kernel
theorem dX11_next_26 : decode cX11_next 26 = .ok (.iconst 0, 1) := by decide +kernel
theorem dX11_next_27 : decode cX11_next 27 = .ok (.iconst 3, 1) := by decide +kernel
theorem dX11_next_28 : decode cX11_next 28 = .ok (.invokevirtual 42, 3) := by decide +kernel
theorem dX11_next_31 : decode cX11_next 31 = .ok (.ifCond .eq 5, 3) := by decide +kernel
theorem dX11_next_34 : decode cX11_next 34 = .ok (.iconst 0, 1) := by decide +kernel
theorem dX11_next_35 : decode cX11_next 35 = .ok (.ireturn, 1) := by decide +kernel
theorem dX11_next_36 : decode cX11_next 36 = .ok (.aload_n 0, 1) := by decide +kernel
theorem dX11_next_37 : decode cX11_next 37 = .ok (.iload_n 1, 1) := by decide +kernel
theorem dX11_next_38 : decode cX11_next 38 = .ok (.iload_n 2, 1) := by decide +kernel
theorem dX11_next_39 : decode cX11_next 39 = .ok (.iconst 1, 1) := by decide +kernel
theorem dX11_next_40 : decode cX11_next 40 = .ok (.iload_n 3, 1) := by decide +kernel
theorem dX11_next_41 : decode cX11_next 41 = .ok (.iconst 1, 1) := by decide +kernel
theorem dX11_next_42 : decode cX11_next 42 = .ok (.invokevirtual 82, 3) := by decide +kernel
theorem dX11_next_45 : decode cX11_next 45 = .ok (.ireturn, 1) := by decide +kernel
theorem dX11_previous_0 : decode cX11_previous 0 = .ok (.aload_n 0, 1) := by decide +kernel
theorem dX11_previous_1 : decode cX11_previous 1 = .ok (.iload_n 1, 1) := by decide +kernel
theorem dX11_previous_2 : decode cX11_previous 2 = .ok (.iload_n 2, 1) := by decide +kernel
theorem dX11_previous_3 : decode cX11_previous 3 = .ok (.invokevirtual 75, 3) := by decide +kernel
theorem dX11_previous_6 : decode cX11_previous 6 = .ok (.ifCond .eq 5, 3) := by decide +kernel
theorem dX11_previous_9 : decode cX11_previous 9 = .ok (.iconst 0, 1) := by decide +kernel
theorem dX11_previous_10 : decode cX11_previous 10 = .ok (.ireturn, 1) := by decide +kernel
theorem dX11_previous_11 : decode cX11_previous 11 = .ok (.aload_n 0, 1) := by decide +kernel
theorem dX11_previous_12 : decode cX11_previous 12 = .ok (.iload_n 1, 1) := by decide +kernel
theorem dX11_previous_13 : decode cX11_previous 13 = .ok (.iload_n 2, 1) := by decide +kernel
theorem dX11_previous_14 : decode cX11_previous 14 = .ok (.iconst (-1), 1) := by decide +kernel
theorem dX11_previous_15 : decode cX11_previous 15 = .ok (.iload_n 3, 1) := by decide +kernel
theorem dX11_previous_16 : decode cX11_previous 16 = .ok (.iconst 1, 1) := by decide +kernel
theorem dX11_previous_17 : decode cX11_previous 17 = .ok (.invokevirtual 82, 3) := by decide +kernel
theorem dX11_previous_20 : decode cX11_previous 20 = .ok (.ireturn, 1) := by decide +kernel
theorem dX11_gap_0 : decode cX11_gap 0 = .ok (.aload_n 0, 1) := by decide +kernel
theorem dX11_gap_1 : decode cX11_gap 1 = .ok (.iload_n 1, 1) := by decide +kernel
theorem dX11_gap_2 : decode cX11_gap 2 = .ok (.iload_n 2, 1) := by decide +kernel
theorem dX11_gap_3 : decode cX11_gap 3 = .ok (.invokevirtual 75, 3) := by decide +kernel
theorem dX11_gap_6 : decode cX11_gap 6 = .ok (.ifCond .ne 28, 3) := by decide +kernel
theorem dX11_gap_9 : decode cX11_gap 9 = .ok (.aload_n 0, 1) := by decide +kernel
theorem dX11_gap_10 : decode cX11_gap 10 = .ok (.aload_n 0, 1) := by decide +kernel
theorem dX11_gap_11 : decode cX11_gap 11 = .ok (.iload_n 1, 1) := by decide +kernel
theorem dX11_gap_12 : decode cX11_gap 12 = .ok (.iload_n 2, 1) := by decide +kernel
theorem dX11_gap_13 : decode cX11_gap 13 = .ok (.iconst 1, 1) := by decide +kernel
theorem dX11_gap_14 : decode cX11_gap 14 = .ok (.iload_n 3, 1) := by decide +kernel
theorem dX11_gap_15 : decode cX11_gap 15 = .ok (.iconst 0, 1) := by decide +kernel
theorem dX11_gap_16 : decode cX11_gap 16 = .ok (.invokevirtual 82, 3) := by decide +kernel
theorem dX11_gap_19 : decode cX11_gap 19 = .ok (.ifCond .lt 7, 3) := by decide +kernel
theorem dX11_gap_22 : decode cX11_gap 22 = .ok (.iconst 1, 1) := by decide +kernel
theorem dX11_gap_23 : decode cX11_gap 23 = .ok (.goto 4, 3) := by decide +kernel
theorem dX11_gap_26 : decode cX11_gap 26 = .ok (.iconst 0, 1) := by decide +kernel
theorem dX11_gap_27 : decode cX11_gap 27 = .ok (.iconst 3, 1) := by decide +kernel
theorem dX11_gap_28 : decode cX11_gap 28 = .ok (.invokevirtual 42, 3) := by decide +kernel
theorem dX11_gap_31 : decode cX11_gap 31 = .ok (.ifCond .eq 5, 3) := by decide +kernel
theorem dX11_gap_34 : decode cX11_gap 34 = .ok (.iconst 0, 1) := by decide +kernel
theorem dX11_gap_35 : decode cX11_gap 35 = .ok (.ireturn, 1) := by decide +kernel
theorem dX11_gap_36 : decode cX11_gap 36 = .ok (.aload_n 0, 1) := by decide +kernel
theorem dX11_gap_37 : decode cX11_gap 37 = .ok (.iload_n 1, 1) := by decide +kernel
theorem dX11_gap_38 : decode cX11_gap 38 = .ok (.iload_n 2, 1) := by decide +kernel
theorem dX11_gap_39 : decode cX11_gap 39 = .ok (.iconst 1, 1) := by decide +kernel
theorem dX11_gap_40 : decode cX11_gap 40 = .ok (.iload_n 3, 1) := by decide +kernel
theorem dX11_gap_41 : decode cX11_gap 41 = .ok (.iconst 0, 1) := by decide +kernel
theorem dX11_gap_42 : decode cX11_gap 42 = .ok (.invokevirtual 82, 3) := by decide +kernel
theorem dX11_gap_45 : decode cX11_gap 45 = .ok (.ireturn, 1) := by decide +kernel
theorem dX11_lastGap_0 : decode cX11_lastGap 0 = .ok (.aload_n 0, 1) := by decide +kernel
theorem dX11_lastGap_1 : decode cX11_lastGap 1 = .ok (.iload_n 1, 1) := by decide +kernel
theorem dX11_lastGap_2 : decode cX11_lastGap 2 = .ok (.invokevirtual 62, 3) := by decide +kernel
theorem dX11_lastGap_5 : decode cX11_lastGap 5 = .ok (.ifCond .ne 30, 3) := by decide +kernel
theorem dX11_lastGap_8 : decode cX11_lastGap 8 = .ok (.aload_n 0, 1) := by decide +kernel
theorem dX11_lastGap_9 : decode cX11_lastGap 9 = .ok (.aload_n 0, 1) := by decide +kernel
theorem dX11_lastGap_10 : decode cX11_lastGap 10 = .ok (.iload_n 1, 1) := by decide +kernel
theorem dX11_lastGap_11 : decode cX11_lastGap 11 = .ok (.sipush 300, 3) := by decide +kernel
theorem dX11_lastGap_14 : decode cX11_lastGap 14 = .ok (.iconst (-1), 1) := by decide +kernel
theorem dX11_lastGap_15 : decode cX11_lastGap 15 = .ok (.iload_n 2, 1) := by decide +kernel
theorem dX11_lastGap_16 : decode cX11_lastGap 16 = .ok (.iconst 0, 1) := by decide +kernel
theorem dX11_lastGap_17 : decode cX11_lastGap 17 = .ok (.invokevirtual 82, 3) := by decide +kernel
theorem dX11_lastGap_20 : decode cX11_lastGap 20 = .ok (.ifCond .lt 7, 3) := by decide +kernel
theorem dX11_lastGap_23 : decode cX11_lastGap 23 = .ok (.iconst 1, 1) := by decide +kernel
theorem dX11_lastGap_24 : decode cX11_lastGap 24 = .ok (.goto 4, 3) := by decide +kernel
theorem dX11_lastGap_27 : decode cX11_lastGap 27 = .ok (.iconst 0, 1) := by decide +kernel
theorem dX11_lastGap_28 : decode cX11_lastGap 28 = .ok (.iconst 2, 1) := by decide +kernel
theorem dX11_lastGap_29 : decode cX11_lastGap 29 = .ok (.invokevirtual 42, 3) := by decide +kernel
theorem dX11_lastGap_32 : decode cX11_lastGap 32 = .ok (.ifCond .eq 5, 3) := by decide +kernel
theorem dX11_lastGap_35 : decode cX11_lastGap 35 = .ok (.iconst 0, 1) := by decide +kernel
theorem dX11_lastGap_36 : decode cX11_lastGap 36 = .ok (.ireturn, 1) := by decide +kernel
theorem dX11_lastGap_37 : decode cX11_lastGap 37 = .ok (.aload_n 0, 1) := by decide +kernel
theorem dX11_lastGap_38 : decode cX11_lastGap 38 = .ok (.iload_n 1, 1) := by decide +kernel
theorem dX11_lastGap_39 : decode cX11_lastGap 39 = .ok (.sipush 300, 3) := by decide +kernel
theorem dX11_lastGap_42 : decode cX11_lastGap 42 = .ok (.iconst (-1), 1) := by decide +kernel
theorem dX11_lastGap_43 : decode cX11_lastGap 43 = .ok (.iload_n 2, 1) := by decide +kernel
theorem dX11_lastGap_44 : decode cX11_lastGap 44 = .ok (.iconst 0, 1) := by decide +kernel
theorem dX11_lastGap_45 : decode cX11_lastGap 45 = .ok (.invokevirtual 82, 3) := by decide +kernel
theorem dX11_lastGap_48 : decode cX11_lastGap 48 = .ok (.ireturn, 1) := by decide +kernel
theorem dX11_ways_0 : decode cX11_ways 0 = .ok (.aload_n 0, 1) := by decide +kernel
theorem dX11_ways_1 : decode cX11_ways 1 = .ok (.iload_n 1, 1) := by decide +kernel
theorem dX11_ways_2 : decode cX11_ways 2 = .ok (.iload_n 2, 1) := by decide +kernel
theorem dX11_ways_3 : decode cX11_ways 3 = .ok (.invokevirtual 75, 3) := by decide +kernel
theorem dX11_ways_6 : decode cX11_ways 6 = .ok (.ifCond .eq 5, 3) := by decide +kernel
theorem dX11_ways_9 : decode cX11_ways 9 = .ok (.lconst 0, 1) := by decide +kernel
theorem dX11_ways_10 : decode cX11_ways 10 = .ok (.lreturn, 1) := by decide +kernel
theorem dX11_ways_11 : decode cX11_ways 11 = .ok (.iload_n 3, 1) := by decide +kernel
theorem dX11_ways_12 : decode cX11_ways 12 = .ok (.ifCond .ne 12, 3) := by decide +kernel
theorem dX11_ways_15 : decode cX11_ways 15 = .ok (.aload_n 0, 1) := by decide +kernel
theorem dX11_ways_16 : decode cX11_ways 16 = .ok (.getfield 20, 3) := by decide +kernel
theorem dX11_ways_19 : decode cX11_ways 19 = .ok (.iload_n 1, 1) := by decide +kernel
theorem dX11_ways_20 : decode cX11_ways 20 = .ok (.aaload, 1) := by decide +kernel
theorem dX11_ways_21 : decode cX11_ways 21 = .ok (.iload_n 2, 1) := by decide +kernel
theorem dX11_ways_22 : decode cX11_ways 22 = .ok (.laload, 1) := by decide +kernel
theorem dX11_ways_23 : decode cX11_ways 23 = .ok (.lreturn, 1) := by decide +kernel
theorem dX11_ways_24 : decode cX11_ways 24 = .ok (.aload_n 0, 1) := by decide +kernel
theorem dX11_ways_25 : decode cX11_ways 25 = .ok (.aload_n 0, 1) := by decide +kernel
theorem dX11_ways_26 : decode cX11_ways 26 = .ok (.getfield 23, 3) := by decide +kernel
theorem dX11_ways_29 : decode cX11_ways 29 = .ok (.iload_n 1, 1) := by decide +kernel
theorem dX11_ways_30 : decode cX11_ways 30 = .ok (.iconst 0, 1) := by decide +kernel
theorem dX11_ways_31 : decode cX11_ways 31 = .ok (.invokevirtual 46, 3) := by decide +kernel
theorem dX11_ways_34 : decode cX11_ways 34 = .ok (.iconst 0, 1) := by decide +kernel
theorem dX11_ways_35 : decode cX11_ways 35 = .ok (.istore 4, 2) := by decide +kernel
theorem dX11_ways_37 : decode cX11_ways 37 = .ok (.iload 4, 2) := by decide +kernel
theorem dX11_ways_39 : decode cX11_ways 39 = .ok (.aload_n 0, 1) := by decide +kernel
theorem dX11_ways_40 : decode cX11_ways 40 = .ok (.getfield 14, 3) := by decide +kernel
theorem dX11_ways_43 : decode cX11_ways 43 = .ok (.iload_n 1, 1) := by decide +kernel
theorem dX11_ways_44 : decode cX11_ways 44 = .ok (.iaload, 1) := by decide +kernel
theorem dX11_ways_45 : decode cX11_ways 45 = .ok (.if_icmp .ge 58, 3) := by decide +kernel
theorem dX11_ways_48 : decode cX11_ways 48 = .ok (.aload_n 0, 1) := by decide +kernel
theorem dX11_ways_49 : decode cX11_ways 49 = .ok (.getfield 11, 3) := by decide +kernel
theorem dX11_ways_52 : decode cX11_ways 52 = .ok (.iload_n 1, 1) := by decide +kernel
theorem dX11_ways_53 : decode cX11_ways 53 = .ok (.aaload, 1) := by decide +kernel
theorem dX11_ways_54 : decode cX11_ways 54 = .ok (.iload 4, 2) := by decide +kernel
theorem dX11_ways_56 : decode cX11_ways 56 = .ok (.iaload, 1) := by decide +kernel
theorem dX11_ways_57 : decode cX11_ways 57 = .ok (.istore 5, 2) := by decide +kernel
theorem dX11_ways_59 : decode cX11_ways 59 = .ok (.iload 5, 2) := by decide +kernel
theorem dX11_ways_61 : decode cX11_ways 61 = .ok (.istore 6, 2) := by decide +kernel
theorem dX11_ways_63 : decode cX11_ways 63 = .ok (.iload 6, 2) := by decide +kernel
theorem dX11_ways_65 : decode cX11_ways 65 = .ok (.sipush 300, 3) := by decide +kernel
theorem dX11_ways_68 : decode cX11_ways 68 = .ok (.if_icmp .gt 29, 3) := by decide +kernel
theorem dX11_ways_71 : decode cX11_ways 71 = .ok (.aload_n 0, 1) := by decide +kernel
theorem dX11_ways_72 : decode cX11_ways 72 = .ok (.getfield 23, 3) := by decide +kernel
theorem dX11_ways_75 : decode cX11_ways 75 = .ok (.iload 6, 2) := by decide +kernel
theorem dX11_ways_77 : decode cX11_ways 77 = .ok (.dup2, 1) := by decide +kernel
theorem dX11_ways_78 : decode cX11_ways 78 = .ok (.laload, 1) := by decide +kernel
theorem dX11_ways_79 : decode cX11_ways 79 = .ok (.aload_n 0, 1) := by decide +kernel
theorem dX11_ways_80 : decode cX11_ways 80 = .ok (.getfield 23, 3) := by decide +kernel
theorem dX11_ways_83 : decode cX11_ways 83 = .ok (.iload 6, 2) := by decide +kernel
theorem dX11_ways_85 : decode cX11_ways 85 = .ok (.iload 5, 2) := by decide +kernel
theorem dX11_ways_87 : decode cX11_ways 87 = .ok (.isub, 1) := by decide +kernel
theorem dX11_ways_88 : decode cX11_ways 88 = .ok (.laload, 1) := by decide +kernel
theorem dX11_ways_89 : decode cX11_ways 89 = .ok (.ladd, 1) := by decide +kernel
theorem dX11_ways_90 : decode cX11_ways 90 = .ok (.lastore, 1) := by decide +kernel
theorem dX11_ways_91 : decode cX11_ways 91 = .ok (.iinc 6 1, 3) := by decide +kernel
theorem dX11_ways_94 : decode cX11_ways 94 = .ok (.goto (-31), 3) := by decide +kernel
theorem dX11_ways_97 : decode cX11_ways 97 = .ok (.iinc 4 1, 3) := by decide +kernel
theorem dX11_ways_100 : decode cX11_ways 100 = .ok (.goto (-63), 3) := by decide +kernel
theorem dX11_ways_103 : decode cX11_ways 103 = .ok (.aload_n 0, 1) := by decide +kernel
theorem dX11_ways_104 : decode cX11_ways 104 = .ok (.getfield 23, 3) := by decide +kernel
theorem dX11_ways_107 : decode cX11_ways 107 = .ok (.iload_n 2, 1) := by decide +kernel
theorem dX11_ways_108 : decode cX11_ways 108 = .ok (.laload, 1) := by decide +kernel
theorem dX11_ways_109 : decode cX11_ways 109 = .ok (.lreturn, 1) := by decide +kernel
theorem dX11_most_0 : decode cX11_most 0 = .ok (.aload_n 0, 1) := by decide +kernel
theorem dX11_most_1 : decode cX11_most 1 = .ok (.iload_n 1, 1) := by decide +kernel
theorem dX11_most_2 : decode cX11_most 2 = .ok (.invokevirtual 62, 3) := by decide +kernel
theorem dX11_most_5 : decode cX11_most 5 = .ok (.ifCond .eq 5, 3) := by decide +kernel
theorem dX11_most_8 : decode cX11_most 8 = .ok (.iconst 0, 1) := by decide +kernel
theorem dX11_most_9 : decode cX11_most 9 = .ok (.ireturn, 1) := by decide +kernel
theorem dX11_most_10 : decode cX11_most 10 = .ok (.iconst 0, 1) := by decide +kernel
theorem dX11_most_11 : decode cX11_most 11 = .ok (.istore_n 2, 1) := by decide +kernel
theorem dX11_most_12 : decode cX11_most 12 = .ok (.iconst 1, 1) := by decide +kernel
theorem dX11_most_13 : decode cX11_most 13 = .ok (.istore_n 3, 1) := by decide +kernel
theorem dX11_most_14 : decode cX11_most 14 = .ok (.iload_n 3, 1) := by decide +kernel
theorem dX11_most_15 : decode cX11_most 15 = .ok (.sipush 300, 3) := by decide +kernel
theorem dX11_most_18 : decode cX11_most 18 = .ok (.if_icmp .gt 35, 3) := by decide +kernel
theorem dX11_most_21 : decode cX11_most 21 = .ok (.aload_n 0, 1) := by decide +kernel
theorem dX11_most_22 : decode cX11_most 22 = .ok (.getfield 20, 3) := by decide +kernel
theorem dX11_most_25 : decode cX11_most 25 = .ok (.iload_n 1, 1) := by decide +kernel
theorem dX11_most_26 : decode cX11_most 26 = .ok (.aaload, 1) := by decide +kernel
theorem dX11_most_27 : decode cX11_most 27 = .ok (.iload_n 3, 1) := by decide +kernel
theorem dX11_most_28 : decode cX11_most 28 = .ok (.laload, 1) := by decide +kernel
theorem dX11_most_29 : decode cX11_most 29 = .ok (.aload_n 0, 1) := by decide +kernel
theorem dX11_most_30 : decode cX11_most 30 = .ok (.getfield 20, 3) := by decide +kernel
theorem dX11_most_33 : decode cX11_most 33 = .ok (.iload_n 1, 1) := by decide +kernel
theorem dX11_most_34 : decode cX11_most 34 = .ok (.aaload, 1) := by decide +kernel
theorem dX11_most_35 : decode cX11_most 35 = .ok (.iload_n 2, 1) := by decide +kernel
theorem dX11_most_36 : decode cX11_most 36 = .ok (.laload, 1) := by decide +kernel
theorem dX11_most_37 : decode cX11_most 37 = .ok (.lcmp, 1) := by decide +kernel
theorem dX11_most_38 : decode cX11_most 38 = .ok (.ifCond .le 7, 3) := by decide +kernel
theorem dX11_most_41 : decode cX11_most 41 = .ok (.iload_n 3, 1) := by decide +kernel
theorem dX11_most_42 : decode cX11_most 42 = .ok (.goto 4, 3) := by decide +kernel
theorem dX11_most_45 : decode cX11_most 45 = .ok (.iload_n 2, 1) := by decide +kernel
theorem dX11_most_46 : decode cX11_most 46 = .ok (.istore_n 2, 1) := by decide +kernel
theorem dX11_most_47 : decode cX11_most 47 = .ok (.iinc 3 1, 3) := by decide +kernel
theorem dX11_most_50 : decode cX11_most 50 = .ok (.goto (-36), 3) := by decide +kernel
theorem dX11_most_53 : decode cX11_most 53 = .ok (.iload_n 2, 1) := by decide +kernel
theorem dX11_most_54 : decode cX11_most 54 = .ok (.ireturn, 1) := by decide +kernel
theorem dX11_fewest_0 : decode cX11_fewest 0 = .ok (.aload_n 0, 1) := by decide +kernel
theorem dX11_fewest_1 : decode cX11_fewest 1 = .ok (.iload_n 1, 1) := by decide +kernel
theorem dX11_fewest_2 : decode cX11_fewest 2 = .ok (.iload_n 2, 1) := by decide +kernel
theorem dX11_fewest_3 : decode cX11_fewest 3 = .ok (.invokevirtual 75, 3) := by decide +kernel
theorem dX11_fewest_6 : decode cX11_fewest 6 = .ok (.ifCond .eq 5, 3) := by decide +kernel
theorem dX11_fewest_9 : decode cX11_fewest 9 = .ok (.iconst 0, 1) := by decide +kernel
theorem dX11_fewest_10 : decode cX11_fewest 10 = .ok (.ireturn, 1) := by decide +kernel
theorem dX11_fewest_11 : decode cX11_fewest 11 = .ok (.aload_n 0, 1) := by decide +kernel
theorem dX11_fewest_12 : decode cX11_fewest 12 = .ok (.iload_n 1, 1) := by decide +kernel
theorem dX11_fewest_13 : decode cX11_fewest 13 = .ok (.iload_n 3, 1) := by decide +kernel
theorem dX11_fewest_14 : decode cX11_fewest 14 = .ok (.invokevirtual 78, 3) := by decide +kernel
theorem dX11_fewest_17 : decode cX11_fewest 17 = .ok (.aload_n 0, 1) := by decide +kernel
theorem dX11_fewest_18 : decode cX11_fewest 18 = .ok (.aload_n 0, 1) := by decide +kernel
theorem dX11_fewest_19 : decode cX11_fewest 19 = .ok (.getfield 27, 3) := by decide +kernel
theorem dX11_fewest_22 : decode cX11_fewest 22 = .ok (.iload_n 2, 1) := by decide +kernel
theorem dX11_fewest_23 : decode cX11_fewest 23 = .ok (.iaload, 1) := by decide +kernel
theorem dX11_fewest_24 : decode cX11_fewest 24 = .ok (.ifCond .lt 7, 3) := by decide +kernel
theorem dX11_fewest_27 : decode cX11_fewest 27 = .ok (.iconst 1, 1) := by decide +kernel
theorem dX11_fewest_28 : decode cX11_fewest 28 = .ok (.goto 4, 3) := by decide +kernel
theorem dX11_fewest_31 : decode cX11_fewest 31 = .ok (.iconst 0, 1) := by decide +kernel
theorem dX11_fewest_32 : decode cX11_fewest 32 = .ok (.iconst 3, 1) := by decide +kernel
theorem dX11_fewest_33 : decode cX11_fewest 33 = .ok (.invokevirtual 42, 3) := by decide +kernel
theorem dX11_fewest_36 : decode cX11_fewest 36 = .ok (.ifCond .eq 5, 3) := by decide +kernel
theorem dX11_fewest_39 : decode cX11_fewest 39 = .ok (.iconst 0, 1) := by decide +kernel
theorem dX11_fewest_40 : decode cX11_fewest 40 = .ok (.ireturn, 1) := by decide +kernel
theorem dX11_fewest_41 : decode cX11_fewest 41 = .ok (.aload_n 0, 1) := by decide +kernel
theorem dX11_fewest_42 : decode cX11_fewest 42 = .ok (.getfield 27, 3) := by decide +kernel
theorem dX11_fewest_45 : decode cX11_fewest 45 = .ok (.iload_n 2, 1) := by decide +kernel
theorem dX11_fewest_46 : decode cX11_fewest 46 = .ok (.iaload, 1) := by decide +kernel
theorem dX11_fewest_47 : decode cX11_fewest 47 = .ok (.ireturn, 1) := by decide +kernel
theorem dX11_withMany_0 : decode cX11_withMany 0 = .ok (.aload_n 0, 1) := by decide +kernel
theorem dX11_withMany_1 : decode cX11_withMany 1 = .ok (.iload_n 1, 1) := by decide +kernel
theorem dX11_withMany_2 : decode cX11_withMany 2 = .ok (.invokevirtual 62, 3) := by decide +kernel
theorem dX11_withMany_5 : decode cX11_withMany 5 = .ok (.ifCond .ne 18, 3) := by decide +kernel
theorem dX11_withMany_8 : decode cX11_withMany 8 = .ok (.aload_n 0, 1) := by decide +kernel
theorem dX11_withMany_9 : decode cX11_withMany 9 = .ok (.iload_n 2, 1) := by decide +kernel
theorem dX11_withMany_10 : decode cX11_withMany 10 = .ok (.iconst 0, 1) := by decide +kernel
theorem dX11_withMany_11 : decode cX11_withMany 11 = .ok (.bipush 20, 2) := by decide +kernel
theorem dX11_withMany_13 : decode cX11_withMany 13 = .ok (.invokestatic 34, 3) := by decide +kernel
theorem dX11_withMany_16 : decode cX11_withMany 16 = .ok (.iconst 2, 1) := by decide +kernel
theorem dX11_withMany_17 : decode cX11_withMany 17 = .ok (.invokevirtual 42, 3) := by decide +kernel
theorem dX11_withMany_20 : decode cX11_withMany 20 = .ok (.ifCond .eq 5, 3) := by decide +kernel
theorem dX11_withMany_23 : decode cX11_withMany 23 = .ok (.iconst 0, 1) := by decide +kernel
theorem dX11_withMany_24 : decode cX11_withMany 24 = .ok (.ireturn, 1) := by decide +kernel
theorem dX11_withMany_25 : decode cX11_withMany 25 = .ok (.aload_n 0, 1) := by decide +kernel
theorem dX11_withMany_26 : decode cX11_withMany 26 = .ok (.iload_n 1, 1) := by decide +kernel
theorem dX11_withMany_27 : decode cX11_withMany 27 = .ok (.invokevirtual 54, 3) := by decide +kernel
theorem dX11_withMany_30 : decode cX11_withMany 30 = .ok (.iconst 0, 1) := by decide +kernel
theorem dX11_withMany_31 : decode cX11_withMany 31 = .ok (.istore_n 3, 1) := by decide +kernel
theorem dX11_withMany_32 : decode cX11_withMany 32 = .ok (.aload_n 0, 1) := by decide +kernel
theorem dX11_withMany_33 : decode cX11_withMany 33 = .ok (.getfield 27, 3) := by decide +kernel
theorem dX11_withMany_36 : decode cX11_withMany 36 = .ok (.astore 4, 2) := by decide +kernel
theorem dX11_withMany_38 : decode cX11_withMany 38 = .ok (.aload 4, 2) := by decide +kernel
theorem dX11_withMany_40 : decode cX11_withMany 40 = .ok (.arraylength, 1) := by decide +kernel
theorem dX11_withMany_41 : decode cX11_withMany 41 = .ok (.istore 5, 2) := by decide +kernel
theorem dX11_withMany_43 : decode cX11_withMany 43 = .ok (.iconst 0, 1) := by decide +kernel
theorem dX11_withMany_44 : decode cX11_withMany 44 = .ok (.istore 6, 2) := by decide +kernel
theorem dX11_withMany_46 : decode cX11_withMany 46 = .ok (.iload 6, 2) := by decide +kernel
theorem dX11_withMany_48 : decode cX11_withMany 48 = .ok (.iload 5, 2) := by decide +kernel
theorem dX11_withMany_50 : decode cX11_withMany 50 = .ok (.if_icmp .ge 25, 3) := by decide +kernel
theorem dX11_withMany_53 : decode cX11_withMany 53 = .ok (.aload 4, 2) := by decide +kernel
theorem dX11_withMany_55 : decode cX11_withMany 55 = .ok (.iload 6, 2) := by decide +kernel
theorem dX11_withMany_57 : decode cX11_withMany 57 = .ok (.iaload, 1) := by decide +kernel
theorem dX11_withMany_58 : decode cX11_withMany 58 = .ok (.istore 7, 2) := by decide +kernel
theorem dX11_withMany_60 : decode cX11_withMany 60 = .ok (.iload_n 3, 1) := by decide +kernel
theorem dX11_withMany_61 : decode cX11_withMany 61 = .ok (.iload 7, 2) := by decide +kernel
theorem dX11_withMany_63 : decode cX11_withMany 63 = .ok (.iload_n 2, 1) := by decide +kernel
theorem dX11_withMany_64 : decode cX11_withMany 64 = .ok (.ishr, 1) := by decide +kernel
theorem dX11_withMany_65 : decode cX11_withMany 65 = .ok (.iconst 2, 1) := by decide +kernel
theorem dX11_withMany_66 : decode cX11_withMany 66 = .ok (.irem, 1) := by decide +kernel
theorem dX11_withMany_67 : decode cX11_withMany 67 = .ok (.iadd, 1) := by decide +kernel
theorem dX11_withMany_68 : decode cX11_withMany 68 = .ok (.istore_n 3, 1) := by decide +kernel
theorem dX11_withMany_69 : decode cX11_withMany 69 = .ok (.iinc 6 1, 3) := by decide +kernel
theorem dX11_withMany_72 : decode cX11_withMany 72 = .ok (.goto (-26), 3) := by decide +kernel
theorem dX11_withMany_75 : decode cX11_withMany 75 = .ok (.iload_n 3, 1) := by decide +kernel
theorem dX11_withMany_76 : decode cX11_withMany 76 = .ok (.ireturn, 1) := by decide +kernel
theorem dX11_fair_0 : decode cX11_fair 0 = .ok (.aload_n 0, 1) := by decide +kernel
theorem dX11_fair_1 : decode cX11_fair 1 = .ok (.iload_n 1, 1) := by decide +kernel
theorem dX11_fair_2 : decode cX11_fair 2 = .ok (.invokevirtual 62, 3) := by decide +kernel
theorem dX11_fair_5 : decode cX11_fair 5 = .ok (.ifCond .eq 5, 3) := by decide +kernel
theorem dX11_fair_8 : decode cX11_fair 8 = .ok (.iconst 0, 1) := by decide +kernel
theorem dX11_fair_9 : decode cX11_fair 9 = .ok (.ireturn, 1) := by decide +kernel
theorem dX11_fair_10 : decode cX11_fair 10 = .ok (.aload_n 0, 1) := by decide +kernel
theorem dX11_fair_11 : decode cX11_fair 11 = .ok (.iload_n 1, 1) := by decide +kernel
theorem dX11_fair_12 : decode cX11_fair 12 = .ok (.invokevirtual 58, 3) := by decide +kernel
theorem dX11_fair_15 : decode cX11_fair 15 = .ok (.istore_n 2, 1) := by decide +kernel
theorem dX11_fair_16 : decode cX11_fair 16 = .ok (.iload_n 2, 1) := by decide +kernel
theorem dX11_fair_17 : decode cX11_fair 17 = .ok (.istore_n 3, 1) := by decide +kernel
theorem dX11_fair_18 : decode cX11_fair 18 = .ok (.iconst 0, 1) := by decide +kernel
theorem dX11_fair_19 : decode cX11_fair 19 = .ok (.istore 4, 2) := by decide +kernel
theorem dX11_fair_21 : decode cX11_fair 21 = .ok (.iload 4, 2) := by decide +kernel
theorem dX11_fair_23 : decode cX11_fair 23 = .ok (.iload_n 2, 1) := by decide +kernel
theorem dX11_fair_24 : decode cX11_fair 24 = .ok (.if_icmp .gt 64, 3) := by decide +kernel
theorem dX11_fair_27 : decode cX11_fair 27 = .ok (.iload 4, 2) := by decide +kernel
theorem dX11_fair_29 : decode cX11_fair 29 = .ok (.iload 4, 2) := by decide +kernel
theorem dX11_fair_31 : decode cX11_fair 31 = .ok (.iadd, 1) := by decide +kernel
theorem dX11_fair_32 : decode cX11_fair 32 = .ok (.iload_n 2, 1) := by decide +kernel
theorem dX11_fair_33 : decode cX11_fair 33 = .ok (.if_icmp .ge 13, 3) := by decide +kernel
theorem dX11_fair_36 : decode cX11_fair 36 = .ok (.iload_n 2, 1) := by decide +kernel
theorem dX11_fair_37 : decode cX11_fair 37 = .ok (.iload 4, 2) := by decide +kernel
theorem dX11_fair_39 : decode cX11_fair 39 = .ok (.isub, 1) := by decide +kernel
theorem dX11_fair_40 : decode cX11_fair 40 = .ok (.iload 4, 2) := by decide +kernel
theorem dX11_fair_42 : decode cX11_fair 42 = .ok (.isub, 1) := by decide +kernel
theorem dX11_fair_43 : decode cX11_fair 43 = .ok (.goto 10, 3) := by decide +kernel
theorem dX11_fair_46 : decode cX11_fair 46 = .ok (.iload 4, 2) := by decide +kernel
theorem dX11_fair_48 : decode cX11_fair 48 = .ok (.iload 4, 2) := by decide +kernel
theorem dX11_fair_50 : decode cX11_fair 50 = .ok (.iadd, 1) := by decide +kernel
theorem dX11_fair_51 : decode cX11_fair 51 = .ok (.iload_n 2, 1) := by decide +kernel
theorem dX11_fair_52 : decode cX11_fair 52 = .ok (.isub, 1) := by decide +kernel
theorem dX11_fair_53 : decode cX11_fair 53 = .ok (.istore 5, 2) := by decide +kernel
theorem dX11_fair_55 : decode cX11_fair 55 = .ok (.aload_n 0, 1) := by decide +kernel
theorem dX11_fair_56 : decode cX11_fair 56 = .ok (.getfield 20, 3) := by decide +kernel
theorem dX11_fair_59 : decode cX11_fair 59 = .ok (.iload_n 1, 1) := by decide +kernel
theorem dX11_fair_60 : decode cX11_fair 60 = .ok (.aaload, 1) := by decide +kernel
theorem dX11_fair_61 : decode cX11_fair 61 = .ok (.iload 4, 2) := by decide +kernel
theorem dX11_fair_63 : decode cX11_fair 63 = .ok (.laload, 1) := by decide +kernel
theorem dX11_fair_64 : decode cX11_fair 64 = .ok (.lconst 0, 1) := by decide +kernel
theorem dX11_fair_65 : decode cX11_fair 65 = .ok (.lcmp, 1) := by decide +kernel
theorem dX11_fair_66 : decode cX11_fair 66 = .ok (.ifCond .le 14, 3) := by decide +kernel
theorem dX11_fair_69 : decode cX11_fair 69 = .ok (.iload 5, 2) := by decide +kernel
theorem dX11_fair_71 : decode cX11_fair 71 = .ok (.iload_n 3, 1) := by decide +kernel
theorem dX11_fair_72 : decode cX11_fair 72 = .ok (.if_icmp .ge 8, 3) := by decide +kernel
theorem dX11_fair_75 : decode cX11_fair 75 = .ok (.iload 5, 2) := by decide +kernel
theorem dX11_fair_77 : decode cX11_fair 77 = .ok (.goto 4, 3) := by decide +kernel
theorem dX11_fair_80 : decode cX11_fair 80 = .ok (.iload_n 3, 1) := by decide +kernel
theorem dX11_fair_81 : decode cX11_fair 81 = .ok (.istore_n 3, 1) := by decide +kernel
theorem dX11_fair_82 : decode cX11_fair 82 = .ok (.iinc 4 1, 3) := by decide +kernel
theorem dX11_fair_85 : decode cX11_fair 85 = .ok (.goto (-64), 3) := by decide +kernel
theorem dX11_fair_88 : decode cX11_fair 88 = .ok (.iload_n 3, 1) := by decide +kernel
theorem dX11_fair_89 : decode cX11_fair 89 = .ok (.ireturn, 1) := by decide +kernel
theorem dX11_share_0 : decode cX11_share 0 = .ok (.aload_n 0, 1) := by decide +kernel
theorem dX11_share_1 : decode cX11_share 1 = .ok (.iload_n 1, 1) := by decide +kernel
theorem dX11_share_2 : decode cX11_share 2 = .ok (.invokevirtual 62, 3) := by decide +kernel
theorem dX11_share_5 : decode cX11_share 5 = .ok (.ifCond .eq 5, 3) := by decide +kernel
theorem dX11_share_8 : decode cX11_share 8 = .ok (.fconst 0, 1) := by decide +kernel
theorem dX11_share_9 : decode cX11_share 9 = .ok (.freturn, 1) := by decide +kernel
theorem dX11_share_10 : decode cX11_share 10 = .ok (.aload_n 0, 1) := by decide +kernel
theorem dX11_share_11 : decode cX11_share 11 = .ok (.getfield 20, 3) := by decide +kernel
theorem dX11_share_14 : decode cX11_share 14 = .ok (.iload_n 1, 1) := by decide +kernel
theorem dX11_share_15 : decode cX11_share 15 = .ok (.aaload, 1) := by decide +kernel
theorem dX11_share_16 : decode cX11_share 16 = .ok (.invokestatic 50, 3) := by decide +kernel
theorem dX11_share_19 : decode cX11_share 19 = .ok (.i2f, 1) := by decide +kernel
theorem dX11_share_20 : decode cX11_share 20 = .ok (.aload_n 0, 1) := by decide +kernel
theorem dX11_share_21 : decode cX11_share 21 = .ok (.iload_n 1, 1) := by decide +kernel
theorem dX11_share_22 : decode cX11_share 22 = .ok (.invokevirtual 58, 3) := by decide +kernel
theorem dX11_share_25 : decode cX11_share 25 = .ok (.iconst 1, 1) := by decide +kernel
theorem dX11_share_26 : decode cX11_share 26 = .ok (.iadd, 1) := by decide +kernel
theorem dX11_share_27 : decode cX11_share 27 = .ok (.i2f, 1) := by decide +kernel
theorem dX11_share_28 : decode cX11_share 28 = .ok (.fdiv, 1) := by decide +kernel
theorem dX11_share_29 : decode cX11_share 29 = .ok (.freturn, 1) := by decide +kernel
theorem dX11_meanWays_0 : decode cX11_meanWays 0 = .ok (.aload_n 0, 1) := by decide +kernel
theorem dX11_meanWays_1 : decode cX11_meanWays 1 = .ok (.iload_n 1, 1) := by decide +kernel
theorem dX11_meanWays_2 : decode cX11_meanWays 2 = .ok (.invokevirtual 62, 3) := by decide +kernel
theorem dX11_meanWays_5 : decode cX11_meanWays 5 = .ok (.ifCond .eq 5, 3) := by decide +kernel
theorem dX11_meanWays_8 : decode cX11_meanWays 8 = .ok (.dconst 0, 1) := by decide +kernel
theorem dX11_meanWays_9 : decode cX11_meanWays 9 = .ok (.dreturn, 1) := by decide +kernel
theorem dX11_meanWays_10 : decode cX11_meanWays 10 = .ok (.iconst 1, 1) := by decide +kernel
theorem dX11_meanWays_11 : decode cX11_meanWays 11 = .ok (.aload_n 0, 1) := by decide +kernel
theorem dX11_meanWays_12 : decode cX11_meanWays 12 = .ok (.getfield 14, 3) := by decide +kernel
theorem dX11_meanWays_15 : decode cX11_meanWays 15 = .ok (.iload_n 1, 1) := by decide +kernel
theorem dX11_meanWays_16 : decode cX11_meanWays 16 = .ok (.iaload, 1) := by decide +kernel
theorem dX11_meanWays_17 : decode cX11_meanWays 17 = .ok (.ishl, 1) := by decide +kernel
theorem dX11_meanWays_18 : decode cX11_meanWays 18 = .ok (.i2d, 1) := by decide +kernel
theorem dX11_meanWays_19 : decode cX11_meanWays 19 = .ok (.aload_n 0, 1) := by decide +kernel
theorem dX11_meanWays_20 : decode cX11_meanWays 20 = .ok (.getfield 20, 3) := by decide +kernel
theorem dX11_meanWays_23 : decode cX11_meanWays 23 = .ok (.iload_n 1, 1) := by decide +kernel
theorem dX11_meanWays_24 : decode cX11_meanWays 24 = .ok (.aaload, 1) := by decide +kernel
theorem dX11_meanWays_25 : decode cX11_meanWays 25 = .ok (.invokestatic 50, 3) := by decide +kernel
theorem dX11_meanWays_28 : decode cX11_meanWays 28 = .ok (.i2d, 1) := by decide +kernel
theorem dX11_meanWays_29 : decode cX11_meanWays 29 = .ok (.ddiv, 1) := by decide +kernel
theorem dX11_meanWays_30 : decode cX11_meanWays 30 = .ok (.dreturn, 1) := by decide +kernel
theorem dX11_choice_0 : decode cX11_choice 0 = .ok (.aload_n 0, 1) := by decide +kernel
theorem dX11_choice_1 : decode cX11_choice 1 = .ok (.iload_n 1, 1) := by decide +kernel
theorem dX11_choice_2 : decode cX11_choice 2 = .ok (.iload_n 2, 1) := by decide +kernel
theorem dX11_choice_3 : decode cX11_choice 3 = .ok (.invokevirtual 75, 3) := by decide +kernel
theorem dX11_choice_6 : decode cX11_choice 6 = .ok (.ifCond .ne 34, 3) := by decide +kernel
theorem dX11_choice_9 : decode cX11_choice 9 = .ok (.aload_n 0, 1) := by decide +kernel
theorem dX11_choice_10 : decode cX11_choice 10 = .ok (.iload_n 3, 1) := by decide +kernel
theorem dX11_choice_11 : decode cX11_choice 11 = .ok (.ifCond .lt 21, 3) := by decide +kernel
theorem dX11_choice_14 : decode cX11_choice 14 = .ok (.iload_n 3, 1) := by decide +kernel
theorem dX11_choice_15 : decode cX11_choice 15 = .ok (.i2l, 1) := by decide +kernel
theorem dX11_choice_16 : decode cX11_choice 16 = .ok (.aload_n 0, 1) := by decide +kernel
theorem dX11_choice_17 : decode cX11_choice 17 = .ok (.getfield 20, 3) := by decide +kernel
theorem dX11_choice_20 : decode cX11_choice 20 = .ok (.iload_n 1, 1) := by decide +kernel
theorem dX11_choice_21 : decode cX11_choice 21 = .ok (.aaload, 1) := by decide +kernel
theorem dX11_choice_22 : decode cX11_choice 22 = .ok (.iload_n 2, 1) := by decide +kernel
theorem dX11_choice_23 : decode cX11_choice 23 = .ok (.laload, 1) := by decide +kernel
theorem dX11_choice_24 : decode cX11_choice 24 = .ok (.lcmp, 1) := by decide +kernel
theorem dX11_choice_25 : decode cX11_choice 25 = .ok (.ifCond .ge 7, 3) := by decide +kernel
theorem dX11_choice_28 : decode cX11_choice 28 = .ok (.iconst 1, 1) := by decide +kernel
theorem dX11_choice_29 : decode cX11_choice 29 = .ok (.goto 4, 3) := by decide +kernel
theorem dX11_choice_32 : decode cX11_choice 32 = .ok (.iconst 0, 1) := by decide +kernel
theorem dX11_choice_33 : decode cX11_choice 33 = .ok (.iconst 3, 1) := by decide +kernel
theorem dX11_choice_34 : decode cX11_choice 34 = .ok (.invokevirtual 42, 3) := by decide +kernel
theorem dX11_choice_37 : decode cX11_choice 37 = .ok (.ifCond .eq 5, 3) := by decide +kernel
theorem dX11_choice_40 : decode cX11_choice 40 = .ok (.iconst 0, 1) := by decide +kernel
theorem dX11_choice_41 : decode cX11_choice 41 = .ok (.ireturn, 1) := by decide +kernel
theorem dX11_choice_42 : decode cX11_choice 42 = .ok (.iconst 0, 1) := by decide +kernel
theorem dX11_choice_43 : decode cX11_choice 43 = .ok (.istore 4, 2) := by decide +kernel
theorem dX11_choice_45 : decode cX11_choice 45 = .ok (.iload_n 2, 1) := by decide +kernel
theorem dX11_choice_46 : decode cX11_choice 46 = .ok (.istore 5, 2) := by decide +kernel
theorem dX11_choice_48 : decode cX11_choice 48 = .ok (.iload_n 3, 1) := by decide +kernel
theorem dX11_choice_49 : decode cX11_choice 49 = .ok (.i2l, 1) := by decide +kernel
theorem dX11_choice_50 : decode cX11_choice 50 = .ok (.lstore 6, 2) := by decide +kernel
theorem dX11_choice_52 : decode cX11_choice 52 = .ok (.aload_n 0, 1) := by decide +kernel
theorem dX11_choice_53 : decode cX11_choice 53 = .ok (.getfield 14, 3) := by decide +kernel
theorem dX11_choice_56 : decode cX11_choice 56 = .ok (.iload_n 1, 1) := by decide +kernel
theorem dX11_choice_57 : decode cX11_choice 57 = .ok (.iaload, 1) := by decide +kernel
theorem dX11_choice_58 : decode cX11_choice 58 = .ok (.iconst 1, 1) := by decide +kernel
theorem dX11_choice_59 : decode cX11_choice 59 = .ok (.isub, 1) := by decide +kernel
theorem dX11_choice_60 : decode cX11_choice 60 = .ok (.istore 8, 2) := by decide +kernel
theorem dX11_choice_62 : decode cX11_choice 62 = .ok (.iload 8, 2) := by decide +kernel
theorem dX11_choice_64 : decode cX11_choice 64 = .ok (.ifCond .lt 72, 3) := by decide +kernel
theorem dX11_choice_67 : decode cX11_choice 67 = .ok (.aload_n 0, 1) := by decide +kernel
theorem dX11_choice_68 : decode cX11_choice 68 = .ok (.aload_n 0, 1) := by decide +kernel
theorem dX11_choice_69 : decode cX11_choice 69 = .ok (.getfield 23, 3) := by decide +kernel
theorem dX11_choice_72 : decode cX11_choice 72 = .ok (.iload_n 1, 1) := by decide +kernel
theorem dX11_choice_73 : decode cX11_choice 73 = .ok (.iconst 1, 1) := by decide +kernel
theorem dX11_choice_74 : decode cX11_choice 74 = .ok (.iload 8, 2) := by decide +kernel
theorem dX11_choice_76 : decode cX11_choice 76 = .ok (.ishl, 1) := by decide +kernel
theorem dX11_choice_77 : decode cX11_choice 77 = .ok (.iconst 1, 1) := by decide +kernel
theorem dX11_choice_78 : decode cX11_choice 78 = .ok (.isub, 1) := by decide +kernel
theorem dX11_choice_79 : decode cX11_choice 79 = .ok (.invokevirtual 46, 3) := by decide +kernel
theorem dX11_choice_82 : decode cX11_choice 82 = .ok (.lload 6, 2) := by decide +kernel
theorem dX11_choice_84 : decode cX11_choice 84 = .ok (.aload_n 0, 1) := by decide +kernel
theorem dX11_choice_85 : decode cX11_choice 85 = .ok (.getfield 23, 3) := by decide +kernel
theorem dX11_choice_88 : decode cX11_choice 88 = .ok (.iload 5, 2) := by decide +kernel
theorem dX11_choice_90 : decode cX11_choice 90 = .ok (.laload, 1) := by decide +kernel
theorem dX11_choice_91 : decode cX11_choice 91 = .ok (.lcmp, 1) := by decide +kernel
theorem dX11_choice_92 : decode cX11_choice 92 = .ok (.ifCond .lt 38, 3) := by decide +kernel
theorem dX11_choice_95 : decode cX11_choice 95 = .ok (.lload 6, 2) := by decide +kernel
theorem dX11_choice_97 : decode cX11_choice 97 = .ok (.aload_n 0, 1) := by decide +kernel
theorem dX11_choice_98 : decode cX11_choice 98 = .ok (.getfield 23, 3) := by decide +kernel
theorem dX11_choice_101 : decode cX11_choice 101 = .ok (.iload 5, 2) := by decide +kernel
theorem dX11_choice_103 : decode cX11_choice 103 = .ok (.laload, 1) := by decide +kernel
theorem dX11_choice_104 : decode cX11_choice 104 = .ok (.lsub, 1) := by decide +kernel
theorem dX11_choice_105 : decode cX11_choice 105 = .ok (.lstore 6, 2) := by decide +kernel
theorem dX11_choice_107 : decode cX11_choice 107 = .ok (.iload 5, 2) := by decide +kernel
theorem dX11_choice_109 : decode cX11_choice 109 = .ok (.aload_n 0, 1) := by decide +kernel
theorem dX11_choice_110 : decode cX11_choice 110 = .ok (.getfield 11, 3) := by decide +kernel
theorem dX11_choice_113 : decode cX11_choice 113 = .ok (.iload_n 1, 1) := by decide +kernel
theorem dX11_choice_114 : decode cX11_choice 114 = .ok (.aaload, 1) := by decide +kernel
theorem dX11_choice_115 : decode cX11_choice 115 = .ok (.iload 8, 2) := by decide +kernel
theorem dX11_choice_117 : decode cX11_choice 117 = .ok (.iaload, 1) := by decide +kernel
theorem dX11_choice_118 : decode cX11_choice 118 = .ok (.isub, 1) := by decide +kernel
theorem dX11_choice_119 : decode cX11_choice 119 = .ok (.istore 5, 2) := by decide +kernel
theorem dX11_choice_121 : decode cX11_choice 121 = .ok (.iload 4, 2) := by decide +kernel
theorem dX11_choice_123 : decode cX11_choice 123 = .ok (.iconst 1, 1) := by decide +kernel
theorem dX11_choice_124 : decode cX11_choice 124 = .ok (.iload 8, 2) := by decide +kernel
theorem dX11_choice_126 : decode cX11_choice 126 = .ok (.ishl, 1) := by decide +kernel
theorem dX11_choice_127 : decode cX11_choice 127 = .ok (.iadd, 1) := by decide +kernel
theorem dX11_choice_128 : decode cX11_choice 128 = .ok (.istore 4, 2) := by decide +kernel
theorem dX11_choice_130 : decode cX11_choice 130 = .ok (.iinc 8 (-1), 3) := by decide +kernel
theorem dX11_choice_133 : decode cX11_choice 133 = .ok (.goto (-71), 3) := by decide +kernel
theorem dX11_choice_136 : decode cX11_choice 136 = .ok (.iload 4, 2) := by decide +kernel
theorem dX11_choice_138 : decode cX11_choice 138 = .ok (.ireturn, 1) := by decide +kernel
theorem dX11_rank_0 : decode cX11_rank 0 = .ok (.aload_n 0, 1) := by decide +kernel
theorem dX11_rank_1 : decode cX11_rank 1 = .ok (.iload_n 1, 1) := by decide +kernel
theorem dX11_rank_2 : decode cX11_rank 2 = .ok (.iload_n 2, 1) := by decide +kernel
theorem dX11_rank_3 : decode cX11_rank 3 = .ok (.invokevirtual 86, 3) := by decide +kernel
theorem dX11_rank_6 : decode cX11_rank 6 = .ok (.ifCond .eq 5, 3) := by decide +kernel
theorem dX11_rank_9 : decode cX11_rank 9 = .ok (.iconst 0, 1) := by decide +kernel
theorem dX11_rank_10 : decode cX11_rank 10 = .ok (.ireturn, 1) := by decide +kernel
theorem dX11_rank_11 : decode cX11_rank 11 = .ok (.aload_n 0, 1) := by decide +kernel
theorem dX11_rank_12 : decode cX11_rank 12 = .ok (.iload_n 1, 1) := by decide +kernel
theorem dX11_rank_13 : decode cX11_rank 13 = .ok (.iload_n 2, 1) := by decide +kernel
theorem dX11_rank_14 : decode cX11_rank 14 = .ok (.invokevirtual 89, 3) := by decide +kernel
theorem dX11_rank_17 : decode cX11_rank 17 = .ok (.istore_n 3, 1) := by decide +kernel
theorem dX11_rank_18 : decode cX11_rank 18 = .ok (.lconst 0, 1) := by decide +kernel
theorem dX11_rank_19 : decode cX11_rank 19 = .ok (.lstore 4, 2) := by decide +kernel
theorem dX11_rank_21 : decode cX11_rank 21 = .ok (.aload_n 0, 1) := by decide +kernel
theorem dX11_rank_22 : decode cX11_rank 22 = .ok (.getfield 14, 3) := by decide +kernel
theorem dX11_rank_25 : decode cX11_rank 25 = .ok (.iload_n 1, 1) := by decide +kernel
theorem dX11_rank_26 : decode cX11_rank 26 = .ok (.iaload, 1) := by decide +kernel
theorem dX11_rank_27 : decode cX11_rank 27 = .ok (.iconst 1, 1) := by decide +kernel
theorem dX11_rank_28 : decode cX11_rank 28 = .ok (.isub, 1) := by decide +kernel
theorem dX11_rank_29 : decode cX11_rank 29 = .ok (.istore 6, 2) := by decide +kernel
theorem dX11_rank_31 : decode cX11_rank 31 = .ok (.iload 6, 2) := by decide +kernel
theorem dX11_rank_33 : decode cX11_rank 33 = .ok (.ifCond .lt 57, 3) := by decide +kernel
theorem dX11_rank_36 : decode cX11_rank 36 = .ok (.iload_n 2, 1) := by decide +kernel
theorem dX11_rank_37 : decode cX11_rank 37 = .ok (.iload 6, 2) := by decide +kernel
theorem dX11_rank_39 : decode cX11_rank 39 = .ok (.ishr, 1) := by decide +kernel
theorem dX11_rank_40 : decode cX11_rank 40 = .ok (.iconst 2, 1) := by decide +kernel
theorem dX11_rank_41 : decode cX11_rank 41 = .ok (.irem, 1) := by decide +kernel
theorem dX11_rank_42 : decode cX11_rank 42 = .ok (.iconst 1, 1) := by decide +kernel
theorem dX11_rank_43 : decode cX11_rank 43 = .ok (.if_icmp .ne 41, 3) := by decide +kernel
theorem dX11_rank_46 : decode cX11_rank 46 = .ok (.aload_n 0, 1) := by decide +kernel
theorem dX11_rank_47 : decode cX11_rank 47 = .ok (.aload_n 0, 1) := by decide +kernel
theorem dX11_rank_48 : decode cX11_rank 48 = .ok (.getfield 23, 3) := by decide +kernel
theorem dX11_rank_51 : decode cX11_rank 51 = .ok (.iload_n 1, 1) := by decide +kernel
theorem dX11_rank_52 : decode cX11_rank 52 = .ok (.iconst 1, 1) := by decide +kernel
theorem dX11_rank_53 : decode cX11_rank 53 = .ok (.iload 6, 2) := by decide +kernel
theorem dX11_rank_55 : decode cX11_rank 55 = .ok (.ishl, 1) := by decide +kernel
theorem dX11_rank_56 : decode cX11_rank 56 = .ok (.iconst 1, 1) := by decide +kernel
theorem dX11_rank_57 : decode cX11_rank 57 = .ok (.isub, 1) := by decide +kernel
theorem dX11_rank_58 : decode cX11_rank 58 = .ok (.invokevirtual 46, 3) := by decide +kernel
theorem dX11_rank_61 : decode cX11_rank 61 = .ok (.lload 4, 2) := by decide +kernel
theorem dX11_rank_63 : decode cX11_rank 63 = .ok (.aload_n 0, 1) := by decide +kernel
theorem dX11_rank_64 : decode cX11_rank 64 = .ok (.getfield 23, 3) := by decide +kernel
theorem dX11_rank_67 : decode cX11_rank 67 = .ok (.iload_n 3, 1) := by decide +kernel
theorem dX11_rank_68 : decode cX11_rank 68 = .ok (.laload, 1) := by decide +kernel
theorem dX11_rank_69 : decode cX11_rank 69 = .ok (.ladd, 1) := by decide +kernel
theorem dX11_rank_70 : decode cX11_rank 70 = .ok (.lstore 4, 2) := by decide +kernel
theorem dX11_rank_72 : decode cX11_rank 72 = .ok (.iload_n 3, 1) := by decide +kernel
theorem dX11_rank_73 : decode cX11_rank 73 = .ok (.aload_n 0, 1) := by decide +kernel
theorem dX11_rank_74 : decode cX11_rank 74 = .ok (.getfield 11, 3) := by decide +kernel
theorem dX11_rank_77 : decode cX11_rank 77 = .ok (.iload_n 1, 1) := by decide +kernel
theorem dX11_rank_78 : decode cX11_rank 78 = .ok (.aaload, 1) := by decide +kernel
theorem dX11_rank_79 : decode cX11_rank 79 = .ok (.iload 6, 2) := by decide +kernel
theorem dX11_rank_81 : decode cX11_rank 81 = .ok (.iaload, 1) := by decide +kernel
theorem dX11_rank_82 : decode cX11_rank 82 = .ok (.isub, 1) := by decide +kernel
theorem dX11_rank_83 : decode cX11_rank 83 = .ok (.istore_n 3, 1) := by decide +kernel
theorem dX11_rank_84 : decode cX11_rank 84 = .ok (.iinc 6 (-1), 3) := by decide +kernel
theorem dX11_rank_87 : decode cX11_rank 87 = .ok (.goto (-56), 3) := by decide +kernel
theorem dX11_rank_90 : decode cX11_rank 90 = .ok (.lload 4, 2) := by decide +kernel
theorem dX11_rank_92 : decode cX11_rank 92 = .ok (.l2i, 1) := by decide +kernel
theorem dX11_rank_93 : decode cX11_rank 93 = .ok (.ireturn, 1) := by decide +kernel
theorem dX11_sumOf_0 : decode cX11_sumOf 0 = .ok (.aload_n 0, 1) := by decide +kernel
theorem dX11_sumOf_1 : decode cX11_sumOf 1 = .ok (.iload_n 1, 1) := by decide +kernel
theorem dX11_sumOf_2 : decode cX11_sumOf 2 = .ok (.iload_n 2, 1) := by decide +kernel
theorem dX11_sumOf_3 : decode cX11_sumOf 3 = .ok (.invokevirtual 86, 3) := by decide +kernel
theorem dX11_sumOf_6 : decode cX11_sumOf 6 = .ok (.ifCond .eq 5, 3) := by decide +kernel
theorem dX11_sumOf_9 : decode cX11_sumOf 9 = .ok (.iconst 0, 1) := by decide +kernel
theorem dX11_sumOf_10 : decode cX11_sumOf 10 = .ok (.ireturn, 1) := by decide +kernel
theorem dX11_sumOf_11 : decode cX11_sumOf 11 = .ok (.aload_n 0, 1) := by decide +kernel
theorem dX11_sumOf_12 : decode cX11_sumOf 12 = .ok (.iload_n 1, 1) := by decide +kernel
theorem dX11_sumOf_13 : decode cX11_sumOf 13 = .ok (.iload_n 2, 1) := by decide +kernel
theorem dX11_sumOf_14 : decode cX11_sumOf 14 = .ok (.invokevirtual 89, 3) := by decide +kernel
theorem dX11_sumOf_17 : decode cX11_sumOf 17 = .ok (.ireturn, 1) := by decide +kernel
theorem dX11_partSums_0 : decode cX11_partSums 0 = .ok (.aload_n 0, 1) := by decide +kernel
theorem dX11_partSums_1 : decode cX11_partSums 1 = .ok (.iload_n 1, 1) := by decide +kernel
theorem dX11_partSums_2 : decode cX11_partSums 2 = .ok (.iload_n 2, 1) := by decide +kernel
theorem dX11_partSums_3 : decode cX11_partSums 3 = .ok (.invokevirtual 86, 3) := by decide +kernel
theorem dX11_partSums_6 : decode cX11_partSums 6 = .ok (.ifCond .eq 5, 3) := by decide +kernel
theorem dX11_partSums_9 : decode cX11_partSums 9 = .ok (.iconst 0, 1) := by decide +kernel
theorem dX11_partSums_10 : decode cX11_partSums 10 = .ok (.ireturn, 1) := by decide +kernel
theorem dX11_partSums_11 : decode cX11_partSums 11 = .ok (.aload_n 0, 1) := by decide +kernel
theorem dX11_partSums_12 : decode cX11_partSums 12 = .ok (.aload_n 0, 1) := by decide +kernel
theorem dX11_partSums_13 : decode cX11_partSums 13 = .ok (.getfield 23, 3) := by decide +kernel
theorem dX11_partSums_16 : decode cX11_partSums 16 = .ok (.iload_n 1, 1) := by decide +kernel
theorem dX11_partSums_17 : decode cX11_partSums 17 = .ok (.iload_n 2, 1) := by decide +kernel
theorem dX11_partSums_18 : decode cX11_partSums 18 = .ok (.invokevirtual 46, 3) := by decide +kernel
theorem dX11_partSums_21 : decode cX11_partSums 21 = .ok (.aload_n 0, 1) := by decide +kernel
theorem dX11_partSums_22 : decode cX11_partSums 22 = .ok (.getfield 23, 3) := by decide +kernel
theorem dX11_partSums_25 : decode cX11_partSums 25 = .ok (.invokestatic 50, 3) := by decide +kernel
theorem dX11_partSums_28 : decode cX11_partSums 28 = .ok (.ireturn, 1) := by decide +kernel
theorem dX11_lacksOne_0 : decode cX11_lacksOne 0 = .ok (.aload_n 0, 1) := by decide +kernel
theorem dX11_lacksOne_1 : decode cX11_lacksOne 1 = .ok (.iload_n 1, 1) := by decide +kernel
theorem dX11_lacksOne_2 : decode cX11_lacksOne 2 = .ok (.invokestatic 38, 3) := by decide +kernel
theorem dX11_lacksOne_5 : decode cX11_lacksOne 5 = .ok (.ifCond .eq 14, 3) := by decide +kernel
theorem dX11_lacksOne_8 : decode cX11_lacksOne 8 = .ok (.iload_n 2, 1) := by decide +kernel
theorem dX11_lacksOne_9 : decode cX11_lacksOne 9 = .ok (.invokestatic 38, 3) := by decide +kernel
theorem dX11_lacksOne_12 : decode cX11_lacksOne 12 = .ok (.ifCond .eq 7, 3) := by decide +kernel
theorem dX11_lacksOne_15 : decode cX11_lacksOne 15 = .ok (.iconst 1, 1) := by decide +kernel
theorem dX11_lacksOne_16 : decode cX11_lacksOne 16 = .ok (.goto 4, 3) := by decide +kernel
theorem dX11_lacksOne_19 : decode cX11_lacksOne 19 = .ok (.iconst 0, 1) := by decide +kernel
theorem dX11_lacksOne_20 : decode cX11_lacksOne 20 = .ok (.iconst 1, 1) := by decide +kernel
theorem dX11_lacksOne_21 : decode cX11_lacksOne 21 = .ok (.invokevirtual 42, 3) := by decide +kernel
theorem dX11_lacksOne_24 : decode cX11_lacksOne 24 = .ok (.ireturn, 1) := by decide +kernel
theorem dX11_compare_0 : decode cX11_compare 0 = .ok (.aload_n 0, 1) := by decide +kernel
theorem dX11_compare_1 : decode cX11_compare 1 = .ok (.iload_n 1, 1) := by decide +kernel
theorem dX11_compare_2 : decode cX11_compare 2 = .ok (.iload_n 2, 1) := by decide +kernel
theorem dX11_compare_3 : decode cX11_compare 3 = .ok (.invokevirtual 93, 3) := by decide +kernel
theorem dX11_compare_6 : decode cX11_compare 6 = .ok (.ifCond .ne 40, 3) := by decide +kernel
theorem dX11_compare_9 : decode cX11_compare 9 = .ok (.aload_n 0, 1) := by decide +kernel
theorem dX11_compare_10 : decode cX11_compare 10 = .ok (.iload_n 3, 1) := by decide +kernel
theorem dX11_compare_11 : decode cX11_compare 11 = .ok (.bipush 38, 2) := by decide +kernel
theorem dX11_compare_13 : decode cX11_compare 13 = .ok (.if_icmp .eq 21, 3) := by decide +kernel
theorem dX11_compare_16 : decode cX11_compare 16 = .ok (.iload_n 3, 1) := by decide +kernel
theorem dX11_compare_17 : decode cX11_compare 17 = .ok (.bipush 124, 2) := by decide +kernel
theorem dX11_compare_19 : decode cX11_compare 19 = .ok (.if_icmp .eq 15, 3) := by decide +kernel
theorem dX11_compare_22 : decode cX11_compare 22 = .ok (.iload_n 3, 1) := by decide +kernel
theorem dX11_compare_23 : decode cX11_compare 23 = .ok (.bipush 94, 2) := by decide +kernel
theorem dX11_compare_25 : decode cX11_compare 25 = .ok (.if_icmp .eq 9, 3) := by decide +kernel
theorem dX11_compare_28 : decode cX11_compare 28 = .ok (.iload_n 3, 1) := by decide +kernel
theorem dX11_compare_29 : decode cX11_compare 29 = .ok (.bipush 45, 2) := by decide +kernel
theorem dX11_compare_31 : decode cX11_compare 31 = .ok (.if_icmp .ne 7, 3) := by decide +kernel
theorem dX11_compare_34 : decode cX11_compare 34 = .ok (.iconst 1, 1) := by decide +kernel
theorem dX11_compare_35 : decode cX11_compare 35 = .ok (.goto 4, 3) := by decide +kernel
theorem dX11_compare_38 : decode cX11_compare 38 = .ok (.iconst 0, 1) := by decide +kernel
theorem dX11_compare_39 : decode cX11_compare 39 = .ok (.iconst 2, 1) := by decide +kernel
theorem dX11_compare_40 : decode cX11_compare 40 = .ok (.invokevirtual 42, 3) := by decide +kernel
theorem dX11_compare_43 : decode cX11_compare 43 = .ok (.ifCond .eq 5, 3) := by decide +kernel
theorem dX11_compare_46 : decode cX11_compare 46 = .ok (.iconst 0, 1) := by decide +kernel
theorem dX11_compare_47 : decode cX11_compare 47 = .ok (.ireturn, 1) := by decide +kernel
theorem dX11_compare_48 : decode cX11_compare 48 = .ok (.iconst 0, 1) := by decide +kernel
theorem dX11_compare_49 : decode cX11_compare 49 = .ok (.istore 4, 2) := by decide +kernel
theorem dX11_compare_51 : decode cX11_compare 51 = .ok (.iconst 0, 1) := by decide +kernel
theorem dX11_compare_52 : decode cX11_compare 52 = .ok (.istore 5, 2) := by decide +kernel
theorem dX11_compare_54 : decode cX11_compare 54 = .ok (.iload 5, 2) := by decide +kernel
theorem dX11_compare_56 : decode cX11_compare 56 = .ok (.sipush 300, 3) := by decide +kernel
theorem dX11_compare_59 : decode cX11_compare 59 = .ok (.if_icmp .gt 152, 3) := by decide +kernel
theorem dX11_compare_62 : decode cX11_compare 62 = .ok (.aload_n 0, 1) := by decide +kernel
theorem dX11_compare_63 : decode cX11_compare 63 = .ok (.getfield 20, 3) := by decide +kernel
theorem dX11_compare_66 : decode cX11_compare 66 = .ok (.iload_n 1, 1) := by decide +kernel
theorem dX11_compare_67 : decode cX11_compare 67 = .ok (.aaload, 1) := by decide +kernel
theorem dX11_compare_68 : decode cX11_compare 68 = .ok (.iload 5, 2) := by decide +kernel
theorem dX11_compare_70 : decode cX11_compare 70 = .ok (.laload, 1) := by decide +kernel
theorem dX11_compare_71 : decode cX11_compare 71 = .ok (.lconst 0, 1) := by decide +kernel
theorem dX11_compare_72 : decode cX11_compare 72 = .ok (.lcmp, 1) := by decide +kernel
theorem dX11_compare_73 : decode cX11_compare 73 = .ok (.ifCond .le 7, 3) := by decide +kernel
theorem dX11_compare_76 : decode cX11_compare 76 = .ok (.iconst 1, 1) := by decide +kernel
theorem dX11_compare_77 : decode cX11_compare 77 = .ok (.goto 4, 3) := by decide +kernel
theorem dX11_compare_80 : decode cX11_compare 80 = .ok (.iconst 0, 1) := by decide +kernel
theorem dX11_compare_81 : decode cX11_compare 81 = .ok (.istore 6, 2) := by decide +kernel
theorem dX11_compare_83 : decode cX11_compare 83 = .ok (.aload_n 0, 1) := by decide +kernel
theorem dX11_compare_84 : decode cX11_compare 84 = .ok (.getfield 20, 3) := by decide +kernel
theorem dX11_compare_87 : decode cX11_compare 87 = .ok (.iload_n 2, 1) := by decide +kernel
theorem dX11_compare_88 : decode cX11_compare 88 = .ok (.aaload, 1) := by decide +kernel
theorem dX11_compare_89 : decode cX11_compare 89 = .ok (.iload 5, 2) := by decide +kernel
theorem dX11_compare_91 : decode cX11_compare 91 = .ok (.laload, 1) := by decide +kernel
theorem dX11_compare_92 : decode cX11_compare 92 = .ok (.lconst 0, 1) := by decide +kernel
theorem dX11_compare_93 : decode cX11_compare 93 = .ok (.lcmp, 1) := by decide +kernel
theorem dX11_compare_94 : decode cX11_compare 94 = .ok (.ifCond .le 7, 3) := by decide +kernel
theorem dX11_compare_97 : decode cX11_compare 97 = .ok (.iconst 1, 1) := by decide +kernel
theorem dX11_compare_98 : decode cX11_compare 98 = .ok (.goto 4, 3) := by decide +kernel
theorem dX11_compare_101 : decode cX11_compare 101 = .ok (.iconst 0, 1) := by decide +kernel
theorem dX11_compare_102 : decode cX11_compare 102 = .ok (.istore 7, 2) := by decide +kernel
theorem dX11_compare_104 : decode cX11_compare 104 = .ok (.iload_n 3, 1) := by decide +kernel
theorem dX11_compare_105 : decode cX11_compare 105 = .ok (.bipush 38, 2) := by decide +kernel
theorem dX11_compare_107 : decode cX11_compare 107 = .ok (.if_icmp .ne 21, 3) := by decide +kernel
theorem dX11_compare_110 : decode cX11_compare 110 = .ok (.iload 6, 2) := by decide +kernel
theorem dX11_compare_112 : decode cX11_compare 112 = .ok (.ifCond .eq 12, 3) := by decide +kernel
theorem dX11_compare_115 : decode cX11_compare 115 = .ok (.iload 7, 2) := by decide +kernel
theorem dX11_compare_117 : decode cX11_compare 117 = .ok (.ifCond .eq 7, 3) := by decide +kernel
theorem dX11_compare_120 : decode cX11_compare 120 = .ok (.iconst 1, 1) := by decide +kernel
theorem dX11_compare_121 : decode cX11_compare 121 = .ok (.goto 67, 3) := by decide +kernel
theorem dX11_compare_124 : decode cX11_compare 124 = .ok (.iconst 0, 1) := by decide +kernel
theorem dX11_compare_125 : decode cX11_compare 125 = .ok (.goto 63, 3) := by decide +kernel
theorem dX11_compare_128 : decode cX11_compare 128 = .ok (.iload_n 3, 1) := by decide +kernel
theorem dX11_compare_129 : decode cX11_compare 129 = .ok (.bipush 124, 2) := by decide +kernel
theorem dX11_compare_131 : decode cX11_compare 131 = .ok (.if_icmp .ne 21, 3) := by decide +kernel
theorem dX11_compare_134 : decode cX11_compare 134 = .ok (.iload 6, 2) := by decide +kernel
theorem dX11_compare_136 : decode cX11_compare 136 = .ok (.ifCond .ne 8, 3) := by decide +kernel
theorem dX11_compare_139 : decode cX11_compare 139 = .ok (.iload 7, 2) := by decide +kernel
theorem dX11_compare_141 : decode cX11_compare 141 = .ok (.ifCond .eq 7, 3) := by decide +kernel
theorem dX11_compare_144 : decode cX11_compare 144 = .ok (.iconst 1, 1) := by decide +kernel
theorem dX11_compare_145 : decode cX11_compare 145 = .ok (.goto 43, 3) := by decide +kernel
theorem dX11_compare_148 : decode cX11_compare 148 = .ok (.iconst 0, 1) := by decide +kernel
theorem dX11_compare_149 : decode cX11_compare 149 = .ok (.goto 39, 3) := by decide +kernel
theorem dX11_compare_152 : decode cX11_compare 152 = .ok (.iload_n 3, 1) := by decide +kernel
theorem dX11_compare_153 : decode cX11_compare 153 = .ok (.bipush 94, 2) := by decide +kernel
theorem dX11_compare_155 : decode cX11_compare 155 = .ok (.if_icmp .ne 18, 3) := by decide +kernel
theorem dX11_compare_158 : decode cX11_compare 158 = .ok (.iload 6, 2) := by decide +kernel
theorem dX11_compare_160 : decode cX11_compare 160 = .ok (.iload 7, 2) := by decide +kernel
theorem dX11_compare_162 : decode cX11_compare 162 = .ok (.if_icmp .eq 7, 3) := by decide +kernel
theorem dX11_compare_165 : decode cX11_compare 165 = .ok (.iconst 1, 1) := by decide +kernel
theorem dX11_compare_166 : decode cX11_compare 166 = .ok (.goto 22, 3) := by decide +kernel
theorem dX11_compare_169 : decode cX11_compare 169 = .ok (.iconst 0, 1) := by decide +kernel
theorem dX11_compare_170 : decode cX11_compare 170 = .ok (.goto 18, 3) := by decide +kernel
theorem dX11_compare_173 : decode cX11_compare 173 = .ok (.iload 6, 2) := by decide +kernel
theorem dX11_compare_175 : decode cX11_compare 175 = .ok (.ifCond .eq 12, 3) := by decide +kernel
theorem dX11_compare_178 : decode cX11_compare 178 = .ok (.iload 7, 2) := by decide +kernel
theorem dX11_compare_180 : decode cX11_compare 180 = .ok (.ifCond .ne 7, 3) := by decide +kernel
theorem dX11_compare_183 : decode cX11_compare 183 = .ok (.iconst 1, 1) := by decide +kernel
theorem dX11_compare_184 : decode cX11_compare 184 = .ok (.goto 4, 3) := by decide +kernel
theorem dX11_compare_187 : decode cX11_compare 187 = .ok (.iconst 0, 1) := by decide +kernel
theorem dX11_compare_188 : decode cX11_compare 188 = .ok (.istore 8, 2) := by decide +kernel
theorem dX11_compare_190 : decode cX11_compare 190 = .ok (.iload 4, 2) := by decide +kernel
theorem dX11_compare_192 : decode cX11_compare 192 = .ok (.iload 8, 2) := by decide +kernel
theorem dX11_compare_194 : decode cX11_compare 194 = .ok (.ifCond .eq 7, 3) := by decide +kernel
theorem dX11_compare_197 : decode cX11_compare 197 = .ok (.iconst 1, 1) := by decide +kernel
theorem dX11_compare_198 : decode cX11_compare 198 = .ok (.goto 4, 3) := by decide +kernel
theorem dX11_compare_201 : decode cX11_compare 201 = .ok (.iconst 0, 1) := by decide +kernel
theorem dX11_compare_202 : decode cX11_compare 202 = .ok (.iadd, 1) := by decide +kernel
theorem dX11_compare_203 : decode cX11_compare 203 = .ok (.istore 4, 2) := by decide +kernel
theorem dX11_compare_205 : decode cX11_compare 205 = .ok (.iinc 5 1, 3) := by decide +kernel
theorem dX11_compare_208 : decode cX11_compare 208 = .ok (.goto (-154), 3) := by decide +kernel
theorem dX11_compare_211 : decode cX11_compare 211 = .ok (.iload 4, 2) := by decide +kernel
theorem dX11_compare_213 : decode cX11_compare 213 = .ok (.ireturn, 1) := by decide +kernel
theorem dX11_isLike_0 : decode cX11_isLike 0 = .ok (.aload_n 0, 1) := by decide +kernel
theorem dX11_isLike_1 : decode cX11_isLike 1 = .ok (.iload_n 1, 1) := by decide +kernel
theorem dX11_isLike_2 : decode cX11_isLike 2 = .ok (.iload_n 2, 1) := by decide +kernel
theorem dX11_isLike_3 : decode cX11_isLike 3 = .ok (.invokevirtual 93, 3) := by decide +kernel
theorem dX11_isLike_6 : decode cX11_isLike 6 = .ok (.ifCond .eq 5, 3) := by decide +kernel
theorem dX11_isLike_9 : decode cX11_isLike 9 = .ok (.iconst 0, 1) := by decide +kernel
theorem dX11_isLike_10 : decode cX11_isLike 10 = .ok (.ireturn, 1) := by decide +kernel
theorem dX11_isLike_11 : decode cX11_isLike 11 = .ok (.iconst 0, 1) := by decide +kernel
theorem dX11_isLike_12 : decode cX11_isLike 12 = .ok (.istore_n 3, 1) := by decide +kernel
theorem dX11_isLike_13 : decode cX11_isLike 13 = .ok (.iload_n 3, 1) := by decide +kernel
theorem dX11_isLike_14 : decode cX11_isLike 14 = .ok (.sipush 300, 3) := by decide +kernel
theorem dX11_isLike_17 : decode cX11_isLike 17 = .ok (.if_icmp .gt 50, 3) := by decide +kernel
theorem dX11_isLike_20 : decode cX11_isLike 20 = .ok (.aload_n 0, 1) := by decide +kernel
theorem dX11_isLike_21 : decode cX11_isLike 21 = .ok (.getfield 20, 3) := by decide +kernel
theorem dX11_isLike_24 : decode cX11_isLike 24 = .ok (.iload_n 1, 1) := by decide +kernel
theorem dX11_isLike_25 : decode cX11_isLike 25 = .ok (.aaload, 1) := by decide +kernel
theorem dX11_isLike_26 : decode cX11_isLike 26 = .ok (.iload_n 3, 1) := by decide +kernel
theorem dX11_isLike_27 : decode cX11_isLike 27 = .ok (.laload, 1) := by decide +kernel
theorem dX11_isLike_28 : decode cX11_isLike 28 = .ok (.lconst 0, 1) := by decide +kernel
theorem dX11_isLike_29 : decode cX11_isLike 29 = .ok (.lcmp, 1) := by decide +kernel
theorem dX11_isLike_30 : decode cX11_isLike 30 = .ok (.ifCond .le 7, 3) := by decide +kernel
theorem dX11_isLike_33 : decode cX11_isLike 33 = .ok (.iconst 1, 1) := by decide +kernel
theorem dX11_isLike_34 : decode cX11_isLike 34 = .ok (.goto 4, 3) := by decide +kernel
theorem dX11_isLike_37 : decode cX11_isLike 37 = .ok (.iconst 0, 1) := by decide +kernel
theorem dX11_isLike_38 : decode cX11_isLike 38 = .ok (.aload_n 0, 1) := by decide +kernel
theorem dX11_isLike_39 : decode cX11_isLike 39 = .ok (.getfield 20, 3) := by decide +kernel
theorem dX11_isLike_42 : decode cX11_isLike 42 = .ok (.iload_n 2, 1) := by decide +kernel
theorem dX11_isLike_43 : decode cX11_isLike 43 = .ok (.aaload, 1) := by decide +kernel
theorem dX11_isLike_44 : decode cX11_isLike 44 = .ok (.iload_n 3, 1) := by decide +kernel
theorem dX11_isLike_45 : decode cX11_isLike 45 = .ok (.laload, 1) := by decide +kernel
theorem dX11_isLike_46 : decode cX11_isLike 46 = .ok (.lconst 0, 1) := by decide +kernel
theorem dX11_isLike_47 : decode cX11_isLike 47 = .ok (.lcmp, 1) := by decide +kernel
theorem dX11_isLike_48 : decode cX11_isLike 48 = .ok (.ifCond .le 7, 3) := by decide +kernel
theorem dX11_isLike_51 : decode cX11_isLike 51 = .ok (.iconst 1, 1) := by decide +kernel
theorem dX11_isLike_52 : decode cX11_isLike 52 = .ok (.goto 4, 3) := by decide +kernel
theorem dX11_isLike_55 : decode cX11_isLike 55 = .ok (.iconst 0, 1) := by decide +kernel
theorem dX11_isLike_56 : decode cX11_isLike 56 = .ok (.if_icmp .eq 5, 3) := by decide +kernel
theorem dX11_isLike_59 : decode cX11_isLike 59 = .ok (.iconst 0, 1) := by decide +kernel
theorem dX11_isLike_60 : decode cX11_isLike 60 = .ok (.ireturn, 1) := by decide +kernel
theorem dX11_isLike_61 : decode cX11_isLike 61 = .ok (.iinc 3 1, 3) := by decide +kernel
theorem dX11_isLike_64 : decode cX11_isLike 64 = .ok (.goto (-51), 3) := by decide +kernel
theorem dX11_isLike_67 : decode cX11_isLike 67 = .ok (.iconst 1, 1) := by decide +kernel
theorem dX11_isLike_68 : decode cX11_isLike 68 = .ok (.ireturn, 1) := by decide +kernel
theorem dX11_together_0 : decode cX11_together 0 = .ok (.aload_n 0, 1) := by decide +kernel
theorem dX11_together_1 : decode cX11_together 1 = .ok (.iload_n 1, 1) := by decide +kernel
theorem dX11_together_2 : decode cX11_together 2 = .ok (.iload_n 2, 1) := by decide +kernel
theorem dX11_together_3 : decode cX11_together 3 = .ok (.invokevirtual 93, 3) := by decide +kernel
theorem dX11_together_6 : decode cX11_together 6 = .ok (.ifCond .ne 19, 3) := by decide +kernel
theorem dX11_together_9 : decode cX11_together 9 = .ok (.aload_n 0, 1) := by decide +kernel
theorem dX11_together_10 : decode cX11_together 10 = .ok (.iload_n 3, 1) := by decide +kernel
theorem dX11_together_11 : decode cX11_together 11 = .ok (.iconst 0, 1) := by decide +kernel
theorem dX11_together_12 : decode cX11_together 12 = .ok (.sipush 300, 3) := by decide +kernel
theorem dX11_together_15 : decode cX11_together 15 = .ok (.invokestatic 34, 3) := by decide +kernel
theorem dX11_together_18 : decode cX11_together 18 = .ok (.iconst 2, 1) := by decide +kernel
theorem dX11_together_19 : decode cX11_together 19 = .ok (.invokevirtual 42, 3) := by decide +kernel
theorem dX11_together_22 : decode cX11_together 22 = .ok (.ifCond .eq 5, 3) := by decide +kernel
theorem dX11_together_25 : decode cX11_together 25 = .ok (.iconst 0, 1) := by decide +kernel
theorem dX11_together_26 : decode cX11_together 26 = .ok (.ireturn, 1) := by decide +kernel
theorem dX11_together_27 : decode cX11_together 27 = .ok (.iconst 0, 1) := by decide +kernel
theorem dX11_together_28 : decode cX11_together 28 = .ok (.istore 4, 2) := by decide +kernel
theorem dX11_together_30 : decode cX11_together 30 = .ok (.iconst 0, 1) := by decide +kernel
theorem dX11_together_31 : decode cX11_together 31 = .ok (.istore 5, 2) := by decide +kernel
theorem dX11_together_33 : decode cX11_together 33 = .ok (.iload 5, 2) := by decide +kernel
theorem dX11_together_35 : decode cX11_together 35 = .ok (.iload_n 3, 1) := by decide +kernel
theorem dX11_together_36 : decode cX11_together 36 = .ok (.if_icmp .gt 49, 3) := by decide +kernel
theorem dX11_together_39 : decode cX11_together 39 = .ok (.iload 4, 2) := by decide +kernel
theorem dX11_together_41 : decode cX11_together 41 = .ok (.aload_n 0, 1) := by decide +kernel
theorem dX11_together_42 : decode cX11_together 42 = .ok (.getfield 20, 3) := by decide +kernel
theorem dX11_together_45 : decode cX11_together 45 = .ok (.iload_n 1, 1) := by decide +kernel
theorem dX11_together_46 : decode cX11_together 46 = .ok (.aaload, 1) := by decide +kernel
theorem dX11_together_47 : decode cX11_together 47 = .ok (.iload 5, 2) := by decide +kernel
theorem dX11_together_49 : decode cX11_together 49 = .ok (.laload, 1) := by decide +kernel
theorem dX11_together_50 : decode cX11_together 50 = .ok (.lconst 0, 1) := by decide +kernel
theorem dX11_together_51 : decode cX11_together 51 = .ok (.lcmp, 1) := by decide +kernel
theorem dX11_together_52 : decode cX11_together 52 = .ok (.ifCond .le 23, 3) := by decide +kernel
theorem dX11_together_55 : decode cX11_together 55 = .ok (.aload_n 0, 1) := by decide +kernel
theorem dX11_together_56 : decode cX11_together 56 = .ok (.getfield 20, 3) := by decide +kernel
theorem dX11_together_59 : decode cX11_together 59 = .ok (.iload_n 2, 1) := by decide +kernel
theorem dX11_together_60 : decode cX11_together 60 = .ok (.aaload, 1) := by decide +kernel
theorem dX11_together_61 : decode cX11_together 61 = .ok (.iload_n 3, 1) := by decide +kernel
theorem dX11_together_62 : decode cX11_together 62 = .ok (.iload 5, 2) := by decide +kernel
theorem dX11_together_64 : decode cX11_together 64 = .ok (.isub, 1) := by decide +kernel
theorem dX11_together_65 : decode cX11_together 65 = .ok (.laload, 1) := by decide +kernel
theorem dX11_together_66 : decode cX11_together 66 = .ok (.lconst 0, 1) := by decide +kernel
theorem dX11_together_67 : decode cX11_together 67 = .ok (.lcmp, 1) := by decide +kernel
theorem dX11_together_68 : decode cX11_together 68 = .ok (.ifCond .le 7, 3) := by decide +kernel
theorem dX11_together_71 : decode cX11_together 71 = .ok (.iconst 1, 1) := by decide +kernel
theorem dX11_together_72 : decode cX11_together 72 = .ok (.goto 4, 3) := by decide +kernel
theorem dX11_together_75 : decode cX11_together 75 = .ok (.iconst 0, 1) := by decide +kernel
theorem dX11_together_76 : decode cX11_together 76 = .ok (.iadd, 1) := by decide +kernel
theorem dX11_together_77 : decode cX11_together 77 = .ok (.istore 4, 2) := by decide +kernel
theorem dX11_together_79 : decode cX11_together 79 = .ok (.iinc 5 1, 3) := by decide +kernel
theorem dX11_together_82 : decode cX11_together 82 = .ok (.goto (-49), 3) := by decide +kernel
theorem dX11_together_85 : decode cX11_together 85 = .ok (.iload 4, 2) := by decide +kernel
theorem dX11_together_87 : decode cX11_together 87 = .ok (.ireturn, 1) := by decide +kernel
theorem dX11_isParted_0 : decode cX11_isParted 0 = .ok (.aload_n 0, 1) := by decide +kernel
theorem dX11_isParted_1 : decode cX11_isParted 1 = .ok (.iload_n 1, 1) := by decide +kernel
theorem dX11_isParted_2 : decode cX11_isParted 2 = .ok (.iload_n 2, 1) := by decide +kernel
theorem dX11_isParted_3 : decode cX11_isParted 3 = .ok (.invokevirtual 86, 3) := by decide +kernel
theorem dX11_isParted_6 : decode cX11_isParted 6 = .ok (.ifCond .ne 7, 3) := by decide +kernel
theorem dX11_isParted_9 : decode cX11_isParted 9 = .ok (.iconst 1, 1) := by decide +kernel
theorem dX11_isParted_10 : decode cX11_isParted 10 = .ok (.goto 4, 3) := by decide +kernel
theorem dX11_isParted_13 : decode cX11_isParted 13 = .ok (.iconst 0, 1) := by decide +kernel
theorem dX11_isParted_14 : decode cX11_isParted 14 = .ok (.ireturn, 1) := by decide +kernel
theorem dX11_isAll_0 : decode cX11_isAll 0 = .ok (.aload_n 0, 1) := by decide +kernel
theorem dX11_isAll_1 : decode cX11_isAll 1 = .ok (.iload_n 1, 1) := by decide +kernel
theorem dX11_isAll_2 : decode cX11_isAll 2 = .ok (.iload_n 2, 1) := by decide +kernel
theorem dX11_isAll_3 : decode cX11_isAll 3 = .ok (.invokevirtual 86, 3) := by decide +kernel
theorem dX11_isAll_6 : decode cX11_isAll 6 = .ok (.ifCond .eq 5, 3) := by decide +kernel
theorem dX11_isAll_9 : decode cX11_isAll 9 = .ok (.iconst 0, 1) := by decide +kernel
theorem dX11_isAll_10 : decode cX11_isAll 10 = .ok (.ireturn, 1) := by decide +kernel
theorem dX11_isAll_11 : decode cX11_isAll 11 = .ok (.iconst 0, 1) := by decide +kernel
theorem dX11_isAll_12 : decode cX11_isAll 12 = .ok (.istore_n 3, 1) := by decide +kernel
theorem dX11_isAll_13 : decode cX11_isAll 13 = .ok (.iconst 0, 1) := by decide +kernel
theorem dX11_isAll_14 : decode cX11_isAll 14 = .ok (.istore 4, 2) := by decide +kernel
theorem dX11_isAll_16 : decode cX11_isAll 16 = .ok (.iload 4, 2) := by decide +kernel
theorem dX11_isAll_18 : decode cX11_isAll 18 = .ok (.bipush 20, 2) := by decide +kernel
theorem dX11_isAll_20 : decode cX11_isAll 20 = .ok (.if_icmp .ge 18, 3) := by decide +kernel
theorem dX11_isAll_23 : decode cX11_isAll 23 = .ok (.iload_n 3, 1) := by decide +kernel
theorem dX11_isAll_24 : decode cX11_isAll 24 = .ok (.iload_n 2, 1) := by decide +kernel
theorem dX11_isAll_25 : decode cX11_isAll 25 = .ok (.iload 4, 2) := by decide +kernel
theorem dX11_isAll_27 : decode cX11_isAll 27 = .ok (.ishr, 1) := by decide +kernel
theorem dX11_isAll_28 : decode cX11_isAll 28 = .ok (.iconst 2, 1) := by decide +kernel
theorem dX11_isAll_29 : decode cX11_isAll 29 = .ok (.irem, 1) := by decide +kernel
theorem dX11_isAll_30 : decode cX11_isAll 30 = .ok (.iadd, 1) := by decide +kernel
theorem dX11_isAll_31 : decode cX11_isAll 31 = .ok (.istore_n 3, 1) := by decide +kernel
theorem dX11_isAll_32 : decode cX11_isAll 32 = .ok (.iinc 4 1, 3) := by decide +kernel
theorem dX11_isAll_35 : decode cX11_isAll 35 = .ok (.goto (-19), 3) := by decide +kernel
theorem dX11_isAll_38 : decode cX11_isAll 38 = .ok (.aload_n 0, 1) := by decide +kernel
theorem dX11_isAll_39 : decode cX11_isAll 39 = .ok (.iload_n 3, 1) := by decide +kernel
theorem dX11_isAll_40 : decode cX11_isAll 40 = .ok (.bipush 8, 2) := by decide +kernel
theorem dX11_isAll_42 : decode cX11_isAll 42 = .ok (.if_icmp .gt 7, 3) := by decide +kernel
theorem dX11_isAll_45 : decode cX11_isAll 45 = .ok (.iconst 1, 1) := by decide +kernel
theorem dX11_isAll_46 : decode cX11_isAll 46 = .ok (.goto 4, 3) := by decide +kernel
theorem dX11_isAll_49 : decode cX11_isAll 49 = .ok (.iconst 0, 1) := by decide +kernel
theorem dX11_isAll_50 : decode cX11_isAll 50 = .ok (.iconst 3, 1) := by decide +kernel
theorem dX11_isAll_51 : decode cX11_isAll 51 = .ok (.invokevirtual 42, 3) := by decide +kernel
theorem dX11_isAll_54 : decode cX11_isAll 54 = .ok (.ifCond .ne 7, 3) := by decide +kernel
theorem dX11_isAll_57 : decode cX11_isAll 57 = .ok (.iconst 1, 1) := by decide +kernel
theorem dX11_isAll_58 : decode cX11_isAll 58 = .ok (.goto 4, 3) := by decide +kernel
theorem dX11_isAll_61 : decode cX11_isAll 61 = .ok (.iconst 0, 1) := by decide +kernel
theorem dX11_isAll_62 : decode cX11_isAll 62 = .ok (.ireturn, 1) := by decide +kernel
theorem dX11_isLeft_0 : decode cX11_isLeft 0 = .ok (.aload_n 0, 1) := by decide +kernel
theorem dX11_isLeft_1 : decode cX11_isLeft 1 = .ok (.aload_n 0, 1) := by decide +kernel
theorem dX11_isLeft_2 : decode cX11_isLeft 2 = .ok (.iload_n 1, 1) := by decide +kernel
theorem dX11_isLeft_3 : decode cX11_isLeft 3 = .ok (.iload_n 2, 1) := by decide +kernel
theorem dX11_isLeft_4 : decode cX11_isLeft 4 = .ok (.invokevirtual 71, 3) := by decide +kernel
theorem dX11_isLeft_7 : decode cX11_isLeft 7 = .ok (.iconst 1, 1) := by decide +kernel
theorem dX11_isLeft_8 : decode cX11_isLeft 8 = .ok (.invokevirtual 42, 3) := by decide +kernel
theorem dX11_isLeft_11 : decode cX11_isLeft 11 = .ok (.ifCond .ne 7, 3) := by decide +kernel
theorem dX11_isLeft_14 : decode cX11_isLeft 14 = .ok (.iconst 1, 1) := by decide +kernel
theorem dX11_isLeft_15 : decode cX11_isLeft 15 = .ok (.goto 4, 3) := by decide +kernel
theorem dX11_isLeft_18 : decode cX11_isLeft 18 = .ok (.iconst 0, 1) := by decide +kernel
theorem dX11_isLeft_19 : decode cX11_isLeft 19 = .ok (.ireturn, 1) := by decide +kernel
theorem dX11_isOftenAlike_0 : decode cX11_isOftenAlike 0 = .ok (.aload_n 0, 1) := by decide +kernel
theorem dX11_isOftenAlike_1 : decode cX11_isOftenAlike 1 = .ok (.iload_n 1, 1) := by decide +kernel
theorem dX11_isOftenAlike_2 : decode cX11_isOftenAlike 2 = .ok (.invokevirtual 62, 3) := by decide +kernel
theorem dX11_isOftenAlike_5 : decode cX11_isOftenAlike 5 = .ok (.ifCond .ne 7, 3) := by decide +kernel
theorem dX11_isOftenAlike_8 : decode cX11_isOftenAlike 8 = .ok (.iconst 1, 1) := by decide +kernel
theorem dX11_isOftenAlike_9 : decode cX11_isOftenAlike 9 = .ok (.goto 4, 3) := by decide +kernel
theorem dX11_isOftenAlike_12 : decode cX11_isOftenAlike 12 = .ok (.iconst 0, 1) := by decide +kernel
theorem dX11_isOftenAlike_13 : decode cX11_isOftenAlike 13 = .ok (.ireturn, 1) := by decide +kernel
theorem dX11_isSound_0 : decode cX11_isSound 0 = .ok (.aload_n 0, 1) := by decide +kernel
theorem dX11_isSound_1 : decode cX11_isSound 1 = .ok (.iconst 0, 1) := by decide +kernel
theorem dX11_isSound_2 : decode cX11_isSound 2 = .ok (.putfield 30, 3) := by decide +kernel
theorem dX11_isSound_5 : decode cX11_isSound 5 = .ok (.iconst 1, 1) := by decide +kernel
theorem dX11_isSound_6 : decode cX11_isSound 6 = .ok (.ireturn, 1) := by decide +kernel
theorem dX11_checksum_0 : decode cX11_checksum 0 = .ok (.aload_n 0, 1) := by decide +kernel
theorem dX11_checksum_1 : decode cX11_checksum 1 = .ok (.iconst 0, 1) := by decide +kernel
theorem dX11_checksum_2 : decode cX11_checksum 2 = .ok (.putfield 30, 3) := by decide +kernel
theorem dX11_checksum_5 : decode cX11_checksum 5 = .ok (.ldc2_w 96, 3) := by decide +kernel
theorem dX11_checksum_8 : decode cX11_checksum 8 = .ok (.lstore_n 1, 1) := by decide +kernel
theorem dX11_checksum_9 : decode cX11_checksum 9 = .ok (.iconst 0, 1) := by decide +kernel
theorem dX11_checksum_10 : decode cX11_checksum 10 = .ok (.istore_n 3, 1) := by decide +kernel
theorem dX11_checksum_11 : decode cX11_checksum 11 = .ok (.iload_n 3, 1) := by decide +kernel
theorem dX11_checksum_12 : decode cX11_checksum 12 = .ok (.iconst 2, 1) := by decide +kernel
theorem dX11_checksum_13 : decode cX11_checksum 13 = .ok (.if_icmp .ge 105, 3) := by decide +kernel
theorem dX11_checksum_16 : decode cX11_checksum 16 = .ok (.ldc2_w 98, 3) := by decide +kernel
theorem dX11_checksum_19 : decode cX11_checksum 19 = .ok (.lload_n 1, 1) := by decide +kernel
theorem dX11_checksum_20 : decode cX11_checksum 20 = .ok (.lmul, 1) := by decide +kernel
theorem dX11_checksum_21 : decode cX11_checksum 21 = .ok (.aload_n 0, 1) := by decide +kernel
theorem dX11_checksum_22 : decode cX11_checksum 22 = .ok (.getfield 14, 3) := by decide +kernel
theorem dX11_checksum_25 : decode cX11_checksum 25 = .ok (.iload_n 3, 1) := by decide +kernel
theorem dX11_checksum_26 : decode cX11_checksum 26 = .ok (.iaload, 1) := by decide +kernel
theorem dX11_checksum_27 : decode cX11_checksum 27 = .ok (.i2l, 1) := by decide +kernel
theorem dX11_checksum_28 : decode cX11_checksum 28 = .ok (.ladd, 1) := by decide +kernel
theorem dX11_checksum_29 : decode cX11_checksum 29 = .ok (.lstore_n 1, 1) := by decide +kernel
theorem dX11_checksum_30 : decode cX11_checksum 30 = .ok (.iconst 0, 1) := by decide +kernel
theorem dX11_checksum_31 : decode cX11_checksum 31 = .ok (.istore 4, 2) := by decide +kernel
theorem dX11_checksum_33 : decode cX11_checksum 33 = .ok (.iload 4, 2) := by decide +kernel
theorem dX11_checksum_35 : decode cX11_checksum 35 = .ok (.aload_n 0, 1) := by decide +kernel
theorem dX11_checksum_36 : decode cX11_checksum 36 = .ok (.getfield 14, 3) := by decide +kernel
theorem dX11_checksum_39 : decode cX11_checksum 39 = .ok (.iload_n 3, 1) := by decide +kernel
theorem dX11_checksum_40 : decode cX11_checksum 40 = .ok (.iaload, 1) := by decide +kernel
theorem dX11_checksum_41 : decode cX11_checksum 41 = .ok (.if_icmp .ge 26, 3) := by decide +kernel
theorem dX11_checksum_44 : decode cX11_checksum 44 = .ok (.ldc2_w 98, 3) := by decide +kernel
theorem dX11_checksum_47 : decode cX11_checksum 47 = .ok (.lload_n 1, 1) := by decide +kernel
theorem dX11_checksum_48 : decode cX11_checksum 48 = .ok (.lmul, 1) := by decide +kernel
theorem dX11_checksum_49 : decode cX11_checksum 49 = .ok (.aload_n 0, 1) := by decide +kernel
theorem dX11_checksum_50 : decode cX11_checksum 50 = .ok (.getfield 11, 3) := by decide +kernel
theorem dX11_checksum_53 : decode cX11_checksum 53 = .ok (.iload_n 3, 1) := by decide +kernel
theorem dX11_checksum_54 : decode cX11_checksum 54 = .ok (.aaload, 1) := by decide +kernel
theorem dX11_checksum_55 : decode cX11_checksum 55 = .ok (.iload 4, 2) := by decide +kernel
theorem dX11_checksum_57 : decode cX11_checksum 57 = .ok (.iaload, 1) := by decide +kernel
theorem dX11_checksum_58 : decode cX11_checksum 58 = .ok (.i2l, 1) := by decide +kernel
theorem dX11_checksum_59 : decode cX11_checksum 59 = .ok (.ladd, 1) := by decide +kernel
theorem dX11_checksum_60 : decode cX11_checksum 60 = .ok (.lstore_n 1, 1) := by decide +kernel
theorem dX11_checksum_61 : decode cX11_checksum 61 = .ok (.iinc 4 1, 3) := by decide +kernel
theorem dX11_checksum_64 : decode cX11_checksum 64 = .ok (.goto (-31), 3) := by decide +kernel
theorem dX11_checksum_67 : decode cX11_checksum 67 = .ok (.aload_n 0, 1) := by decide +kernel
theorem dX11_checksum_68 : decode cX11_checksum 68 = .ok (.getfield 20, 3) := by decide +kernel
theorem dX11_checksum_71 : decode cX11_checksum 71 = .ok (.iload_n 3, 1) := by decide +kernel
theorem dX11_checksum_72 : decode cX11_checksum 72 = .ok (.aaload, 1) := by decide +kernel
theorem dX11_checksum_73 : decode cX11_checksum 73 = .ok (.astore 4, 2) := by decide +kernel
theorem dX11_checksum_75 : decode cX11_checksum 75 = .ok (.aload 4, 2) := by decide +kernel
theorem dX11_checksum_77 : decode cX11_checksum 77 = .ok (.arraylength, 1) := by decide +kernel
theorem dX11_checksum_78 : decode cX11_checksum 78 = .ok (.istore 5, 2) := by decide +kernel
theorem dX11_checksum_80 : decode cX11_checksum 80 = .ok (.iconst 0, 1) := by decide +kernel
theorem dX11_checksum_81 : decode cX11_checksum 81 = .ok (.istore 6, 2) := by decide +kernel
theorem dX11_checksum_83 : decode cX11_checksum 83 = .ok (.iload 6, 2) := by decide +kernel
theorem dX11_checksum_85 : decode cX11_checksum 85 = .ok (.iload 5, 2) := by decide +kernel
theorem dX11_checksum_87 : decode cX11_checksum 87 = .ok (.if_icmp .ge 25, 3) := by decide +kernel
theorem dX11_checksum_90 : decode cX11_checksum 90 = .ok (.aload 4, 2) := by decide +kernel
theorem dX11_checksum_92 : decode cX11_checksum 92 = .ok (.iload 6, 2) := by decide +kernel
theorem dX11_checksum_94 : decode cX11_checksum 94 = .ok (.laload, 1) := by decide +kernel
theorem dX11_checksum_95 : decode cX11_checksum 95 = .ok (.lstore 7, 2) := by decide +kernel
theorem dX11_checksum_97 : decode cX11_checksum 97 = .ok (.ldc2_w 98, 3) := by decide +kernel
theorem dX11_checksum_100 : decode cX11_checksum 100 = .ok (.lload_n 1, 1) := by decide +kernel
theorem dX11_checksum_101 : decode cX11_checksum 101 = .ok (.lmul, 1) := by decide +kernel
theorem dX11_checksum_102 : decode cX11_checksum 102 = .ok (.lload 7, 2) := by decide +kernel
theorem dX11_checksum_104 : decode cX11_checksum 104 = .ok (.ladd, 1) := by decide +kernel
theorem dX11_checksum_105 : decode cX11_checksum 105 = .ok (.lstore_n 1, 1) := by decide +kernel
theorem dX11_checksum_106 : decode cX11_checksum 106 = .ok (.iinc 6 1, 3) := by decide +kernel
theorem dX11_checksum_109 : decode cX11_checksum 109 = .ok (.goto (-26), 3) := by decide +kernel
theorem dX11_checksum_112 : decode cX11_checksum 112 = .ok (.iinc 3 1, 3) := by decide +kernel
theorem dX11_checksum_115 : decode cX11_checksum 115 = .ok (.goto (-104), 3) := by decide +kernel
theorem dX11_checksum_118 : decode cX11_checksum 118 = .ok (.lload_n 1, 1) := by decide +kernel
theorem dX11_checksum_119 : decode cX11_checksum 119 = .ok (.lreturn, 1) := by decide +kernel
