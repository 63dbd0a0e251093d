theorem dX0_init_0 : decode cX0_init 0 = .ok (.aload_n 0, 1) := by decide +kernel
theorem dX0_init_1 : decode cX0_init 1 = .ok (.invokespecial 3, 3) := by decide +kernel
theorem dX0_init_4 : decode cX0_init 4 = .ok (.iload_n 1, 1) := by decide +kernel
theorem dX0_init_5 : decode cX0_init 5 = .ok (.ifCond .le 7, 3) := by decide +kernel
theorem dX0_init_8 : decode cX0_init 8 = .ok (.iload_n 1, 1) := by decide +kernel
theorem dX0_init_9 : decode cX0_init 9 = .ok (.goto 4, 3) := by decide +kernel
theorem dX0_init_12 : decode cX0_init 12 = .ok (.iconst 0, 1) := by decide +kernel
theorem dX0_init_13 : decode cX0_init 13 = .ok (.istore_n 2, 1) := by decide +kernel
theorem dX0_init_14 : decode cX0_init 14 = .ok (.aload_n 0, 1) := by decide +kernel
theorem dX0_init_15 : decode cX0_init 15 = .ok (.iload_n 2, 1) := by decide +kernel
theorem dX0_init_16 : decode cX0_init 16 = .ok (.newarray .long, 2) := by decide +kernel
theorem dX0_init_18 : decode cX0_init 18 = .ok (.putfield 9, 3) := by decide +kernel
theorem dX0_init_21 : decode cX0_init 21 = .ok (.aload_n 0, 1) := by decide +kernel
theorem dX0_init_22 : decode cX0_init 22 = .ok (.iload_n 2, 1) := by decide +kernel
theorem dX0_init_23 : decode cX0_init 23 = .ok (.newarray .long, 2) := by decide +kernel
theorem dX0_init_25 : decode cX0_init 25 = .ok (.putfield 15, 3) := by decide +kernel
theorem dX0_init_28 : decode cX0_init 28 = .ok (.return_, 1) := by decide +kernel
theorem dX0_become_0 : decode cX0_become 0 = .ok (.iconst 0, 1) := by decide +kernel
theorem dX0_become_1 : decode cX0_become 1 = .ok (.istore_n 2, 1) := by decide +kernel
theorem dX0_become_2 : decode cX0_become 2 = .ok (.iload_n 2, 1) := by decide +kernel
theorem dX0_become_3 : decode cX0_become 3 = .ok (.aload_n 0, 1) := by decide +kernel
theorem dX0_become_4 : decode cX0_become 4 = .ok (.getfield 9, 3) := by decide +kernel
theorem dX0_become_7 : decode cX0_become 7 = .ok (.arraylength, 1) := by decide +kernel
theorem dX0_become_8 : decode cX0_become 8 = .ok (.if_icmp .ge 25, 3) := by decide +kernel
theorem dX0_become_11 : decode cX0_become 11 = .ok (.aload_n 0, 1) := by decide +kernel
theorem dX0_become_12 : decode cX0_become 12 = .ok (.getfield 9, 3) := by decide +kernel
theorem dX0_become_15 : decode cX0_become 15 = .ok (.iload_n 2, 1) := by decide +kernel
theorem dX0_become_16 : decode cX0_become 16 = .ok (.iload_n 2, 1) := by decide +kernel
theorem dX0_become_17 : decode cX0_become 17 = .ok (.ifCond .ne 8, 3) := by decide +kernel
theorem dX0_become_20 : decode cX0_become 20 = .ok (.iload_n 1, 1) := by decide +kernel
theorem dX0_become_21 : decode cX0_become 21 = .ok (.i2l, 1) := by decide +kernel
theorem dX0_become_22 : decode cX0_become 22 = .ok (.goto 4, 3) := by decide +kernel
theorem dX0_become_25 : decode cX0_become 25 = .ok (.lconst 0, 1) := by decide +kernel
theorem dX0_become_26 : decode cX0_become 26 = .ok (.lastore, 1) := by decide +kernel
theorem dX0_become_27 : decode cX0_become 27 = .ok (.iinc 2 1, 3) := by decide +kernel
theorem dX0_become_30 : decode cX0_become 30 = .ok (.goto (-28), 3) := by decide +kernel
theorem dX0_become_33 : decode cX0_become 33 = .ok (.return_, 1) := by decide +kernel
theorem dX0_setBelow_0 : decode cX0_setBelow 0 = .ok (.iconst 0, 1) := by decide +kernel
theorem dX0_setBelow_1 : decode cX0_setBelow 1 = .ok (.istore_n 2, 1) := by decide +kernel
theorem dX0_setBelow_2 : decode cX0_setBelow 2 = .ok (.iload_n 2, 1) := by decide +kernel
theorem dX0_setBelow_3 : decode cX0_setBelow 3 = .ok (.aload_n 0, 1) := by decide +kernel
theorem dX0_setBelow_4 : decode cX0_setBelow 4 = .ok (.getfield 9, 3) := by decide +kernel
theorem dX0_setBelow_7 : decode cX0_setBelow 7 = .ok (.arraylength, 1) := by decide +kernel
theorem dX0_setBelow_8 : decode cX0_setBelow 8 = .ok (.if_icmp .ge 47, 3) := by decide +kernel
theorem dX0_setBelow_11 : decode cX0_setBelow 11 = .ok (.iload_n 1, 1) := by decide +kernel
theorem dX0_setBelow_12 : decode cX0_setBelow 12 = .ok (.iload_n 2, 1) := by decide +kernel
theorem dX0_setBelow_13 : decode cX0_setBelow 13 = .ok (.bipush 64, 2) := by decide +kernel
theorem dX0_setBelow_15 : decode cX0_setBelow 15 = .ok (.imul, 1) := by decide +kernel
theorem dX0_setBelow_16 : decode cX0_setBelow 16 = .ok (.isub, 1) := by decide +kernel
theorem dX0_setBelow_17 : decode cX0_setBelow 17 = .ok (.istore_n 3, 1) := by decide +kernel
theorem dX0_setBelow_18 : decode cX0_setBelow 18 = .ok (.aload_n 0, 1) := by decide +kernel
theorem dX0_setBelow_19 : decode cX0_setBelow 19 = .ok (.getfield 9, 3) := by decide +kernel
theorem dX0_setBelow_22 : decode cX0_setBelow 22 = .ok (.iload_n 2, 1) := by decide +kernel
theorem dX0_setBelow_23 : decode cX0_setBelow 23 = .ok (.iload_n 3, 1) := by decide +kernel
theorem dX0_setBelow_24 : decode cX0_setBelow 24 = .ok (.bipush 64, 2) := by decide +kernel
theorem dX0_setBelow_26 : decode cX0_setBelow 26 = .ok (.if_icmp .lt 9, 3) := by decide +kernel
theorem dX0_setBelow_29 : decode cX0_setBelow 29 = .ok (.ldc2_w 18, 3) := by decide +kernel
theorem dX0_setBelow_32 : decode cX0_setBelow 32 = .ok (.goto 16, 3) := by decide +kernel
theorem dX0_setBelow_35 : decode cX0_setBelow 35 = .ok (.iload_n 3, 1) := by decide +kernel
theorem dX0_setBelow_36 : decode cX0_setBelow 36 = .ok (.ifCond .le 11, 3) := by decide +kernel
theorem dX0_setBelow_39 : decode cX0_setBelow 39 = .ok (.lconst 1, 1) := by decide +kernel
theorem dX0_setBelow_40 : decode cX0_setBelow 40 = .ok (.iload_n 3, 1) := by decide +kernel
theorem dX0_setBelow_41 : decode cX0_setBelow 41 = .ok (.lshl, 1) := by decide +kernel
theorem dX0_setBelow_42 : decode cX0_setBelow 42 = .ok (.lconst 1, 1) := by decide +kernel
theorem dX0_setBelow_43 : decode cX0_setBelow 43 = .ok (.lsub, 1) := by decide +kernel
theorem dX0_setBelow_44 : decode cX0_setBelow 44 = .ok (.goto 4, 3) := by decide +kernel
theorem dX0_setBelow_47 : decode cX0_setBelow 47 = .ok (.lconst 0, 1) := by decide +kernel
theorem dX0_setBelow_48 : decode cX0_setBelow 48 = .ok (.lastore, 1) := by decide +kernel
theorem dX0_setBelow_49 : decode cX0_setBelow 49 = .ok (.iinc 2 1, 3) := by decide +kernel
theorem dX0_setBelow_52 : decode cX0_setBelow 52 = .ok (.goto (-50), 3) := by decide +kernel
theorem dX0_setBelow_55 : decode cX0_setBelow 55 = .ok (.return_, 1) := by decide +kernel
theorem dX0_or_0 : decode cX0_or 0 = .ok (.aload_n 0, 1) := by decide +kernel
theorem dX0_or_1 : decode cX0_or 1 = .ok (.aload_n 1, 1) := by decide +kernel
theorem dX0_or_2 : decode cX0_or 2 = .ok (.iload_n 2, 1) := by decide +kernel
theorem dX0_or_3 : decode cX0_or 3 = .ok (.invokevirtual 20, 3) := by decide +kernel
theorem dX0_or_6 : decode cX0_or 6 = .ok (.iconst 0, 1) := by decide +kernel
theorem dX0_or_7 : decode cX0_or 7 = .ok (.istore_n 3, 1) := by decide +kernel
theorem dX0_or_8 : decode cX0_or 8 = .ok (.iload_n 3, 1) := by decide +kernel
theorem dX0_or_9 : decode cX0_or 9 = .ok (.aload_n 0, 1) := by decide +kernel
theorem dX0_or_10 : decode cX0_or 10 = .ok (.getfield 9, 3) := by decide +kernel
theorem dX0_or_13 : decode cX0_or 13 = .ok (.arraylength, 1) := by decide +kernel
theorem dX0_or_14 : decode cX0_or 14 = .ok (.if_icmp .ge 33, 3) := by decide +kernel
theorem dX0_or_17 : decode cX0_or 17 = .ok (.iload_n 3, 1) := by decide +kernel
theorem dX0_or_18 : decode cX0_or 18 = .ok (.aload_n 0, 1) := by decide +kernel
theorem dX0_or_19 : decode cX0_or 19 = .ok (.getfield 15, 3) := by decide +kernel
theorem dX0_or_22 : decode cX0_or 22 = .ok (.arraylength, 1) := by decide +kernel
theorem dX0_or_23 : decode cX0_or 23 = .ok (.if_icmp .ge 24, 3) := by decide +kernel
theorem dX0_or_26 : decode cX0_or 26 = .ok (.aload_n 0, 1) := by decide +kernel
theorem dX0_or_27 : decode cX0_or 27 = .ok (.getfield 9, 3) := by decide +kernel
theorem dX0_or_30 : decode cX0_or 30 = .ok (.iload_n 3, 1) := by decide +kernel
theorem dX0_or_31 : decode cX0_or 31 = .ok (.dup2, 1) := by decide +kernel
theorem dX0_or_32 : decode cX0_or 32 = .ok (.laload, 1) := by decide +kernel
theorem dX0_or_33 : decode cX0_or 33 = .ok (.aload_n 0, 1) := by decide +kernel
theorem dX0_or_34 : decode cX0_or 34 = .ok (.getfield 15, 3) := by decide +kernel
theorem dX0_or_37 : decode cX0_or 37 = .ok (.iload_n 3, 1) := by decide +kernel
theorem dX0_or_38 : decode cX0_or 38 = .ok (.laload, 1) := by decide +kernel
theorem dX0_or_39 : decode cX0_or 39 = .ok (.lor, 1) := by decide +kernel
theorem dX0_or_40 : decode cX0_or 40 = .ok (.lastore, 1) := by decide +kernel
theorem dX0_or_41 : decode cX0_or 41 = .ok (.iinc 3 1, 3) := by decide +kernel
theorem dX0_or_44 : decode cX0_or 44 = .ok (.goto (-36), 3) := by decide +kernel
theorem dX0_or_47 : decode cX0_or 47 = .ok (.return_, 1) := by decide +kernel
theorem dX0_and_0 : decode cX0_and 0 = .ok (.aload_n 0, 1) := by decide +kernel
theorem dX0_and_1 : decode cX0_and 1 = .ok (.aload_n 1, 1) := by decide +kernel
theorem dX0_and_2 : decode cX0_and 2 = .ok (.iload_n 2, 1) := by decide +kernel
theorem dX0_and_3 : decode cX0_and 3 = .ok (.invokevirtual 20, 3) := by decide +kernel
theorem dX0_and_6 : decode cX0_and 6 = .ok (.iconst 0, 1) := by decide +kernel
theorem dX0_and_7 : decode cX0_and 7 = .ok (.istore_n 3, 1) := by decide +kernel
theorem dX0_and_8 : decode cX0_and 8 = .ok (.iload_n 3, 1) := by decide +kernel
theorem dX0_and_9 : decode cX0_and 9 = .ok (.aload_n 0, 1) := by decide +kernel
theorem dX0_and_10 : decode cX0_and 10 = .ok (.getfield 9, 3) := by decide +kernel
theorem dX0_and_13 : decode cX0_and 13 = .ok (.arraylength, 1) := by decide +kernel
theorem dX0_and_14 : decode cX0_and 14 = .ok (.if_icmp .ge 33, 3) := by decide +kernel
theorem dX0_and_17 : decode cX0_and 17 = .ok (.iload_n 3, 1) := by decide +kernel
theorem dX0_and_18 : decode cX0_and 18 = .ok (.aload_n 0, 1) := by decide +kernel
theorem dX0_and_19 : decode cX0_and 19 = .ok (.getfield 15, 3) := by decide +kernel
theorem dX0_and_22 : decode cX0_and 22 = .ok (.arraylength, 1) := by decide +kernel
theorem dX0_and_23 : decode cX0_and 23 = .ok (.if_icmp .ge 24, 3) := by decide +kernel
theorem dX0_and_26 : decode cX0_and 26 = .ok (.aload_n 0, 1) := by decide +kernel
theorem dX0_and_27 : decode cX0_and 27 = .ok (.getfield 9, 3) := by decide +kernel
theorem dX0_and_30 : decode cX0_and 30 = .ok (.iload_n 3, 1) := by decide +kernel
theorem dX0_and_31 : decode cX0_and 31 = .ok (.dup2, 1) := by decide +kernel
theorem dX0_and_32 : decode cX0_and 32 = .ok (.laload, 1) := by decide +kernel
theorem dX0_and_33 : decode cX0_and 33 = .ok (.aload_n 0, 1) := by decide +kernel
theorem dX0_and_34 : decode cX0_and 34 = .ok (.getfield 15, 3) := by decide +kernel
theorem dX0_and_37 : decode cX0_and 37 = .ok (.iload_n 3, 1) := by decide +kernel
theorem dX0_and_38 : decode cX0_and 38 = .ok (.laload, 1) := by decide +kernel
theorem dX0_and_39 : decode cX0_and 39 = .ok (.land, 1) := by decide +kernel
theorem dX0_and_40 : decode cX0_and 40 = .ok (.lastore, 1) := by decide +kernel
theorem dX0_and_41 : decode cX0_and 41 = .ok (.iinc 3 1, 3) := by decide +kernel
theorem dX0_and_44 : decode cX0_and 44 = .ok (.goto (-36), 3) := by decide +kernel
theorem dX0_and_47 : decode cX0_and 47 = .ok (.return_, 1) := by decide +kernel
theorem dX0_xor_0 : decode cX0_xor 0 = .ok (.iconst 0, 1) := by decide +kernel
theorem dX0_xor_1 : decode cX0_xor 1 = .ok (.istore_n 2, 1) := by decide +kernel
theorem dX0_xor_2 : decode cX0_xor 2 = .ok (.iload_n 2, 1) := by decide +kernel
theorem dX0_xor_3 : decode cX0_xor 3 = .ok (.aload_n 0, 1) := by decide +kernel
theorem dX0_xor_4 : decode cX0_xor 4 = .ok (.getfield 9, 3) := by decide +kernel
theorem dX0_xor_7 : decode cX0_xor 7 = .ok (.arraylength, 1) := by decide +kernel
theorem dX0_xor_8 : decode cX0_xor 8 = .ok (.if_icmp .ge 23, 3) := by decide +kernel
theorem dX0_xor_11 : decode cX0_xor 11 = .ok (.aload_n 0, 1) := by decide +kernel
theorem dX0_xor_12 : decode cX0_xor 12 = .ok (.getfield 9, 3) := by decide +kernel
theorem dX0_xor_15 : decode cX0_xor 15 = .ok (.iload_n 2, 1) := by decide +kernel
theorem dX0_xor_16 : decode cX0_xor 16 = .ok (.dup2, 1) := by decide +kernel
theorem dX0_xor_17 : decode cX0_xor 17 = .ok (.laload, 1) := by decide +kernel
theorem dX0_xor_18 : decode cX0_xor 18 = .ok (.aload_n 1, 1) := by decide +kernel
theorem dX0_xor_19 : decode cX0_xor 19 = .ok (.iload_n 2, 1) := by decide +kernel
theorem dX0_xor_20 : decode cX0_xor 20 = .ok (.invokevirtual 24, 3) := by decide +kernel
theorem dX0_xor_23 : decode cX0_xor 23 = .ok (.lxor, 1) := by decide +kernel
theorem dX0_xor_24 : decode cX0_xor 24 = .ok (.lastore, 1) := by decide +kernel
theorem dX0_xor_25 : decode cX0_xor 25 = .ok (.iinc 2 1, 3) := by decide +kernel
theorem dX0_xor_28 : decode cX0_xor 28 = .ok (.goto (-26), 3) := by decide +kernel
theorem dX0_xor_31 : decode cX0_xor 31 = .ok (.return_, 1) := by decide +kernel
theorem dX0_andNot_0 : decode cX0_andNot 0 = .ok (.iconst 0, 1) := by decide +kernel
theorem dX0_andNot_1 : decode cX0_andNot 1 = .ok (.istore_n 2, 1) := by decide +kernel
theorem dX0_andNot_2 : decode cX0_andNot 2 = .ok (.iload_n 2, 1) := by decide +kernel
theorem dX0_andNot_3 : decode cX0_andNot 3 = .ok (.aload_n 0, 1) := by decide +kernel
theorem dX0_andNot_4 : decode cX0_andNot 4 = .ok (.getfield 9, 3) := by decide +kernel
theorem dX0_andNot_7 : decode cX0_andNot 7 = .ok (.arraylength, 1) := by decide +kernel
theorem dX0_andNot_8 : decode cX0_andNot 8 = .ok (.if_icmp .ge 27, 3) := by decide +kernel
theorem dX0_andNot_11 : decode cX0_andNot 11 = .ok (.aload_n 0, 1) := by decide +kernel
theorem dX0_andNot_12 : decode cX0_andNot 12 = .ok (.getfield 9, 3) := by decide +kernel
theorem dX0_andNot_15 : decode cX0_andNot 15 = .ok (.iload_n 2, 1) := by decide +kernel
theorem dX0_andNot_16 : decode cX0_andNot 16 = .ok (.dup2, 1) := by decide +kernel
theorem dX0_andNot_17 : decode cX0_andNot 17 = .ok (.laload, 1) := by decide +kernel
theorem dX0_andNot_18 : decode cX0_andNot 18 = .ok (.aload_n 1, 1) := by decide +kernel
theorem dX0_andNot_19 : decode cX0_andNot 19 = .ok (.iload_n 2, 1) := by decide +kernel
theorem dX0_andNot_20 : decode cX0_andNot 20 = .ok (.invokevirtual 24, 3) := by decide +kernel
theorem dX0_andNot_23 : decode cX0_andNot 23 = .ok (.ldc2_w 18, 3) := by decide +kernel
theorem dX0_andNot_26 : decode cX0_andNot 26 = .ok (.lxor, 1) := by decide +kernel
theorem dX0_andNot_27 : decode cX0_andNot 27 = .ok (.land, 1) := by decide +kernel
theorem dX0_andNot_28 : decode cX0_andNot 28 = .ok (.lastore, 1) := by decide +kernel
theorem dX0_andNot_29 : decode cX0_andNot 29 = .ok (.iinc 2 1, 3) := by decide +kernel
theorem dX0_andNot_32 : decode cX0_andNot 32 = .ok (.goto (-30), 3) := by decide +kernel
theorem dX0_andNot_35 : decode cX0_andNot 35 = .ok (.return_, 1) := by decide +kernel
theorem dX0_plus_0 : decode cX0_plus 0 = .ok (.aload_n 0, 1) := by decide +kernel
theorem dX0_plus_1 : decode cX0_plus 1 = .ok (.aload_n 1, 1) := by decide +kernel
theorem dX0_plus_2 : decode cX0_plus 2 = .ok (.iload_n 2, 1) := by decide +kernel
theorem dX0_plus_3 : decode cX0_plus 3 = .ok (.invokevirtual 20, 3) := by decide +kernel
theorem dX0_plus_6 : decode cX0_plus 6 = .ok (.lconst 0, 1) := by decide +kernel
theorem dX0_plus_7 : decode cX0_plus 7 = .ok (.lstore_n 3, 1) := by decide +kernel
theorem dX0_plus_8 : decode cX0_plus 8 = .ok (.iconst 0, 1) := by decide +kernel
theorem dX0_plus_9 : decode cX0_plus 9 = .ok (.istore 5, 2) := by decide +kernel
theorem dX0_plus_11 : decode cX0_plus 11 = .ok (.iload 5, 2) := by decide +kernel
theorem dX0_plus_13 : decode cX0_plus 13 = .ok (.aload_n 0, 1) := by decide +kernel
theorem dX0_plus_14 : decode cX0_plus 14 = .ok (.getfield 9, 3) := by decide +kernel
theorem dX0_plus_17 : decode cX0_plus 17 = .ok (.arraylength, 1) := by decide +kernel
theorem dX0_plus_18 : decode cX0_plus 18 = .ok (.if_icmp .ge 77, 3) := by decide +kernel
theorem dX0_plus_21 : decode cX0_plus 21 = .ok (.iload 5, 2) := by decide +kernel
theorem dX0_plus_23 : decode cX0_plus 23 = .ok (.aload_n 0, 1) := by decide +kernel
theorem dX0_plus_24 : decode cX0_plus 24 = .ok (.getfield 15, 3) := by decide +kernel
theorem dX0_plus_27 : decode cX0_plus 27 = .ok (.arraylength, 1) := by decide +kernel
theorem dX0_plus_28 : decode cX0_plus 28 = .ok (.if_icmp .ge 67, 3) := by decide +kernel
theorem dX0_plus_31 : decode cX0_plus 31 = .ok (.aload_n 0, 1) := by decide +kernel
theorem dX0_plus_32 : decode cX0_plus 32 = .ok (.getfield 9, 3) := by decide +kernel
theorem dX0_plus_35 : decode cX0_plus 35 = .ok (.iload 5, 2) := by decide +kernel
theorem dX0_plus_37 : decode cX0_plus 37 = .ok (.laload, 1) := by decide +kernel
theorem dX0_plus_38 : decode cX0_plus 38 = .ok (.lstore 6, 2) := by decide +kernel
theorem dX0_plus_40 : decode cX0_plus 40 = .ok (.aload_n 0, 1) := by decide +kernel
theorem dX0_plus_41 : decode cX0_plus 41 = .ok (.getfield 15, 3) := by decide +kernel
theorem dX0_plus_44 : decode cX0_plus 44 = .ok (.iload 5, 2) := by decide +kernel
theorem dX0_plus_46 : decode cX0_plus 46 = .ok (.laload, 1) := by decide +kernel
theorem dX0_plus_47 : decode cX0_plus 47 = .ok (.lstore 8, 2) := by decide +kernel
theorem dX0_plus_49 : decode cX0_plus 49 = .ok (.lload 6, 2) := by decide +kernel
theorem dX0_plus_51 : decode cX0_plus 51 = .ok (.lload 8, 2) := by decide +kernel
theorem dX0_plus_53 : decode cX0_plus 53 = .ok (.ladd, 1) := by decide +kernel
theorem dX0_plus_54 : decode cX0_plus 54 = .ok (.lload_n 3, 1) := by decide +kernel
theorem dX0_plus_55 : decode cX0_plus 55 = .ok (.ladd, 1) := by decide +kernel
theorem dX0_plus_56 : decode cX0_plus 56 = .ok (.lstore 10, 2) := by decide +kernel
theorem dX0_plus_58 : decode cX0_plus 58 = .ok (.lload 6, 2) := by decide +kernel
theorem dX0_plus_60 : decode cX0_plus 60 = .ok (.lload 8, 2) := by decide +kernel
theorem dX0_plus_62 : decode cX0_plus 62 = .ok (.land, 1) := by decide +kernel
theorem dX0_plus_63 : decode cX0_plus 63 = .ok (.lload 6, 2) := by decide +kernel
theorem dX0_plus_65 : decode cX0_plus 65 = .ok (.lload 8, 2) := by decide +kernel
theorem dX0_plus_67 : decode cX0_plus 67 = .ok (.lor, 1) := by decide +kernel
theorem dX0_plus_68 : decode cX0_plus 68 = .ok (.lload 10, 2) := by decide +kernel
theorem dX0_plus_70 : decode cX0_plus 70 = .ok (.ldc2_w 18, 3) := by decide +kernel
theorem dX0_plus_73 : decode cX0_plus 73 = .ok (.lxor, 1) := by decide +kernel
theorem dX0_plus_74 : decode cX0_plus 74 = .ok (.land, 1) := by decide +kernel
theorem dX0_plus_75 : decode cX0_plus 75 = .ok (.lor, 1) := by decide +kernel
theorem dX0_plus_76 : decode cX0_plus 76 = .ok (.bipush 63, 2) := by decide +kernel
theorem dX0_plus_78 : decode cX0_plus 78 = .ok (.lushr, 1) := by decide +kernel
theorem dX0_plus_79 : decode cX0_plus 79 = .ok (.lstore_n 3, 1) := by decide +kernel
theorem dX0_plus_80 : decode cX0_plus 80 = .ok (.aload_n 0, 1) := by decide +kernel
theorem dX0_plus_81 : decode cX0_plus 81 = .ok (.getfield 9, 3) := by decide +kernel
theorem dX0_plus_84 : decode cX0_plus 84 = .ok (.iload 5, 2) := by decide +kernel
theorem dX0_plus_86 : decode cX0_plus 86 = .ok (.lload 10, 2) := by decide +kernel
theorem dX0_plus_88 : decode cX0_plus 88 = .ok (.lastore, 1) := by decide +kernel
theorem dX0_plus_89 : decode cX0_plus 89 = .ok (.iinc 5 1, 3) := by decide +kernel
theorem dX0_plus_92 : decode cX0_plus 92 = .ok (.goto (-81), 3) := by decide +kernel
theorem dX0_plus_95 : decode cX0_plus 95 = .ok (.return_, 1) := by decide +kernel
theorem dX0_isSet_0 : decode cX0_isSet 0 = .ok (.aload_n 0, 1) := by decide +kernel
theorem dX0_isSet_1 : decode cX0_isSet 1 = .ok (.iload_n 1, 1) := by decide +kernel
theorem dX0_isSet_2 : decode cX0_isSet 2 = .ok (.bipush 6, 2) := by decide +kernel
theorem dX0_isSet_4 : decode cX0_isSet 4 = .ok (.ishr, 1) := by decide +kernel
theorem dX0_isSet_5 : decode cX0_isSet 5 = .ok (.invokevirtual 24, 3) := by decide +kernel
theorem dX0_isSet_8 : decode cX0_isSet 8 = .ok (.iload_n 1, 1) := by decide +kernel
theorem dX0_isSet_9 : decode cX0_isSet 9 = .ok (.bipush 63, 2) := by decide +kernel
theorem dX0_isSet_11 : decode cX0_isSet 11 = .ok (.iand, 1) := by decide +kernel
theorem dX0_isSet_12 : decode cX0_isSet 12 = .ok (.lushr, 1) := by decide +kernel
theorem dX0_isSet_13 : decode cX0_isSet 13 = .ok (.lconst 1, 1) := by decide +kernel
theorem dX0_isSet_14 : decode cX0_isSet 14 = .ok (.land, 1) := by decide +kernel
theorem dX0_isSet_15 : decode cX0_isSet 15 = .ok (.lconst 0, 1) := by decide +kernel
theorem dX0_isSet_16 : decode cX0_isSet 16 = .ok (.lcmp, 1) := by decide +kernel
theorem dX0_isSet_17 : decode cX0_isSet 17 = .ok (.ifCond .eq 7, 3) := by decide +kernel
theorem dX0_isSet_20 : decode cX0_isSet 20 = .ok (.iconst 1, 1) := by decide +kernel
theorem dX0_isSet_21 : decode cX0_isSet 21 = .ok (.goto 4, 3) := by decide +kernel
theorem dX0_isSet_24 : decode cX0_isSet 24 = .ok (.iconst 0, 1) := by decide +kernel
theorem dX0_isSet_25 : decode cX0_isSet 25 = .ok (.ireturn, 1) := by decide +kernel
theorem dX0_fieldAt_0 : decode cX0_fieldAt 0 = .ok (.iload_n 1, 1) := by decide +kernel
theorem dX0_fieldAt_1 : decode cX0_fieldAt 1 = .ok (.bipush 6, 2) := by decide +kernel
theorem dX0_fieldAt_3 : decode cX0_fieldAt 3 = .ok (.ishr, 1) := by decide +kernel
theorem dX0_fieldAt_4 : decode cX0_fieldAt 4 = .ok (.istore_n 2, 1) := by decide +kernel
theorem dX0_fieldAt_5 : decode cX0_fieldAt 5 = .ok (.iload_n 1, 1) := by decide +kernel
theorem dX0_fieldAt_6 : decode cX0_fieldAt 6 = .ok (.bipush 63, 2) := by decide +kernel
theorem dX0_fieldAt_8 : decode cX0_fieldAt 8 = .ok (.iand, 1) := by decide +kernel
theorem dX0_fieldAt_9 : decode cX0_fieldAt 9 = .ok (.istore_n 3, 1) := by decide +kernel
theorem dX0_fieldAt_10 : decode cX0_fieldAt 10 = .ok (.aload_n 0, 1) := by decide +kernel
theorem dX0_fieldAt_11 : decode cX0_fieldAt 11 = .ok (.iload_n 2, 1) := by decide +kernel
theorem dX0_fieldAt_12 : decode cX0_fieldAt 12 = .ok (.invokevirtual 24, 3) := by decide +kernel
theorem dX0_fieldAt_15 : decode cX0_fieldAt 15 = .ok (.iload_n 3, 1) := by decide +kernel
theorem dX0_fieldAt_16 : decode cX0_fieldAt 16 = .ok (.lushr, 1) := by decide +kernel
theorem dX0_fieldAt_17 : decode cX0_fieldAt 17 = .ok (.lstore 4, 2) := by decide +kernel
theorem dX0_fieldAt_19 : decode cX0_fieldAt 19 = .ok (.iload_n 3, 1) := by decide +kernel
theorem dX0_fieldAt_20 : decode cX0_fieldAt 20 = .ok (.ifCond .ne 8, 3) := by decide +kernel
theorem dX0_fieldAt_23 : decode cX0_fieldAt 23 = .ok (.lload 4, 2) := by decide +kernel
theorem dX0_fieldAt_25 : decode cX0_fieldAt 25 = .ok (.goto 18, 3) := by decide +kernel
theorem dX0_fieldAt_28 : decode cX0_fieldAt 28 = .ok (.lload 4, 2) := by decide +kernel
theorem dX0_fieldAt_30 : decode cX0_fieldAt 30 = .ok (.aload_n 0, 1) := by decide +kernel
theorem dX0_fieldAt_31 : decode cX0_fieldAt 31 = .ok (.iload_n 2, 1) := by decide +kernel
theorem dX0_fieldAt_32 : decode cX0_fieldAt 32 = .ok (.iconst 1, 1) := by decide +kernel
theorem dX0_fieldAt_33 : decode cX0_fieldAt 33 = .ok (.iadd, 1) := by decide +kernel
theorem dX0_fieldAt_34 : decode cX0_fieldAt 34 = .ok (.invokevirtual 24, 3) := by decide +kernel
theorem dX0_fieldAt_37 : decode cX0_fieldAt 37 = .ok (.bipush 64, 2) := by decide +kernel
theorem dX0_fieldAt_39 : decode cX0_fieldAt 39 = .ok (.iload_n 3, 1) := by decide +kernel
theorem dX0_fieldAt_40 : decode cX0_fieldAt 40 = .ok (.isub, 1) := by decide +kernel
theorem dX0_fieldAt_41 : decode cX0_fieldAt 41 = .ok (.lshl, 1) := by decide +kernel
theorem dX0_fieldAt_42 : decode cX0_fieldAt 42 = .ok (.lor, 1) := by decide +kernel
theorem dX0_fieldAt_43 : decode cX0_fieldAt 43 = .ok (.lreturn, 1) := by decide +kernel
theorem dX0_countSet_0 : decode cX0_countSet 0 = .ok (.iconst 0, 1) := by decide +kernel
theorem dX0_countSet_1 : decode cX0_countSet 1 = .ok (.istore_n 1, 1) := by decide +kernel
theorem dX0_countSet_2 : decode cX0_countSet 2 = .ok (.iconst 0, 1) := by decide +kernel
theorem dX0_countSet_3 : decode cX0_countSet 3 = .ok (.istore_n 2, 1) := by decide +kernel
theorem dX0_countSet_4 : decode cX0_countSet 4 = .ok (.iload_n 2, 1) := by decide +kernel
theorem dX0_countSet_5 : decode cX0_countSet 5 = .ok (.aload_n 0, 1) := by decide +kernel
theorem dX0_countSet_6 : decode cX0_countSet 6 = .ok (.getfield 9, 3) := by decide +kernel
theorem dX0_countSet_9 : decode cX0_countSet 9 = .ok (.arraylength, 1) := by decide +kernel
theorem dX0_countSet_10 : decode cX0_countSet 10 = .ok (.if_icmp .ge 21, 3) := by decide +kernel
theorem dX0_countSet_13 : decode cX0_countSet 13 = .ok (.iload_n 1, 1) := by decide +kernel
theorem dX0_countSet_14 : decode cX0_countSet 14 = .ok (.aload_n 0, 1) := by decide +kernel
theorem dX0_countSet_15 : decode cX0_countSet 15 = .ok (.getfield 9, 3) := by decide +kernel
theorem dX0_countSet_18 : decode cX0_countSet 18 = .ok (.iload_n 2, 1) := by decide +kernel
theorem dX0_countSet_19 : decode cX0_countSet 19 = .ok (.laload, 1) := by decide +kernel
theorem dX0_countSet_20 : decode cX0_countSet 20 = .ok (.invokestatic 28, 3) := by decide +kernel
theorem dX0_countSet_23 : decode cX0_countSet 23 = .ok (.iadd, 1) := by decide +kernel
theorem dX0_countSet_24 : decode cX0_countSet 24 = .ok (.istore_n 1, 1) := by decide +kernel
theorem dX0_countSet_25 : decode cX0_countSet 25 = .ok (.iinc 2 1, 3) := by decide +kernel
theorem dX0_countSet_28 : decode cX0_countSet 28 = .ok (.goto (-24), 3) := by decide +kernel
theorem dX0_countSet_31 : decode cX0_countSet 31 = .ok (.iload_n 1, 1) := by decide +kernel
theorem dX0_countSet_32 : decode cX0_countSet 32 = .ok (.ireturn, 1) := by decide +kernel
theorem dX0_endOfSet_0 : decode cX0_endOfSet 0 = .ok (.aload_n 0, 1) := by decide +kernel
theorem dX0_endOfSet_1 : decode cX0_endOfSet 1 = .ok (.getfield 9, 3) := by decide +kernel
theorem dX0_endOfSet_4 : decode cX0_endOfSet 4 = .ok (.arraylength, 1) := by decide +kernel
theorem dX0_endOfSet_5 : decode cX0_endOfSet 5 = .ok (.bipush 64, 2) := by decide +kernel
theorem dX0_endOfSet_7 : decode cX0_endOfSet 7 = .ok (.imul, 1) := by decide +kernel
theorem dX0_endOfSet_8 : decode cX0_endOfSet 8 = .ok (.istore_n 1, 1) := by decide +kernel
theorem dX0_endOfSet_9 : decode cX0_endOfSet 9 = .ok (.iload_n 1, 1) := by decide +kernel
theorem dX0_endOfSet_10 : decode cX0_endOfSet 10 = .ok (.ifCond .le 19, 3) := by decide +kernel
theorem dX0_endOfSet_13 : decode cX0_endOfSet 13 = .ok (.aload_n 0, 1) := by decide +kernel
theorem dX0_endOfSet_14 : decode cX0_endOfSet 14 = .ok (.iload_n 1, 1) := by decide +kernel
theorem dX0_endOfSet_15 : decode cX0_endOfSet 15 = .ok (.iconst 1, 1) := by decide +kernel
theorem dX0_endOfSet_16 : decode cX0_endOfSet 16 = .ok (.isub, 1) := by decide +kernel
theorem dX0_endOfSet_17 : decode cX0_endOfSet 17 = .ok (.invokevirtual 34, 3) := by decide +kernel
theorem dX0_endOfSet_20 : decode cX0_endOfSet 20 = .ok (.ifCond .ne 9, 3) := by decide +kernel
theorem dX0_endOfSet_23 : decode cX0_endOfSet 23 = .ok (.iinc 1 (-1), 3) := by decide +kernel
theorem dX0_endOfSet_26 : decode cX0_endOfSet 26 = .ok (.goto (-17), 3) := by decide +kernel
theorem dX0_endOfSet_29 : decode cX0_endOfSet 29 = .ok (.iload_n 1, 1) := by decide +kernel
theorem dX0_endOfSet_30 : decode cX0_endOfSet 30 = .ok (.ireturn, 1) := by decide +kernel
theorem dX0_hasBitsOf_0 : decode cX0_hasBitsOf 0 = .ok (.iconst 0, 1) := by decide +kernel
theorem dX0_hasBitsOf_1 : decode cX0_hasBitsOf 1 = .ok (.istore_n 2, 1) := by decide +kernel
theorem dX0_hasBitsOf_2 : decode cX0_hasBitsOf 2 = .ok (.iload_n 2, 1) := by decide +kernel
theorem dX0_hasBitsOf_3 : decode cX0_hasBitsOf 3 = .ok (.aload_n 0, 1) := by decide +kernel
theorem dX0_hasBitsOf_4 : decode cX0_hasBitsOf 4 = .ok (.getfield 9, 3) := by decide +kernel
theorem dX0_hasBitsOf_7 : decode cX0_hasBitsOf 7 = .ok (.arraylength, 1) := by decide +kernel
theorem dX0_hasBitsOf_8 : decode cX0_hasBitsOf 8 = .ok (.if_icmp .ge 26, 3) := by decide +kernel
theorem dX0_hasBitsOf_11 : decode cX0_hasBitsOf 11 = .ok (.aload_n 0, 1) := by decide +kernel
theorem dX0_hasBitsOf_12 : decode cX0_hasBitsOf 12 = .ok (.getfield 9, 3) := by decide +kernel
theorem dX0_hasBitsOf_15 : decode cX0_hasBitsOf 15 = .ok (.iload_n 2, 1) := by decide +kernel
theorem dX0_hasBitsOf_16 : decode cX0_hasBitsOf 16 = .ok (.laload, 1) := by decide +kernel
theorem dX0_hasBitsOf_17 : decode cX0_hasBitsOf 17 = .ok (.aload_n 1, 1) := by decide +kernel
theorem dX0_hasBitsOf_18 : decode cX0_hasBitsOf 18 = .ok (.iload_n 2, 1) := by decide +kernel
theorem dX0_hasBitsOf_19 : decode cX0_hasBitsOf 19 = .ok (.invokevirtual 24, 3) := by decide +kernel
theorem dX0_hasBitsOf_22 : decode cX0_hasBitsOf 22 = .ok (.lcmp, 1) := by decide +kernel
theorem dX0_hasBitsOf_23 : decode cX0_hasBitsOf 23 = .ok (.ifCond .eq 5, 3) := by decide +kernel
theorem dX0_hasBitsOf_26 : decode cX0_hasBitsOf 26 = .ok (.iconst 0, 1) := by decide +kernel
theorem dX0_hasBitsOf_27 : decode cX0_hasBitsOf 27 = .ok (.ireturn, 1) := by decide +kernel
theorem dX0_hasBitsOf_28 : decode cX0_hasBitsOf 28 = .ok (.iinc 2 1, 3) := by decide +kernel
theorem dX0_hasBitsOf_31 : decode cX0_hasBitsOf 31 = .ok (.goto (-29), 3) := by decide +kernel
theorem dX0_hasBitsOf_34 : decode cX0_hasBitsOf 34 = .ok (.aload_n 0, 1) := by decide +kernel
theorem dX0_hasBitsOf_35 : decode cX0_hasBitsOf 35 = .ok (.getfield 9, 3) := by decide +kernel
theorem dX0_hasBitsOf_38 : decode cX0_hasBitsOf 38 = .ok (.arraylength, 1) := by decide +kernel
theorem dX0_hasBitsOf_39 : decode cX0_hasBitsOf 39 = .ok (.aload_n 1, 1) := by decide +kernel
theorem dX0_hasBitsOf_40 : decode cX0_hasBitsOf 40 = .ok (.getfield 9, 3) := by decide +kernel
theorem dX0_hasBitsOf_43 : decode cX0_hasBitsOf 43 = .ok (.arraylength, 1) := by decide +kernel
theorem dX0_hasBitsOf_44 : decode cX0_hasBitsOf 44 = .ok (.if_icmp .ne 7, 3) := by decide +kernel
theorem dX0_hasBitsOf_47 : decode cX0_hasBitsOf 47 = .ok (.iconst 1, 1) := by decide +kernel
theorem dX0_hasBitsOf_48 : decode cX0_hasBitsOf 48 = .ok (.goto 4, 3) := by decide +kernel
theorem dX0_hasBitsOf_51 : decode cX0_hasBitsOf 51 = .ok (.iconst 0, 1) := by decide +kernel
theorem dX0_hasBitsOf_52 : decode cX0_hasBitsOf 52 = .ok (.ireturn, 1) := by decide +kernel
theorem dX0_shift_0 : decode cX0_shift 0 = .ok (.iload_n 2, 1) := by decide +kernel
theorem dX0_shift_1 : decode cX0_shift 1 = .ok (.bipush 6, 2) := by decide +kernel
theorem dX0_shift_3 : decode cX0_shift 3 = .ok (.ishr, 1) := by decide +kernel
theorem dX0_shift_4 : decode cX0_shift 4 = .ok (.istore_n 3, 1) := by decide +kernel
theorem dX0_shift_5 : decode cX0_shift 5 = .ok (.iload_n 2, 1) := by decide +kernel
theorem dX0_shift_6 : decode cX0_shift 6 = .ok (.bipush 63, 2) := by decide +kernel
theorem dX0_shift_8 : decode cX0_shift 8 = .ok (.iand, 1) := by decide +kernel
theorem dX0_shift_9 : decode cX0_shift 9 = .ok (.istore 4, 2) := by decide +kernel
theorem dX0_shift_11 : decode cX0_shift 11 = .ok (.iconst 0, 1) := by decide +kernel
theorem dX0_shift_12 : decode cX0_shift 12 = .ok (.istore 5, 2) := by decide +kernel
theorem dX0_shift_14 : decode cX0_shift 14 = .ok (.iload 5, 2) := by decide +kernel
theorem dX0_shift_16 : decode cX0_shift 16 = .ok (.aload_n 0, 1) := by decide +kernel
theorem dX0_shift_17 : decode cX0_shift 17 = .ok (.getfield 15, 3) := by decide +kernel
theorem dX0_shift_20 : decode cX0_shift 20 = .ok (.arraylength, 1) := by decide +kernel
theorem dX0_shift_21 : decode cX0_shift 21 = .ok (.if_icmp .ge 54, 3) := by decide +kernel
theorem dX0_shift_24 : decode cX0_shift 24 = .ok (.aload_n 1, 1) := by decide +kernel
theorem dX0_shift_25 : decode cX0_shift 25 = .ok (.iload 5, 2) := by decide +kernel
theorem dX0_shift_27 : decode cX0_shift 27 = .ok (.iload_n 3, 1) := by decide +kernel
theorem dX0_shift_28 : decode cX0_shift 28 = .ok (.isub, 1) := by decide +kernel
theorem dX0_shift_29 : decode cX0_shift 29 = .ok (.invokevirtual 24, 3) := by decide +kernel
theorem dX0_shift_32 : decode cX0_shift 32 = .ok (.iload 4, 2) := by decide +kernel
theorem dX0_shift_34 : decode cX0_shift 34 = .ok (.lshl, 1) := by decide +kernel
theorem dX0_shift_35 : decode cX0_shift 35 = .ok (.lstore 6, 2) := by decide +kernel
theorem dX0_shift_37 : decode cX0_shift 37 = .ok (.aload_n 1, 1) := by decide +kernel
theorem dX0_shift_38 : decode cX0_shift 38 = .ok (.iload 5, 2) := by decide +kernel
theorem dX0_shift_40 : decode cX0_shift 40 = .ok (.iload_n 3, 1) := by decide +kernel
theorem dX0_shift_41 : decode cX0_shift 41 = .ok (.isub, 1) := by decide +kernel
theorem dX0_shift_42 : decode cX0_shift 42 = .ok (.iconst 1, 1) := by decide +kernel
theorem dX0_shift_43 : decode cX0_shift 43 = .ok (.isub, 1) := by decide +kernel
theorem dX0_shift_44 : decode cX0_shift 44 = .ok (.invokevirtual 24, 3) := by decide +kernel
theorem dX0_shift_47 : decode cX0_shift 47 = .ok (.bipush 63, 2) := by decide +kernel
theorem dX0_shift_49 : decode cX0_shift 49 = .ok (.iload 4, 2) := by decide +kernel
theorem dX0_shift_51 : decode cX0_shift 51 = .ok (.isub, 1) := by decide +kernel
theorem dX0_shift_52 : decode cX0_shift 52 = .ok (.lushr, 1) := by decide +kernel
theorem dX0_shift_53 : decode cX0_shift 53 = .ok (.iconst 1, 1) := by decide +kernel
theorem dX0_shift_54 : decode cX0_shift 54 = .ok (.lushr, 1) := by decide +kernel
theorem dX0_shift_55 : decode cX0_shift 55 = .ok (.lstore 8, 2) := by decide +kernel
theorem dX0_shift_57 : decode cX0_shift 57 = .ok (.aload_n 0, 1) := by decide +kernel
theorem dX0_shift_58 : decode cX0_shift 58 = .ok (.getfield 15, 3) := by decide +kernel
theorem dX0_shift_61 : decode cX0_shift 61 = .ok (.iload 5, 2) := by decide +kernel
theorem dX0_shift_63 : decode cX0_shift 63 = .ok (.lload 6, 2) := by decide +kernel
theorem dX0_shift_65 : decode cX0_shift 65 = .ok (.lload 8, 2) := by decide +kernel
theorem dX0_shift_67 : decode cX0_shift 67 = .ok (.lor, 1) := by decide +kernel
theorem dX0_shift_68 : decode cX0_shift 68 = .ok (.lastore, 1) := by decide +kernel
theorem dX0_shift_69 : decode cX0_shift 69 = .ok (.iinc 5 1, 3) := by decide +kernel
theorem dX0_shift_72 : decode cX0_shift 72 = .ok (.goto (-58), 3) := by decide +kernel
theorem dX0_shift_75 : decode cX0_shift 75 = .ok (.return_, 1) := by decide +kernel
theorem dX0_wordAt_0 : decode cX0_wordAt 0 = .ok (.iload_n 1, 1) := by decide +kernel
theorem dX0_wordAt_1 : decode cX0_wordAt 1 = .ok (.ifCond .lt 21, 3) := by decide +kernel
theorem dX0_wordAt_4 : decode cX0_wordAt 4 = .ok (.iload_n 1, 1) := by decide +kernel
theorem dX0_wordAt_5 : decode cX0_wordAt 5 = .ok (.aload_n 0, 1) := by decide +kernel
theorem dX0_wordAt_6 : decode cX0_wordAt 6 = .ok (.getfield 9, 3) := by decide +kernel
theorem dX0_wordAt_9 : decode cX0_wordAt 9 = .ok (.arraylength, 1) := by decide +kernel
theorem dX0_wordAt_10 : decode cX0_wordAt 10 = .ok (.if_icmp .ge 12, 3) := by decide +kernel
theorem dX0_wordAt_13 : decode cX0_wordAt 13 = .ok (.aload_n 0, 1) := by decide +kernel
theorem dX0_wordAt_14 : decode cX0_wordAt 14 = .ok (.getfield 9, 3) := by decide +kernel
theorem dX0_wordAt_17 : decode cX0_wordAt 17 = .ok (.iload_n 1, 1) := by decide +kernel
theorem dX0_wordAt_18 : decode cX0_wordAt 18 = .ok (.laload, 1) := by decide +kernel
theorem dX0_wordAt_19 : decode cX0_wordAt 19 = .ok (.goto 4, 3) := by decide +kernel
theorem dX0_wordAt_22 : decode cX0_wordAt 22 = .ok (.lconst 0, 1) := by decide +kernel
theorem dX0_wordAt_23 : decode cX0_wordAt 23 = .ok (.lreturn, 1) := by decide +kernel
theorem dX1_init_0 : decode cX1_init 0 = .ok (.aload_n 0, 1) := by decide +kernel
theorem dX1_init_1 : decode cX1_init 1 = .ok (.invokespecial 3, 3) := by decide +kernel
theorem dX1_init_4 : decode cX1_init 4 = .ok (.aload_n 0, 1) := by decide +kernel
theorem dX1_init_5 : decode cX1_init 5 = .ok (.new 9, 3) := by decide +kernel
theorem dX1_init_8 : decode cX1_init 8 = .ok (.dup, 1) := by decide +kernel
theorem dX1_init_9 : decode cX1_init 9 = .ok (.bipush 99, 2) := by decide +kernel
theorem dX1_init_11 : decode cX1_init 11 = .ok (.invokespecial 11, 3) := by decide +kernel
theorem dX1_init_14 : decode cX1_init 14 = .ok (.putfield 14, 3) := by decide +kernel
theorem dX1_init_17 : decode cX1_init 17 = .ok (.aload_n 0, 1) := by decide +kernel
theorem dX1_init_18 : decode cX1_init 18 = .ok (.sipush 301, 3) := by decide +kernel
theorem dX1_init_21 : decode cX1_init 21 = .ok (.newarray .long, 2) := by decide +kernel
theorem dX1_init_23 : decode cX1_init 23 = .ok (.putfield 20, 3) := by decide +kernel
theorem dX1_init_26 : decode cX1_init 26 = .ok (.return_, 1) := by decide +kernel
theorem dX1_fill_0 : decode cX1_fill 0 = .ok (.aload_n 0, 1) := by decide +kernel
theorem dX1_fill_1 : decode cX1_fill 1 = .ok (.getfield 14, 3) := by decide +kernel
theorem dX1_fill_4 : decode cX1_fill 4 = .ok (.iconst 1, 1) := by decide +kernel
theorem dX1_fill_5 : decode cX1_fill 5 = .ok (.invokevirtual 24, 3) := by decide +kernel
theorem dX1_fill_8 : decode cX1_fill 8 = .ok (.iconst 0, 1) := by decide +kernel
theorem dX1_fill_9 : decode cX1_fill 9 = .ok (.istore_n 2, 1) := by decide +kernel
theorem dX1_fill_10 : decode cX1_fill 10 = .ok (.iload_n 2, 1) := by decide +kernel
theorem dX1_fill_11 : decode cX1_fill 11 = .ok (.aload_n 1, 1) := by decide +kernel
theorem dX1_fill_12 : decode cX1_fill 12 = .ok (.getfield 27, 3) := by decide +kernel
theorem dX1_fill_15 : decode cX1_fill 15 = .ok (.if_icmp .ge 28, 3) := by decide +kernel
theorem dX1_fill_18 : decode cX1_fill 18 = .ok (.aload_n 0, 1) := by decide +kernel
theorem dX1_fill_19 : decode cX1_fill 19 = .ok (.getfield 14, 3) := by decide +kernel
theorem dX1_fill_22 : decode cX1_fill 22 = .ok (.aload_n 0, 1) := by decide +kernel
theorem dX1_fill_23 : decode cX1_fill 23 = .ok (.getfield 14, 3) := by decide +kernel
theorem dX1_fill_26 : decode cX1_fill 26 = .ok (.bipush 21, 2) := by decide +kernel
theorem dX1_fill_28 : decode cX1_fill 28 = .ok (.aload_n 1, 1) := by decide +kernel
theorem dX1_fill_29 : decode cX1_fill 29 = .ok (.iload_n 2, 1) := by decide +kernel
theorem dX1_fill_30 : decode cX1_fill 30 = .ok (.invokevirtual 33, 3) := by decide +kernel
theorem dX1_fill_33 : decode cX1_fill 33 = .ok (.imul, 1) := by decide +kernel
theorem dX1_fill_34 : decode cX1_fill 34 = .ok (.invokevirtual 37, 3) := by decide +kernel
theorem dX1_fill_37 : decode cX1_fill 37 = .ok (.iinc 2 1, 3) := by decide +kernel
theorem dX1_fill_40 : decode cX1_fill 40 = .ok (.goto (-30), 3) := by decide +kernel
theorem dX1_fill_43 : decode cX1_fill 43 = .ok (.iconst 0, 1) := by decide +kernel
theorem dX1_fill_44 : decode cX1_fill 44 = .ok (.istore_n 2, 1) := by decide +kernel
theorem dX1_fill_45 : decode cX1_fill 45 = .ok (.iload_n 2, 1) := by decide +kernel
theorem dX1_fill_46 : decode cX1_fill 46 = .ok (.sipush 300, 3) := by decide +kernel
theorem dX1_fill_49 : decode cX1_fill 49 = .ok (.if_icmp .gt 30, 3) := by decide +kernel
theorem dX1_fill_52 : decode cX1_fill 52 = .ok (.aload_n 0, 1) := by decide +kernel
theorem dX1_fill_53 : decode cX1_fill 53 = .ok (.getfield 20, 3) := by decide +kernel
theorem dX1_fill_56 : decode cX1_fill 56 = .ok (.iload_n 2, 1) := by decide +kernel
theorem dX1_fill_57 : decode cX1_fill 57 = .ok (.aload_n 0, 1) := by decide +kernel
theorem dX1_fill_58 : decode cX1_fill 58 = .ok (.getfield 14, 3) := by decide +kernel
theorem dX1_fill_61 : decode cX1_fill 61 = .ok (.bipush 21, 2) := by decide +kernel
theorem dX1_fill_63 : decode cX1_fill 63 = .ok (.iload_n 2, 1) := by decide +kernel
theorem dX1_fill_64 : decode cX1_fill 64 = .ok (.imul, 1) := by decide +kernel
theorem dX1_fill_65 : decode cX1_fill 65 = .ok (.invokevirtual 41, 3) := by decide +kernel
theorem dX1_fill_68 : decode cX1_fill 68 = .ok (.ldc2_w 45, 3) := by decide +kernel
theorem dX1_fill_71 : decode cX1_fill 71 = .ok (.land, 1) := by decide +kernel
theorem dX1_fill_72 : decode cX1_fill 72 = .ok (.lastore, 1) := by decide +kernel
theorem dX1_fill_73 : decode cX1_fill 73 = .ok (.iinc 2 1, 3) := by decide +kernel
theorem dX1_fill_76 : decode cX1_fill 76 = .ok (.goto (-31), 3) := by decide +kernel
theorem dX1_fill_79 : decode cX1_fill 79 = .ok (.return_, 1) := by decide +kernel
theorem dX1_countOf_0 : decode cX1_countOf 0 = .ok (.iload_n 1, 1) := by decide +kernel
theorem dX1_countOf_1 : decode cX1_countOf 1 = .ok (.ifCond .lt 19, 3) := by decide +kernel
theorem dX1_countOf_4 : decode cX1_countOf 4 = .ok (.iload_n 1, 1) := by decide +kernel
theorem dX1_countOf_5 : decode cX1_countOf 5 = .ok (.sipush 300, 3) := by decide +kernel
theorem dX1_countOf_8 : decode cX1_countOf 8 = .ok (.if_icmp .gt 12, 3) := by decide +kernel
theorem dX1_countOf_11 : decode cX1_countOf 11 = .ok (.aload_n 0, 1) := by decide +kernel
theorem dX1_countOf_12 : decode cX1_countOf 12 = .ok (.getfield 20, 3) := by decide +kernel
theorem dX1_countOf_15 : decode cX1_countOf 15 = .ok (.iload_n 1, 1) := by decide +kernel
theorem dX1_countOf_16 : decode cX1_countOf 16 = .ok (.laload, 1) := by decide +kernel
theorem dX1_countOf_17 : decode cX1_countOf 17 = .ok (.goto 4, 3) := by decide +kernel
theorem dX1_countOf_20 : decode cX1_countOf 20 = .ok (.lconst 0, 1) := by decide +kernel
theorem dX1_countOf_21 : decode cX1_countOf 21 = .ok (.lreturn, 1) := by decide +kernel
theorem dX2_init_0 : decode cX2_init 0 = .ok (.aload_n 0, 1) := by decide +kernel
theorem dX2_init_1 : decode cX2_init 1 = .ok (.invokespecial 3, 3) := by decide +kernel
theorem dX2_init_4 : decode cX2_init 4 = .ok (.aload_n 0, 1) := by decide +kernel
theorem dX2_init_5 : decode cX2_init 5 = .ok (.sipush 301, 3) := by decide +kernel
theorem dX2_init_8 : decode cX2_init 8 = .ok (.newarray .int, 2) := by decide +kernel
theorem dX2_init_10 : decode cX2_init 10 = .ok (.putfield 9, 3) := by decide +kernel
theorem dX2_init_13 : decode cX2_init 13 = .ok (.return_, 1) := by decide +kernel
theorem dX2_begin_0 : decode cX2_begin 0 = .ok (.iconst 0, 1) := by decide +kernel
theorem dX2_begin_1 : decode cX2_begin 1 = .ok (.istore_n 1, 1) := by decide +kernel
theorem dX2_begin_2 : decode cX2_begin 2 = .ok (.iload_n 1, 1) := by decide +kernel
theorem dX2_begin_3 : decode cX2_begin 3 = .ok (.sipush 300, 3) := by decide +kernel
theorem dX2_begin_6 : decode cX2_begin 6 = .ok (.if_icmp .gt 26, 3) := by decide +kernel
theorem dX2_begin_9 : decode cX2_begin 9 = .ok (.aload_n 0, 1) := by decide +kernel
theorem dX2_begin_10 : decode cX2_begin 10 = .ok (.getfield 9, 3) := by decide +kernel
theorem dX2_begin_13 : decode cX2_begin 13 = .ok (.iload_n 1, 1) := by decide +kernel
theorem dX2_begin_14 : decode cX2_begin 14 = .ok (.iload_n 1, 1) := by decide +kernel
theorem dX2_begin_15 : decode cX2_begin 15 = .ok (.ifCond .ne 7, 3) := by decide +kernel
theorem dX2_begin_18 : decode cX2_begin 18 = .ok (.iconst 0, 1) := by decide +kernel
theorem dX2_begin_19 : decode cX2_begin 19 = .ok (.goto 6, 3) := by decide +kernel
theorem dX2_begin_22 : decode cX2_begin 22 = .ok (.sipush 301, 3) := by decide +kernel
theorem dX2_begin_25 : decode cX2_begin 25 = .ok (.iastore, 1) := by decide +kernel
theorem dX2_begin_26 : decode cX2_begin 26 = .ok (.iinc 1 1, 3) := by decide +kernel
theorem dX2_begin_29 : decode cX2_begin 29 = .ok (.goto (-27), 3) := by decide +kernel
theorem dX2_begin_32 : decode cX2_begin 32 = .ok (.return_, 1) := by decide +kernel
theorem dX2_carry_0 : decode cX2_carry 0 = .ok (.iload_n 1, 1) := by decide +kernel
theorem dX2_carry_1 : decode cX2_carry 1 = .ok (.invokestatic 15, 3) := by decide +kernel
theorem dX2_carry_4 : decode cX2_carry 4 = .ok (.ifCond .eq 33, 3) := by decide +kernel
theorem dX2_carry_7 : decode cX2_carry 7 = .ok (.iload_n 2, 1) := by decide +kernel
theorem dX2_carry_8 : decode cX2_carry 8 = .ok (.invokestatic 15, 3) := by decide +kernel
theorem dX2_carry_11 : decode cX2_carry 11 = .ok (.ifCond .eq 26, 3) := by decide +kernel
theorem dX2_carry_14 : decode cX2_carry 14 = .ok (.aload_n 0, 1) := by decide +kernel
theorem dX2_carry_15 : decode cX2_carry 15 = .ok (.getfield 9, 3) := by decide +kernel
theorem dX2_carry_18 : decode cX2_carry 18 = .ok (.iload_n 2, 1) := by decide +kernel
theorem dX2_carry_19 : decode cX2_carry 19 = .ok (.aload_n 0, 1) := by decide +kernel
theorem dX2_carry_20 : decode cX2_carry 20 = .ok (.getfield 9, 3) := by decide +kernel
theorem dX2_carry_23 : decode cX2_carry 23 = .ok (.iload_n 2, 1) := by decide +kernel
theorem dX2_carry_24 : decode cX2_carry 24 = .ok (.iaload, 1) := by decide +kernel
theorem dX2_carry_25 : decode cX2_carry 25 = .ok (.aload_n 0, 1) := by decide +kernel
theorem dX2_carry_26 : decode cX2_carry 26 = .ok (.getfield 9, 3) := by decide +kernel
theorem dX2_carry_29 : decode cX2_carry 29 = .ok (.iload_n 1, 1) := by decide +kernel
theorem dX2_carry_30 : decode cX2_carry 30 = .ok (.iaload, 1) := by decide +kernel
theorem dX2_carry_31 : decode cX2_carry 31 = .ok (.iconst 1, 1) := by decide +kernel
theorem dX2_carry_32 : decode cX2_carry 32 = .ok (.iadd, 1) := by decide +kernel
theorem dX2_carry_33 : decode cX2_carry 33 = .ok (.invokestatic 19, 3) := by decide +kernel
theorem dX2_carry_36 : decode cX2_carry 36 = .ok (.iastore, 1) := by decide +kernel
theorem dX2_carry_37 : decode cX2_carry 37 = .ok (.return_, 1) := by decide +kernel
theorem dX2_isMade_0 : decode cX2_isMade 0 = .ok (.aload_n 0, 1) := by decide +kernel
theorem dX2_isMade_1 : decode cX2_isMade 1 = .ok (.iload_n 1, 1) := by decide +kernel
theorem dX2_isMade_2 : decode cX2_isMade 2 = .ok (.invokevirtual 25, 3) := by decide +kernel
theorem dX2_isMade_5 : decode cX2_isMade 5 = .ok (.sipush 301, 3) := by decide +kernel
theorem dX2_isMade_8 : decode cX2_isMade 8 = .ok (.if_icmp .ge 7, 3) := by decide +kernel
theorem dX2_isMade_11 : decode cX2_isMade 11 = .ok (.iconst 1, 1) := by decide +kernel
theorem dX2_isMade_12 : decode cX2_isMade 12 = .ok (.goto 4, 3) := by decide +kernel
theorem dX2_isMade_15 : decode cX2_isMade 15 = .ok (.iconst 0, 1) := by decide +kernel
theorem dX2_isMade_16 : decode cX2_isMade 16 = .ok (.ireturn, 1) := by decide +kernel
theorem dX2_leastOf_0 : decode cX2_leastOf 0 = .ok (.iload_n 1, 1) := by decide +kernel
theorem dX2_leastOf_1 : decode cX2_leastOf 1 = .ok (.invokestatic 15, 3) := by decide +kernel
theorem dX2_leastOf_4 : decode cX2_leastOf 4 = .ok (.ifCond .eq 12, 3) := by decide +kernel
theorem dX2_leastOf_7 : decode cX2_leastOf 7 = .ok (.aload_n 0, 1) := by decide +kernel
theorem dX2_leastOf_8 : decode cX2_leastOf 8 = .ok (.getfield 9, 3) := by decide +kernel
theorem dX2_leastOf_11 : decode cX2_leastOf 11 = .ok (.iload_n 1, 1) := by decide +kernel
theorem dX2_leastOf_12 : decode cX2_leastOf 12 = .ok (.iaload, 1) := by decide +kernel
theorem dX2_leastOf_13 : decode cX2_leastOf 13 = .ok (.goto 6, 3) := by decide +kernel
theorem dX2_leastOf_16 : decode cX2_leastOf 16 = .ok (.sipush 301, 3) := by decide +kernel
theorem dX2_leastOf_19 : decode cX2_leastOf 19 = .ok (.ireturn, 1) := by decide +kernel
theorem dX3_init_0 : decode cX3_init 0 = .ok (.aload_n 0, 1) := by decide +kernel
theorem dX3_init_1 : decode cX3_init 1 = .ok (.invokespecial 3, 3) := by decide +kernel
theorem dX3_init_4 : decode cX3_init 4 = .ok (.aload_n 0, 1) := by decide +kernel
theorem dX3_init_5 : decode cX3_init 5 = .ok (.bipush 20, 2) := by decide +kernel
theorem dX3_init_7 : decode cX3_init 7 = .ok (.newarray .int, 2) := by decide +kernel
theorem dX3_init_9 : decode cX3_init 9 = .ok (.putfield 9, 3) := by decide +kernel
theorem dX3_init_12 : decode cX3_init 12 = .ok (.return_, 1) := by decide +kernel
theorem dX3_hasPlace_0 : decode cX3_hasPlace 0 = .ok (.iload_n 1, 1) := by decide +kernel
theorem dX3_hasPlace_1 : decode cX3_hasPlace 1 = .ok (.ifCond .lt 21, 3) := by decide +kernel
theorem dX3_hasPlace_4 : decode cX3_hasPlace 4 = .ok (.iload_n 1, 1) := by decide +kernel
theorem dX3_hasPlace_5 : decode cX3_hasPlace 5 = .ok (.aload_n 0, 1) := by decide +kernel
theorem dX3_hasPlace_6 : decode cX3_hasPlace 6 = .ok (.getfield 15, 3) := by decide +kernel
theorem dX3_hasPlace_9 : decode cX3_hasPlace 9 = .ok (.if_icmp .ge 13, 3) := by decide +kernel
theorem dX3_hasPlace_12 : decode cX3_hasPlace 12 = .ok (.iload_n 1, 1) := by decide +kernel
theorem dX3_hasPlace_13 : decode cX3_hasPlace 13 = .ok (.bipush 20, 2) := by decide +kernel
theorem dX3_hasPlace_15 : decode cX3_hasPlace 15 = .ok (.if_icmp .ge 7, 3) := by decide +kernel
theorem dX3_hasPlace_18 : decode cX3_hasPlace 18 = .ok (.iconst 1, 1) := by decide +kernel
theorem dX3_hasPlace_19 : decode cX3_hasPlace 19 = .ok (.goto 4, 3) := by decide +kernel
theorem dX3_hasPlace_22 : decode cX3_hasPlace 22 = .ok (.iconst 0, 1) := by decide +kernel
theorem dX3_hasPlace_23 : decode cX3_hasPlace 23 = .ok (.ireturn, 1) := by decide +kernel
theorem dX3_numberAt_0 : decode cX3_numberAt 0 = .ok (.aload_n 0, 1) := by decide +kernel
theorem dX3_numberAt_1 : decode cX3_numberAt 1 = .ok (.iload_n 1, 1) := by decide +kernel
theorem dX3_numberAt_2 : decode cX3_numberAt 2 = .ok (.invokevirtual 19, 3) := by decide +kernel
theorem dX3_numberAt_5 : decode cX3_numberAt 5 = .ok (.ifCond .eq 12, 3) := by decide +kernel
theorem dX3_numberAt_8 : decode cX3_numberAt 8 = .ok (.aload_n 0, 1) := by decide +kernel
theorem dX3_numberAt_9 : decode cX3_numberAt 9 = .ok (.getfield 9, 3) := by decide +kernel
theorem dX3_numberAt_12 : decode cX3_numberAt 12 = .ok (.iload_n 1, 1) := by decide +kernel
theorem dX3_numberAt_13 : decode cX3_numberAt 13 = .ok (.iaload, 1) := by decide +kernel
theorem dX3_numberAt_14 : decode cX3_numberAt 14 = .ok (.goto 4, 3) := by decide +kernel
theorem dX3_numberAt_17 : decode cX3_numberAt 17 = .ok (.iconst 0, 1) := by decide +kernel
theorem dX3_numberAt_18 : decode cX3_numberAt 18 = .ok (.ireturn, 1) := by decide +kernel
theorem dX3_sumAt_0 : decode cX3_sumAt 0 = .ok (.iconst 0, 1) := by decide +kernel
theorem dX3_sumAt_1 : decode cX3_sumAt 1 = .ok (.istore_n 2, 1) := by decide +kernel
theorem dX3_sumAt_2 : decode cX3_sumAt 2 = .ok (.iconst 0, 1) := by decide +kernel
theorem dX3_sumAt_3 : decode cX3_sumAt 3 = .ok (.istore_n 3, 1) := by decide +kernel
theorem dX3_sumAt_4 : decode cX3_sumAt 4 = .ok (.iload_n 3, 1) := by decide +kernel
theorem dX3_sumAt_5 : decode cX3_sumAt 5 = .ok (.aload_n 0, 1) := by decide +kernel
theorem dX3_sumAt_6 : decode cX3_sumAt 6 = .ok (.getfield 15, 3) := by decide +kernel
theorem dX3_sumAt_9 : decode cX3_sumAt 9 = .ok (.if_icmp .ge 25, 3) := by decide +kernel
theorem dX3_sumAt_12 : decode cX3_sumAt 12 = .ok (.iload_n 1, 1) := by decide +kernel
theorem dX3_sumAt_13 : decode cX3_sumAt 13 = .ok (.iload_n 3, 1) := by decide +kernel
theorem dX3_sumAt_14 : decode cX3_sumAt 14 = .ok (.ishr, 1) := by decide +kernel
theorem dX3_sumAt_15 : decode cX3_sumAt 15 = .ok (.iconst 1, 1) := by decide +kernel
theorem dX3_sumAt_16 : decode cX3_sumAt 16 = .ok (.iand, 1) := by decide +kernel
theorem dX3_sumAt_17 : decode cX3_sumAt 17 = .ok (.ifCond .eq 11, 3) := by decide +kernel
theorem dX3_sumAt_20 : decode cX3_sumAt 20 = .ok (.iload_n 2, 1) := by decide +kernel
theorem dX3_sumAt_21 : decode cX3_sumAt 21 = .ok (.aload_n 0, 1) := by decide +kernel
theorem dX3_sumAt_22 : decode cX3_sumAt 22 = .ok (.iload_n 3, 1) := by decide +kernel
theorem dX3_sumAt_23 : decode cX3_sumAt 23 = .ok (.invokevirtual 23, 3) := by decide +kernel
theorem dX3_sumAt_26 : decode cX3_sumAt 26 = .ok (.iadd, 1) := by decide +kernel
theorem dX3_sumAt_27 : decode cX3_sumAt 27 = .ok (.istore_n 2, 1) := by decide +kernel
theorem dX3_sumAt_28 : decode cX3_sumAt 28 = .ok (.iinc 3 1, 3) := by decide +kernel
theorem dX3_sumAt_31 : decode cX3_sumAt 31 = .ok (.goto (-27), 3) := by decide +kernel
theorem dX3_sumAt_34 : decode cX3_sumAt 34 = .ok (.iload_n 2, 1) := by decide +kernel
theorem dX3_sumAt_35 : decode cX3_sumAt 35 = .ok (.ireturn, 1) := by decide +kernel
theorem dX3_sumOfAll_0 : decode cX3_sumOfAll 0 = .ok (.aload_n 0, 1) := by decide +kernel
theorem dX3_sumOfAll_1 : decode cX3_sumOfAll 1 = .ok (.iconst (-1), 1) := by decide +kernel
theorem dX3_sumOfAll_2 : decode cX3_sumOfAll 2 = .ok (.invokevirtual 27, 3) := by decide +kernel
theorem dX3_sumOfAll_5 : decode cX3_sumOfAll 5 = .ok (.ireturn, 1) := by decide +kernel
theorem dX3_empty_0 : decode cX3_empty 0 = .ok (.aload_n 0, 1) := by decide +kernel
theorem dX3_empty_1 : decode cX3_empty 1 = .ok (.iconst 0, 1) := by decide +kernel
theorem dX3_empty_2 : decode cX3_empty 2 = .ok (.putfield 15, 3) := by decide +kernel
theorem dX3_empty_5 : decode cX3_empty 5 = .ok (.return_, 1) := by decide +kernel
theorem dX3_putIn_0 : decode cX3_putIn 0 = .ok (.aload_n 0, 1) := by decide +kernel
theorem dX3_putIn_1 : decode cX3_putIn 1 = .ok (.getfield 15, 3) := by decide +kernel
theorem dX3_putIn_4 : decode cX3_putIn 4 = .ok (.bipush 20, 2) := by decide +kernel
theorem dX3_putIn_6 : decode cX3_putIn 6 = .ok (.if_icmp .ge 15, 3) := by decide +kernel
theorem dX3_putIn_9 : decode cX3_putIn 9 = .ok (.iload_n 1, 1) := by decide +kernel
theorem dX3_putIn_10 : decode cX3_putIn 10 = .ok (.ifCond .lt 11, 3) := by decide +kernel
theorem dX3_putIn_13 : decode cX3_putIn 13 = .ok (.iload_n 1, 1) := by decide +kernel
theorem dX3_putIn_14 : decode cX3_putIn 14 = .ok (.aload_n 0, 1) := by decide +kernel
theorem dX3_putIn_15 : decode cX3_putIn 15 = .ok (.getfield 15, 3) := by decide +kernel
theorem dX3_putIn_18 : decode cX3_putIn 18 = .ok (.if_icmp .le 4, 3) := by decide +kernel
theorem dX3_putIn_21 : decode cX3_putIn 21 = .ok (.return_, 1) := by decide +kernel
theorem dX3_putIn_22 : decode cX3_putIn 22 = .ok (.aload_n 0, 1) := by decide +kernel
theorem dX3_putIn_23 : decode cX3_putIn 23 = .ok (.getfield 15, 3) := by decide +kernel
theorem dX3_putIn_26 : decode cX3_putIn 26 = .ok (.istore_n 3, 1) := by decide +kernel
theorem dX3_putIn_27 : decode cX3_putIn 27 = .ok (.iload_n 3, 1) := by decide +kernel
theorem dX3_putIn_28 : decode cX3_putIn 28 = .ok (.iload_n 1, 1) := by decide +kernel
theorem dX3_putIn_29 : decode cX3_putIn 29 = .ok (.if_icmp .le 23, 3) := by decide +kernel
theorem dX3_putIn_32 : decode cX3_putIn 32 = .ok (.aload_n 0, 1) := by decide +kernel
theorem dX3_putIn_33 : decode cX3_putIn 33 = .ok (.getfield 9, 3) := by decide +kernel
theorem dX3_putIn_36 : decode cX3_putIn 36 = .ok (.iload_n 3, 1) := by decide +kernel
theorem dX3_putIn_37 : decode cX3_putIn 37 = .ok (.aload_n 0, 1) := by decide +kernel
theorem dX3_putIn_38 : decode cX3_putIn 38 = .ok (.getfield 9, 3) := by decide +kernel
theorem dX3_putIn_41 : decode cX3_putIn 41 = .ok (.iload_n 3, 1) := by decide +kernel
theorem dX3_putIn_42 : decode cX3_putIn 42 = .ok (.iconst 1, 1) := by decide +kernel
theorem dX3_putIn_43 : decode cX3_putIn 43 = .ok (.isub, 1) := by decide +kernel
theorem dX3_putIn_44 : decode cX3_putIn 44 = .ok (.iaload, 1) := by decide +kernel
theorem dX3_putIn_45 : decode cX3_putIn 45 = .ok (.iastore, 1) := by decide +kernel
theorem dX3_putIn_46 : decode cX3_putIn 46 = .ok (.iinc 3 (-1), 3) := by decide +kernel
theorem dX3_putIn_49 : decode cX3_putIn 49 = .ok (.goto (-22), 3) := by decide +kernel
theorem dX3_putIn_52 : decode cX3_putIn 52 = .ok (.aload_n 0, 1) := by decide +kernel
theorem dX3_putIn_53 : decode cX3_putIn 53 = .ok (.getfield 9, 3) := by decide +kernel
theorem dX3_putIn_56 : decode cX3_putIn 56 = .ok (.iload_n 1, 1) := by decide +kernel
theorem dX3_putIn_57 : decode cX3_putIn 57 = .ok (.iload_n 2, 1) := by decide +kernel
theorem dX3_putIn_58 : decode cX3_putIn 58 = .ok (.iastore, 1) := by decide +kernel
theorem dX3_putIn_59 : decode cX3_putIn 59 = .ok (.aload_n 0, 1) := by decide +kernel
theorem dX3_putIn_60 : decode cX3_putIn 60 = .ok (.dup, 1) := by decide +kernel
theorem dX3_putIn_61 : decode cX3_putIn 61 = .ok (.getfield 15, 3) := by decide +kernel
theorem dX3_putIn_64 : decode cX3_putIn 64 = .ok (.iconst 1, 1) := by decide +kernel
theorem dX3_putIn_65 : decode cX3_putIn 65 = .ok (.iadd, 1) := by decide +kernel
theorem dX3_putIn_66 : decode cX3_putIn 66 = .ok (.putfield 15, 3) := by decide +kernel
theorem dX3_putIn_69 : decode cX3_putIn 69 = .ok (.return_, 1) := by decide +kernel
theorem dX3_putOver_0 : decode cX3_putOver 0 = .ok (.aload_n 0, 1) := by decide +kernel
theorem dX3_putOver_1 : decode cX3_putOver 1 = .ok (.iload_n 1, 1) := by decide +kernel
theorem dX3_putOver_2 : decode cX3_putOver 2 = .ok (.invokevirtual 19, 3) := by decide +kernel
theorem dX3_putOver_5 : decode cX3_putOver 5 = .ok (.ifCond .eq 10, 3) := by decide +kernel
theorem dX3_putOver_8 : decode cX3_putOver 8 = .ok (.aload_n 0, 1) := by decide +kernel
theorem dX3_putOver_9 : decode cX3_putOver 9 = .ok (.getfield 9, 3) := by decide +kernel
theorem dX3_putOver_12 : decode cX3_putOver 12 = .ok (.iload_n 1, 1) := by decide +kernel
theorem dX3_putOver_13 : decode cX3_putOver 13 = .ok (.iload_n 2, 1) := by decide +kernel
theorem dX3_putOver_14 : decode cX3_putOver 14 = .ok (.iastore, 1) := by decide +kernel
theorem dX3_putOver_15 : decode cX3_putOver 15 = .ok (.return_, 1) := by decide +kernel
theorem dX3_takeAway_0 : decode cX3_takeAway 0 = .ok (.aload_n 0, 1) := by decide +kernel
theorem dX3_takeAway_1 : decode cX3_takeAway 1 = .ok (.iload_n 1, 1) := by decide +kernel
theorem dX3_takeAway_2 : decode cX3_takeAway 2 = .ok (.invokevirtual 19, 3) := by decide +kernel
theorem dX3_takeAway_5 : decode cX3_takeAway 5 = .ok (.ifCond .ne 5, 3) := by decide +kernel
theorem dX3_takeAway_8 : decode cX3_takeAway 8 = .ok (.iconst 0, 1) := by decide +kernel
theorem dX3_takeAway_9 : decode cX3_takeAway 9 = .ok (.ireturn, 1) := by decide +kernel
theorem dX3_takeAway_10 : decode cX3_takeAway 10 = .ok (.aload_n 0, 1) := by decide +kernel
theorem dX3_takeAway_11 : decode cX3_takeAway 11 = .ok (.getfield 9, 3) := by decide +kernel
theorem dX3_takeAway_14 : decode cX3_takeAway 14 = .ok (.iload_n 1, 1) := by decide +kernel
theorem dX3_takeAway_15 : decode cX3_takeAway 15 = .ok (.iaload, 1) := by decide +kernel
theorem dX3_takeAway_16 : decode cX3_takeAway 16 = .ok (.istore_n 2, 1) := by decide +kernel
theorem dX3_takeAway_17 : decode cX3_takeAway 17 = .ok (.iload_n 1, 1) := by decide +kernel
theorem dX3_takeAway_18 : decode cX3_takeAway 18 = .ok (.istore_n 3, 1) := by decide +kernel
theorem dX3_takeAway_19 : decode cX3_takeAway 19 = .ok (.iload_n 3, 1) := by decide +kernel
theorem dX3_takeAway_20 : decode cX3_takeAway 20 = .ok (.iconst 1, 1) := by decide +kernel
theorem dX3_takeAway_21 : decode cX3_takeAway 21 = .ok (.iadd, 1) := by decide +kernel
theorem dX3_takeAway_22 : decode cX3_takeAway 22 = .ok (.aload_n 0, 1) := by decide +kernel
theorem dX3_takeAway_23 : decode cX3_takeAway 23 = .ok (.getfield 15, 3) := by decide +kernel
theorem dX3_takeAway_26 : decode cX3_takeAway 26 = .ok (.if_icmp .ge 22, 3) := by decide +kernel
theorem dX3_takeAway_29 : decode cX3_takeAway 29 = .ok (.aload_n 0, 1) := by decide +kernel
theorem dX3_takeAway_30 : decode cX3_takeAway 30 = .ok (.getfield 9, 3) := by decide +kernel
theorem dX3_takeAway_33 : decode cX3_takeAway 33 = .ok (.iload_n 3, 1) := by decide +kernel
theorem dX3_takeAway_34 : decode cX3_takeAway 34 = .ok (.aload_n 0, 1) := by decide +kernel
theorem dX3_takeAway_35 : decode cX3_takeAway 35 = .ok (.iload_n 3, 1) := by decide +kernel
theorem dX3_takeAway_36 : decode cX3_takeAway 36 = .ok (.iconst 1, 1) := by decide +kernel
theorem dX3_takeAway_37 : decode cX3_takeAway 37 = .ok (.iadd, 1) := by decide +kernel
theorem dX3_takeAway_38 : decode cX3_takeAway 38 = .ok (.invokevirtual 23, 3) := by decide +kernel
theorem dX3_takeAway_41 : decode cX3_takeAway 41 = .ok (.iastore, 1) := by decide +kernel
theorem dX3_takeAway_42 : decode cX3_takeAway 42 = .ok (.iinc 3 1, 3) := by decide +kernel
theorem dX3_takeAway_45 : decode cX3_takeAway 45 = .ok (.goto (-26), 3) := by decide +kernel
theorem dX3_takeAway_48 : decode cX3_takeAway 48 = .ok (.aload_n 0, 1) := by decide +kernel
theorem dX3_takeAway_49 : decode cX3_takeAway 49 = .ok (.dup, 1) := by decide +kernel
theorem dX3_takeAway_50 : decode cX3_takeAway 50 = .ok (.getfield 15, 3) := by decide +kernel
theorem dX3_takeAway_53 : decode cX3_takeAway 53 = .ok (.iconst 1, 1) := by decide +kernel
theorem dX3_takeAway_54 : decode cX3_takeAway 54 = .ok (.isub, 1) := by decide +kernel
theorem dX3_takeAway_55 : decode cX3_takeAway 55 = .ok (.putfield 15, 3) := by decide +kernel
theorem dX3_takeAway_58 : decode cX3_takeAway 58 = .ok (.iload_n 2, 1) := by decide +kernel
theorem dX3_takeAway_59 : decode cX3_takeAway 59 = .ok (.ireturn, 1) := by decide +kernel
theorem dX3_putInOrder_0 : decode cX3_putInOrder 0 = .ok (.iconst 1, 1) := by decide +kernel
theorem dX3_putInOrder_1 : decode cX3_putInOrder 1 = .ok (.istore_n 1, 1) := by decide +kernel
theorem dX3_putInOrder_2 : decode cX3_putInOrder 2 = .ok (.iload_n 1, 1) := by decide +kernel
theorem dX3_putInOrder_3 : decode cX3_putInOrder 3 = .ok (.aload_n 0, 1) := by decide +kernel
theorem dX3_putInOrder_4 : decode cX3_putInOrder 4 = .ok (.getfield 15, 3) := by decide +kernel
theorem dX3_putInOrder_7 : decode cX3_putInOrder 7 = .ok (.if_icmp .ge 44, 3) := by decide +kernel
theorem dX3_putInOrder_10 : decode cX3_putInOrder 10 = .ok (.aload_n 0, 1) := by decide +kernel
theorem dX3_putInOrder_11 : decode cX3_putInOrder 11 = .ok (.iload_n 1, 1) := by decide +kernel
theorem dX3_putInOrder_12 : decode cX3_putInOrder 12 = .ok (.invokevirtual 30, 3) := by decide +kernel
theorem dX3_putInOrder_15 : decode cX3_putInOrder 15 = .ok (.istore_n 2, 1) := by decide +kernel
theorem dX3_putInOrder_16 : decode cX3_putInOrder 16 = .ok (.iload_n 1, 1) := by decide +kernel
theorem dX3_putInOrder_17 : decode cX3_putInOrder 17 = .ok (.istore_n 3, 1) := by decide +kernel
theorem dX3_putInOrder_18 : decode cX3_putInOrder 18 = .ok (.iload_n 3, 1) := by decide +kernel
theorem dX3_putInOrder_19 : decode cX3_putInOrder 19 = .ok (.ifCond .le 20, 3) := by decide +kernel
theorem dX3_putInOrder_22 : decode cX3_putInOrder 22 = .ok (.aload_n 0, 1) := by decide +kernel
theorem dX3_putInOrder_23 : decode cX3_putInOrder 23 = .ok (.iload_n 3, 1) := by decide +kernel
theorem dX3_putInOrder_24 : decode cX3_putInOrder 24 = .ok (.iconst 1, 1) := by decide +kernel
theorem dX3_putInOrder_25 : decode cX3_putInOrder 25 = .ok (.isub, 1) := by decide +kernel
theorem dX3_putInOrder_26 : decode cX3_putInOrder 26 = .ok (.invokevirtual 23, 3) := by decide +kernel
theorem dX3_putInOrder_29 : decode cX3_putInOrder 29 = .ok (.iload_n 2, 1) := by decide +kernel
theorem dX3_putInOrder_30 : decode cX3_putInOrder 30 = .ok (.if_icmp .le 9, 3) := by decide +kernel
theorem dX3_putInOrder_33 : decode cX3_putInOrder 33 = .ok (.iinc 3 (-1), 3) := by decide +kernel
theorem dX3_putInOrder_36 : decode cX3_putInOrder 36 = .ok (.goto (-18), 3) := by decide +kernel
theorem dX3_putInOrder_39 : decode cX3_putInOrder 39 = .ok (.aload_n 0, 1) := by decide +kernel
theorem dX3_putInOrder_40 : decode cX3_putInOrder 40 = .ok (.iload_n 3, 1) := by decide +kernel
theorem dX3_putInOrder_41 : decode cX3_putInOrder 41 = .ok (.iload_n 2, 1) := by decide +kernel
theorem dX3_putInOrder_42 : decode cX3_putInOrder 42 = .ok (.invokevirtual 33, 3) := by decide +kernel
theorem dX3_putInOrder_45 : decode cX3_putInOrder 45 = .ok (.iinc 1 1, 3) := by decide +kernel
theorem dX3_putInOrder_48 : decode cX3_putInOrder 48 = .ok (.goto (-46), 3) := by decide +kernel
theorem dX3_putInOrder_51 : decode cX3_putInOrder 51 = .ok (.return_, 1) := by decide +kernel
theorem dX3_pick_0 : decode cX3_pick 0 = .ok (.aload_n 0, 1) := by decide +kernel
theorem dX3_pick_1 : decode cX3_pick 1 = .ok (.invokevirtual 37, 3) := by decide +kernel
theorem dX3_pick_4 : decode cX3_pick 4 = .ok (.iconst 0, 1) := by decide +kernel
theorem dX3_pick_5 : decode cX3_pick 5 = .ok (.istore_n 3, 1) := by decide +kernel
theorem dX3_pick_6 : decode cX3_pick 6 = .ok (.iload_n 3, 1) := by decide +kernel
theorem dX3_pick_7 : decode cX3_pick 7 = .ok (.aload_n 1, 1) := by decide +kernel
theorem dX3_pick_8 : decode cX3_pick 8 = .ok (.getfield 15, 3) := by decide +kernel
theorem dX3_pick_11 : decode cX3_pick 11 = .ok (.if_icmp .ge 30, 3) := by decide +kernel
theorem dX3_pick_14 : decode cX3_pick 14 = .ok (.iload_n 2, 1) := by decide +kernel
theorem dX3_pick_15 : decode cX3_pick 15 = .ok (.iload_n 3, 1) := by decide +kernel
theorem dX3_pick_16 : decode cX3_pick 16 = .ok (.ishr, 1) := by decide +kernel
theorem dX3_pick_17 : decode cX3_pick 17 = .ok (.iconst 1, 1) := by decide +kernel
theorem dX3_pick_18 : decode cX3_pick 18 = .ok (.iand, 1) := by decide +kernel
theorem dX3_pick_19 : decode cX3_pick 19 = .ok (.ifCond .eq 16, 3) := by decide +kernel
theorem dX3_pick_22 : decode cX3_pick 22 = .ok (.aload_n 0, 1) := by decide +kernel
theorem dX3_pick_23 : decode cX3_pick 23 = .ok (.aload_n 0, 1) := by decide +kernel
theorem dX3_pick_24 : decode cX3_pick 24 = .ok (.getfield 15, 3) := by decide +kernel
theorem dX3_pick_27 : decode cX3_pick 27 = .ok (.aload_n 1, 1) := by decide +kernel
theorem dX3_pick_28 : decode cX3_pick 28 = .ok (.iload_n 3, 1) := by decide +kernel
theorem dX3_pick_29 : decode cX3_pick 29 = .ok (.invokevirtual 23, 3) := by decide +kernel
theorem dX3_pick_32 : decode cX3_pick 32 = .ok (.invokevirtual 33, 3) := by decide +kernel
theorem dX3_pick_35 : decode cX3_pick 35 = .ok (.iinc 3 1, 3) := by decide +kernel
theorem dX3_pick_38 : decode cX3_pick 38 = .ok (.goto (-32), 3) := by decide +kernel
theorem dX3_pick_41 : decode cX3_pick 41 = .ok (.return_, 1) := by decide +kernel
theorem dX3_copyFrom_0 : decode cX3_copyFrom 0 = .ok (.aload_n 0, 1) := by decide +kernel
theorem dX3_copyFrom_1 : decode cX3_copyFrom 1 = .ok (.aload_n 1, 1) := by decide +kernel
theorem dX3_copyFrom_2 : decode cX3_copyFrom 2 = .ok (.iconst (-1), 1) := by decide +kernel
theorem dX3_copyFrom_3 : decode cX3_copyFrom 3 = .ok (.invokevirtual 40, 3) := by decide +kernel
theorem dX3_copyFrom_6 : decode cX3_copyFrom 6 = .ok (.return_, 1) := by decide +kernel
theorem dX3_copyTurned_0 : decode cX3_copyTurned 0 = .ok (.aload_n 0, 1) := by decide +kernel
theorem dX3_copyTurned_1 : decode cX3_copyTurned 1 = .ok (.invokevirtual 37, 3) := by decide +kernel
theorem dX3_copyTurned_4 : decode cX3_copyTurned 4 = .ok (.aload_n 1, 1) := by decide +kernel
theorem dX3_copyTurned_5 : decode cX3_copyTurned 5 = .ok (.getfield 15, 3) := by decide +kernel
theorem dX3_copyTurned_8 : decode cX3_copyTurned 8 = .ok (.iconst 1, 1) := by decide +kernel
theorem dX3_copyTurned_9 : decode cX3_copyTurned 9 = .ok (.isub, 1) := by decide +kernel
theorem dX3_copyTurned_10 : decode cX3_copyTurned 10 = .ok (.istore_n 2, 1) := by decide +kernel
theorem dX3_copyTurned_11 : decode cX3_copyTurned 11 = .ok (.iload_n 2, 1) := by decide +kernel
theorem dX3_copyTurned_12 : decode cX3_copyTurned 12 = .ok (.ifCond .lt 22, 3) := by decide +kernel
theorem dX3_copyTurned_15 : decode cX3_copyTurned 15 = .ok (.aload_n 0, 1) := by decide +kernel
theorem dX3_copyTurned_16 : decode cX3_copyTurned 16 = .ok (.aload_n 0, 1) := by decide +kernel
theorem dX3_copyTurned_17 : decode cX3_copyTurned 17 = .ok (.getfield 15, 3) := by decide +kernel
theorem dX3_copyTurned_20 : decode cX3_copyTurned 20 = .ok (.aload_n 1, 1) := by decide +kernel
theorem dX3_copyTurned_21 : decode cX3_copyTurned 21 = .ok (.iload_n 2, 1) := by decide +kernel
theorem dX3_copyTurned_22 : decode cX3_copyTurned 22 = .ok (.invokevirtual 23, 3) := by decide +kernel
theorem dX3_copyTurned_25 : decode cX3_copyTurned 25 = .ok (.invokevirtual 33, 3) := by decide +kernel
theorem dX3_copyTurned_28 : decode cX3_copyTurned 28 = .ok (.iinc 2 (-1), 3) := by decide +kernel
theorem dX3_copyTurned_31 : decode cX3_copyTurned 31 = .ok (.goto (-20), 3) := by decide +kernel
theorem dX3_copyTurned_34 : decode cX3_copyTurned 34 = .ok (.return_, 1) := by decide +kernel
theorem dX3_putBehind_0 : decode cX3_putBehind 0 = .ok (.iconst 0, 1) := by decide +kernel
theorem dX3_putBehind_1 : decode cX3_putBehind 1 = .ok (.istore_n 2, 1) := by decide +kernel
theorem dX3_putBehind_2 : decode cX3_putBehind 2 = .ok (.iload_n 2, 1) := by decide +kernel
theorem dX3_putBehind_3 : decode cX3_putBehind 3 = .ok (.aload_n 1, 1) := by decide +kernel
theorem dX3_putBehind_4 : decode cX3_putBehind 4 = .ok (.getfield 15, 3) := by decide +kernel
theorem dX3_putBehind_7 : decode cX3_putBehind 7 = .ok (.if_icmp .ge 22, 3) := by decide +kernel
theorem dX3_putBehind_10 : decode cX3_putBehind 10 = .ok (.aload_n 0, 1) := by decide +kernel
theorem dX3_putBehind_11 : decode cX3_putBehind 11 = .ok (.aload_n 0, 1) := by decide +kernel
theorem dX3_putBehind_12 : decode cX3_putBehind 12 = .ok (.getfield 15, 3) := by decide +kernel
theorem dX3_putBehind_15 : decode cX3_putBehind 15 = .ok (.aload_n 1, 1) := by decide +kernel
theorem dX3_putBehind_16 : decode cX3_putBehind 16 = .ok (.iload_n 2, 1) := by decide +kernel
theorem dX3_putBehind_17 : decode cX3_putBehind 17 = .ok (.invokevirtual 23, 3) := by decide +kernel
theorem dX3_putBehind_20 : decode cX3_putBehind 20 = .ok (.invokevirtual 33, 3) := by decide +kernel
theorem dX3_putBehind_23 : decode cX3_putBehind 23 = .ok (.iinc 2 1, 3) := by decide +kernel
theorem dX3_putBehind_26 : decode cX3_putBehind 26 = .ok (.goto (-24), 3) := by decide +kernel
theorem dX3_putBehind_29 : decode cX3_putBehind 29 = .ok (.return_, 1) := by decide +kernel
theorem dX4_init_0 : decode cX4_init 0 = .ok (.aload_n 0, 1) := by decide +kernel
theorem dX4_init_1 : decode cX4_init 1 = .ok (.invokespecial 3, 3) := by decide +kernel
theorem dX4_init_4 : decode cX4_init 4 = .ok (.aload_n 0, 1) := by decide +kernel
theorem dX4_init_5 : decode cX4_init 5 = .ok (.sipush 301, 3) := by decide +kernel
theorem dX4_init_8 : decode cX4_init 8 = .ok (.newarray .int, 2) := by decide +kernel
theorem dX4_init_10 : decode cX4_init 10 = .ok (.putfield 9, 3) := by decide +kernel
theorem dX4_init_13 : decode cX4_init 13 = .ok (.return_, 1) := by decide +kernel
theorem dX4_begin_0 : decode cX4_begin 0 = .ok (.iconst 0, 1) := by decide +kernel
theorem dX4_begin_1 : decode cX4_begin 1 = .ok (.istore_n 1, 1) := by decide +kernel
theorem dX4_begin_2 : decode cX4_begin 2 = .ok (.iload_n 1, 1) := by decide +kernel
theorem dX4_begin_3 : decode cX4_begin 3 = .ok (.sipush 300, 3) := by decide +kernel
theorem dX4_begin_6 : decode cX4_begin 6 = .ok (.if_icmp .gt 24, 3) := by decide +kernel
theorem dX4_begin_9 : decode cX4_begin 9 = .ok (.aload_n 0, 1) := by decide +kernel
theorem dX4_begin_10 : decode cX4_begin 10 = .ok (.getfield 9, 3) := by decide +kernel
theorem dX4_begin_13 : decode cX4_begin 13 = .ok (.iload_n 1, 1) := by decide +kernel
theorem dX4_begin_14 : decode cX4_begin 14 = .ok (.iload_n 1, 1) := by decide +kernel
theorem dX4_begin_15 : decode cX4_begin 15 = .ok (.ifCond .ne 7, 3) := by decide +kernel
theorem dX4_begin_18 : decode cX4_begin 18 = .ok (.iconst 1, 1) := by decide +kernel
theorem dX4_begin_19 : decode cX4_begin 19 = .ok (.goto 4, 3) := by decide +kernel
theorem dX4_begin_22 : decode cX4_begin 22 = .ok (.iconst 0, 1) := by decide +kernel
theorem dX4_begin_23 : decode cX4_begin 23 = .ok (.iastore, 1) := by decide +kernel
theorem dX4_begin_24 : decode cX4_begin 24 = .ok (.iinc 1 1, 3) := by decide +kernel
theorem dX4_begin_27 : decode cX4_begin 27 = .ok (.goto (-25), 3) := by decide +kernel
theorem dX4_begin_30 : decode cX4_begin 30 = .ok (.return_, 1) := by decide +kernel
theorem dX4_carry_0 : decode cX4_carry 0 = .ok (.iload_n 1, 1) := by decide +kernel
theorem dX4_carry_1 : decode cX4_carry 1 = .ok (.invokestatic 15, 3) := by decide +kernel
theorem dX4_carry_4 : decode cX4_carry 4 = .ok (.ifCond .eq 27, 3) := by decide +kernel
theorem dX4_carry_7 : decode cX4_carry 7 = .ok (.iload_n 2, 1) := by decide +kernel
theorem dX4_carry_8 : decode cX4_carry 8 = .ok (.invokestatic 15, 3) := by decide +kernel
theorem dX4_carry_11 : decode cX4_carry 11 = .ok (.ifCond .eq 20, 3) := by decide +kernel
theorem dX4_carry_14 : decode cX4_carry 14 = .ok (.aload_n 0, 1) := by decide +kernel
theorem dX4_carry_15 : decode cX4_carry 15 = .ok (.getfield 9, 3) := by decide +kernel
theorem dX4_carry_18 : decode cX4_carry 18 = .ok (.iload_n 2, 1) := by decide +kernel
theorem dX4_carry_19 : decode cX4_carry 19 = .ok (.dup2, 1) := by decide +kernel
theorem dX4_carry_20 : decode cX4_carry 20 = .ok (.iaload, 1) := by decide +kernel
theorem dX4_carry_21 : decode cX4_carry 21 = .ok (.aload_n 0, 1) := by decide +kernel
theorem dX4_carry_22 : decode cX4_carry 22 = .ok (.getfield 9, 3) := by decide +kernel
theorem dX4_carry_25 : decode cX4_carry 25 = .ok (.iload_n 1, 1) := by decide +kernel
theorem dX4_carry_26 : decode cX4_carry 26 = .ok (.iaload, 1) := by decide +kernel
theorem dX4_carry_27 : decode cX4_carry 27 = .ok (.iconst 1, 1) := by decide +kernel
theorem dX4_carry_28 : decode cX4_carry 28 = .ok (.ishl, 1) := by decide +kernel
theorem dX4_carry_29 : decode cX4_carry 29 = .ok (.ior, 1) := by decide +kernel
theorem dX4_carry_30 : decode cX4_carry 30 = .ok (.iastore, 1) := by decide +kernel
theorem dX4_carry_31 : decode cX4_carry 31 = .ok (.return_, 1) := by decide +kernel
theorem dX4_isMadeWith_0 : decode cX4_isMadeWith 0 = .ok (.iload_n 2, 1) := by decide +kernel
theorem dX4_isMadeWith_1 : decode cX4_isMadeWith 1 = .ok (.invokestatic 15, 3) := by decide +kernel
theorem dX4_isMadeWith_4 : decode cX4_isMadeWith 4 = .ok (.ifCond .eq 20, 3) := by decide +kernel
theorem dX4_isMadeWith_7 : decode cX4_isMadeWith 7 = .ok (.aload_n 0, 1) := by decide +kernel
theorem dX4_isMadeWith_8 : decode cX4_isMadeWith 8 = .ok (.getfield 9, 3) := by decide +kernel
theorem dX4_isMadeWith_11 : decode cX4_isMadeWith 11 = .ok (.iload_n 2, 1) := by decide +kernel
theorem dX4_isMadeWith_12 : decode cX4_isMadeWith 12 = .ok (.iaload, 1) := by decide +kernel
theorem dX4_isMadeWith_13 : decode cX4_isMadeWith 13 = .ok (.iload_n 1, 1) := by decide +kernel
theorem dX4_isMadeWith_14 : decode cX4_isMadeWith 14 = .ok (.ishr, 1) := by decide +kernel
theorem dX4_isMadeWith_15 : decode cX4_isMadeWith 15 = .ok (.iconst 1, 1) := by decide +kernel
theorem dX4_isMadeWith_16 : decode cX4_isMadeWith 16 = .ok (.iand, 1) := by decide +kernel
theorem dX4_isMadeWith_17 : decode cX4_isMadeWith 17 = .ok (.ifCond .eq 7, 3) := by decide +kernel
theorem dX4_isMadeWith_20 : decode cX4_isMadeWith 20 = .ok (.iconst 1, 1) := by decide +kernel
theorem dX4_isMadeWith_21 : decode cX4_isMadeWith 21 = .ok (.goto 4, 3) := by decide +kernel
theorem dX4_isMadeWith_24 : decode cX4_isMadeWith 24 = .ok (.iconst 0, 1) := by decide +kernel
theorem dX4_isMadeWith_25 : decode cX4_isMadeWith 25 = .ok (.ireturn, 1) := by decide +kernel
theorem dX5_init_0 : decode cX5_init 0 = .ok (.aload_n 0, 1) := by decide +kernel
theorem dX5_init_1 : decode cX5_init 1 = .ok (.invokespecial 3, 3) := by decide +kernel
theorem dX5_init_4 : decode cX5_init 4 = .ok (.aload_n 0, 1) := by decide +kernel
theorem dX5_init_5 : decode cX5_init 5 = .ok (.sipush 301, 3) := by decide +kernel
theorem dX5_init_8 : decode cX5_init 8 = .ok (.newarray .boolean, 2) := by decide +kernel
theorem dX5_init_10 : decode cX5_init 10 = .ok (.putfield 9, 3) := by decide +kernel
theorem dX5_init_13 : decode cX5_init 13 = .ok (.return_, 1) := by decide +kernel
theorem dX5_begin_0 : decode cX5_begin 0 = .ok (.iconst 0, 1) := by decide +kernel
theorem dX5_begin_1 : decode cX5_begin 1 = .ok (.istore_n 1, 1) := by decide +kernel
theorem dX5_begin_2 : decode cX5_begin 2 = .ok (.iload_n 1, 1) := by decide +kernel
theorem dX5_begin_3 : decode cX5_begin 3 = .ok (.sipush 300, 3) := by decide +kernel
theorem dX5_begin_6 : decode cX5_begin 6 = .ok (.if_icmp .gt 24, 3) := by decide +kernel
theorem dX5_begin_9 : decode cX5_begin 9 = .ok (.aload_n 0, 1) := by decide +kernel
theorem dX5_begin_10 : decode cX5_begin 10 = .ok (.getfield 9, 3) := by decide +kernel
theorem dX5_begin_13 : decode cX5_begin 13 = .ok (.iload_n 1, 1) := by decide +kernel
theorem dX5_begin_14 : decode cX5_begin 14 = .ok (.iload_n 1, 1) := by decide +kernel
theorem dX5_begin_15 : decode cX5_begin 15 = .ok (.ifCond .ne 7, 3) := by decide +kernel
theorem dX5_begin_18 : decode cX5_begin 18 = .ok (.iconst 1, 1) := by decide +kernel
theorem dX5_begin_19 : decode cX5_begin 19 = .ok (.goto 4, 3) := by decide +kernel
theorem dX5_begin_22 : decode cX5_begin 22 = .ok (.iconst 0, 1) := by decide +kernel
theorem dX5_begin_23 : decode cX5_begin 23 = .ok (.bastore, 1) := by decide +kernel
theorem dX5_begin_24 : decode cX5_begin 24 = .ok (.iinc 1 1, 3) := by decide +kernel
theorem dX5_begin_27 : decode cX5_begin 27 = .ok (.goto (-25), 3) := by decide +kernel
theorem dX5_begin_30 : decode cX5_begin 30 = .ok (.return_, 1) := by decide +kernel
theorem dX5_carry_0 : decode cX5_carry 0 = .ok (.iload_n 1, 1) := by decide +kernel
theorem dX5_carry_1 : decode cX5_carry 1 = .ok (.invokestatic 15, 3) := by decide +kernel
theorem dX5_carry_4 : decode cX5_carry 4 = .ok (.ifCond .eq 26, 3) := by decide +kernel
theorem dX5_carry_7 : decode cX5_carry 7 = .ok (.iload_n 2, 1) := by decide +kernel
theorem dX5_carry_8 : decode cX5_carry 8 = .ok (.invokestatic 15, 3) := by decide +kernel
theorem dX5_carry_11 : decode cX5_carry 11 = .ok (.ifCond .eq 19, 3) := by decide +kernel
theorem dX5_carry_14 : decode cX5_carry 14 = .ok (.aload_n 0, 1) := by decide +kernel
theorem dX5_carry_15 : decode cX5_carry 15 = .ok (.getfield 9, 3) := by decide +kernel
theorem dX5_carry_18 : decode cX5_carry 18 = .ok (.iload_n 1, 1) := by decide +kernel
theorem dX5_carry_19 : decode cX5_carry 19 = .ok (.baload, 1) := by decide +kernel
theorem dX5_carry_20 : decode cX5_carry 20 = .ok (.ifCond .eq 10, 3) := by decide +kernel
theorem dX5_carry_23 : decode cX5_carry 23 = .ok (.aload_n 0, 1) := by decide +kernel
theorem dX5_carry_24 : decode cX5_carry 24 = .ok (.getfield 9, 3) := by decide +kernel
theorem dX5_carry_27 : decode cX5_carry 27 = .ok (.iload_n 2, 1) := by decide +kernel
theorem dX5_carry_28 : decode cX5_carry 28 = .ok (.iconst 1, 1) := by decide +kernel
theorem dX5_carry_29 : decode cX5_carry 29 = .ok (.bastore, 1) := by decide +kernel
theorem dX5_carry_30 : decode cX5_carry 30 = .ok (.return_, 1) := by decide +kernel
theorem dX5_isSet_0 : decode cX5_isSet 0 = .ok (.iload_n 1, 1) := by decide +kernel
theorem dX5_isSet_1 : decode cX5_isSet 1 = .ok (.invokestatic 15, 3) := by decide +kernel
theorem dX5_isSet_4 : decode cX5_isSet 4 = .ok (.ifCond .eq 16, 3) := by decide +kernel
theorem dX5_isSet_7 : decode cX5_isSet 7 = .ok (.aload_n 0, 1) := by decide +kernel
theorem dX5_isSet_8 : decode cX5_isSet 8 = .ok (.getfield 9, 3) := by decide +kernel
theorem dX5_isSet_11 : decode cX5_isSet 11 = .ok (.iload_n 1, 1) := by decide +kernel
theorem dX5_isSet_12 : decode cX5_isSet 12 = .ok (.baload, 1) := by decide +kernel
theorem dX5_isSet_13 : decode cX5_isSet 13 = .ok (.ifCond .eq 7, 3) := by decide +kernel
theorem dX5_isSet_16 : decode cX5_isSet 16 = .ok (.iconst 1, 1) := by decide +kernel
theorem dX5_isSet_17 : decode cX5_isSet 17 = .ok (.goto 4, 3) := by decide +kernel
theorem dX5_isSet_20 : decode cX5_isSet 20 = .ok (.iconst 0, 1) := by decide +kernel
theorem dX5_isSet_21 : decode cX5_isSet 21 = .ok (.ireturn, 1) := by decide +kernel
theorem dX5_countSet_0 : decode cX5_countSet 0 = .ok (.iconst 0, 1) := by decide +kernel
theorem dX5_countSet_1 : decode cX5_countSet 1 = .ok (.istore_n 1, 1) := by decide +kernel
theorem dX5_countSet_2 : decode cX5_countSet 2 = .ok (.iconst 0, 1) := by decide +kernel
theorem dX5_countSet_3 : decode cX5_countSet 3 = .ok (.istore_n 2, 1) := by decide +kernel
theorem dX5_countSet_4 : decode cX5_countSet 4 = .ok (.iload_n 2, 1) := by decide +kernel
theorem dX5_countSet_5 : decode cX5_countSet 5 = .ok (.sipush 300, 3) := by decide +kernel
theorem dX5_countSet_8 : decode cX5_countSet 8 = .ok (.if_icmp .gt 21, 3) := by decide +kernel
theorem dX5_countSet_11 : decode cX5_countSet 11 = .ok (.aload_n 0, 1) := by decide +kernel
theorem dX5_countSet_12 : decode cX5_countSet 12 = .ok (.getfield 9, 3) := by decide +kernel
theorem dX5_countSet_15 : decode cX5_countSet 15 = .ok (.iload_n 2, 1) := by decide +kernel
theorem dX5_countSet_16 : decode cX5_countSet 16 = .ok (.baload, 1) := by decide +kernel
theorem dX5_countSet_17 : decode cX5_countSet 17 = .ok (.ifCond .eq 6, 3) := by decide +kernel
theorem dX5_countSet_20 : decode cX5_countSet 20 = .ok (.iinc 1 1, 3) := by decide +kernel
theorem dX5_countSet_23 : decode cX5_countSet 23 = .ok (.iinc 2 1, 3) := by decide +kernel
theorem dX5_countSet_26 : decode cX5_countSet 26 = .ok (.goto (-22), 3) := by decide +kernel
theorem dX5_countSet_29 : decode cX5_countSet 29 = .ok (.iload_n 1, 1) := by decide +kernel
theorem dX5_countSet_30 : decode cX5_countSet 30 = .ok (.ireturn, 1) := by decide +kernel
theorem dX5_endOfSet_0 : decode cX5_endOfSet 0 = .ok (.sipush 301, 3) := by decide +kernel
theorem dX5_endOfSet_3 : decode cX5_endOfSet 3 = .ok (.istore_n 1, 1) := by decide +kernel
theorem dX5_endOfSet_4 : decode cX5_endOfSet 4 = .ok (.iload_n 1, 1) := by decide +kernel
theorem dX5_endOfSet_5 : decode cX5_endOfSet 5 = .ok (.ifCond .le 19, 3) := by decide +kernel
theorem dX5_endOfSet_8 : decode cX5_endOfSet 8 = .ok (.aload_n 0, 1) := by decide +kernel
theorem dX5_endOfSet_9 : decode cX5_endOfSet 9 = .ok (.iload_n 1, 1) := by decide +kernel
theorem dX5_endOfSet_10 : decode cX5_endOfSet 10 = .ok (.iconst 1, 1) := by decide +kernel
theorem dX5_endOfSet_11 : decode cX5_endOfSet 11 = .ok (.isub, 1) := by decide +kernel
theorem dX5_endOfSet_12 : decode cX5_endOfSet 12 = .ok (.invokevirtual 19, 3) := by decide +kernel
theorem dX5_endOfSet_15 : decode cX5_endOfSet 15 = .ok (.ifCond .ne 9, 3) := by decide +kernel
theorem dX5_endOfSet_18 : decode cX5_endOfSet 18 = .ok (.iinc 1 (-1), 3) := by decide +kernel
theorem dX5_endOfSet_21 : decode cX5_endOfSet 21 = .ok (.goto (-17), 3) := by decide +kernel
theorem dX5_endOfSet_24 : decode cX5_endOfSet 24 = .ok (.iload_n 1, 1) := by decide +kernel
theorem dX5_endOfSet_25 : decode cX5_endOfSet 25 = .ok (.ireturn, 1) := by decide +kernel
theorem dX6_init_0 : decode cX6_init 0 = .ok (.aload_n 0, 1) := by decide +kernel
theorem dX6_init_1 : decode cX6_init 1 = .ok (.invokespecial 3, 3) := by decide +kernel
theorem dX6_init_4 : decode cX6_init 4 = .ok (.aload_n 0, 1) := by decide +kernel
theorem dX6_init_5 : decode cX6_init 5 = .ok (.new 9, 3) := by decide +kernel
theorem dX6_init_8 : decode cX6_init 8 = .ok (.dup, 1) := by decide +kernel
theorem dX6_init_9 : decode cX6_init 9 = .ok (.iconst 5, 1) := by decide +kernel
theorem dX6_init_10 : decode cX6_init 10 = .ok (.invokespecial 11, 3) := by decide +kernel
theorem dX6_init_13 : decode cX6_init 13 = .ok (.putfield 14, 3) := by decide +kernel
theorem dX6_init_16 : decode cX6_init 16 = .ok (.aload_n 0, 1) := by decide +kernel
theorem dX6_init_17 : decode cX6_init 17 = .ok (.new 9, 3) := by decide +kernel
theorem dX6_init_20 : decode cX6_init 20 = .ok (.dup, 1) := by decide +kernel
theorem dX6_init_21 : decode cX6_init 21 = .ok (.iconst 5, 1) := by decide +kernel
theorem dX6_init_22 : decode cX6_init 22 = .ok (.invokespecial 11, 3) := by decide +kernel
theorem dX6_init_25 : decode cX6_init 25 = .ok (.putfield 20, 3) := by decide +kernel
theorem dX6_init_28 : decode cX6_init 28 = .ok (.aload_n 0, 1) := by decide +kernel
theorem dX6_init_29 : decode cX6_init 29 = .ok (.getfield 20, 3) := by decide +kernel
theorem dX6_init_32 : decode cX6_init 32 = .ok (.sipush 301, 3) := by decide +kernel
theorem dX6_init_35 : decode cX6_init 35 = .ok (.invokevirtual 23, 3) := by decide +kernel
theorem dX6_init_38 : decode cX6_init 38 = .ok (.return_, 1) := by decide +kernel
theorem dX6_fillOnce_0 : decode cX6_fillOnce 0 = .ok (.aload_n 0, 1) := by decide +kernel
theorem dX6_fillOnce_1 : decode cX6_fillOnce 1 = .ok (.getfield 14, 3) := by decide +kernel
theorem dX6_fillOnce_4 : decode cX6_fillOnce 4 = .ok (.iconst 1, 1) := by decide +kernel
theorem dX6_fillOnce_5 : decode cX6_fillOnce 5 = .ok (.invokevirtual 26, 3) := by decide +kernel
theorem dX6_fillOnce_8 : decode cX6_fillOnce 8 = .ok (.iconst 0, 1) := by decide +kernel
theorem dX6_fillOnce_9 : decode cX6_fillOnce 9 = .ok (.istore_n 2, 1) := by decide +kernel
theorem dX6_fillOnce_10 : decode cX6_fillOnce 10 = .ok (.iload_n 2, 1) := by decide +kernel
theorem dX6_fillOnce_11 : decode cX6_fillOnce 11 = .ok (.aload_n 1, 1) := by decide +kernel
theorem dX6_fillOnce_12 : decode cX6_fillOnce 12 = .ok (.getfield 29, 3) := by decide +kernel
theorem dX6_fillOnce_15 : decode cX6_fillOnce 15 = .ok (.if_icmp .ge 25, 3) := by decide +kernel
theorem dX6_fillOnce_18 : decode cX6_fillOnce 18 = .ok (.aload_n 0, 1) := by decide +kernel
theorem dX6_fillOnce_19 : decode cX6_fillOnce 19 = .ok (.getfield 14, 3) := by decide +kernel
theorem dX6_fillOnce_22 : decode cX6_fillOnce 22 = .ok (.aload_n 0, 1) := by decide +kernel
theorem dX6_fillOnce_23 : decode cX6_fillOnce 23 = .ok (.getfield 14, 3) := by decide +kernel
theorem dX6_fillOnce_26 : decode cX6_fillOnce 26 = .ok (.aload_n 1, 1) := by decide +kernel
theorem dX6_fillOnce_27 : decode cX6_fillOnce 27 = .ok (.iload_n 2, 1) := by decide +kernel
theorem dX6_fillOnce_28 : decode cX6_fillOnce 28 = .ok (.invokevirtual 35, 3) := by decide +kernel
theorem dX6_fillOnce_31 : decode cX6_fillOnce 31 = .ok (.invokevirtual 39, 3) := by decide +kernel
theorem dX6_fillOnce_34 : decode cX6_fillOnce 34 = .ok (.iinc 2 1, 3) := by decide +kernel
theorem dX6_fillOnce_37 : decode cX6_fillOnce 37 = .ok (.goto (-27), 3) := by decide +kernel
theorem dX6_fillOnce_40 : decode cX6_fillOnce 40 = .ok (.return_, 1) := by decide +kernel
theorem dX6_fillOften_0 : decode cX6_fillOften 0 = .ok (.aload_n 0, 1) := by decide +kernel
theorem dX6_fillOften_1 : decode cX6_fillOften 1 = .ok (.getfield 14, 3) := by decide +kernel
theorem dX6_fillOften_4 : decode cX6_fillOften 4 = .ok (.iconst 1, 1) := by decide +kernel
theorem dX6_fillOften_5 : decode cX6_fillOften 5 = .ok (.invokevirtual 26, 3) := by decide +kernel
theorem dX6_fillOften_8 : decode cX6_fillOften 8 = .ok (.iconst 0, 1) := by decide +kernel
theorem dX6_fillOften_9 : decode cX6_fillOften 9 = .ok (.istore_n 2, 1) := by decide +kernel
theorem dX6_fillOften_10 : decode cX6_fillOften 10 = .ok (.iload_n 2, 1) := by decide +kernel
theorem dX6_fillOften_11 : decode cX6_fillOften 11 = .ok (.aload_n 1, 1) := by decide +kernel
theorem dX6_fillOften_12 : decode cX6_fillOften 12 = .ok (.getfield 29, 3) := by decide +kernel
theorem dX6_fillOften_15 : decode cX6_fillOften 15 = .ok (.if_icmp .ge 57, 3) := by decide +kernel
theorem dX6_fillOften_18 : decode cX6_fillOften 18 = .ok (.aload_n 1, 1) := by decide +kernel
theorem dX6_fillOften_19 : decode cX6_fillOften 19 = .ok (.iload_n 2, 1) := by decide +kernel
theorem dX6_fillOften_20 : decode cX6_fillOften 20 = .ok (.invokevirtual 35, 3) := by decide +kernel
theorem dX6_fillOften_23 : decode cX6_fillOften 23 = .ok (.istore_n 3, 1) := by decide +kernel
theorem dX6_fillOften_24 : decode cX6_fillOften 24 = .ok (.iload_n 3, 1) := by decide +kernel
theorem dX6_fillOften_25 : decode cX6_fillOften 25 = .ok (.ifCond .le 41, 3) := by decide +kernel
theorem dX6_fillOften_28 : decode cX6_fillOften 28 = .ok (.iload_n 3, 1) := by decide +kernel
theorem dX6_fillOften_29 : decode cX6_fillOften 29 = .ok (.sipush 300, 3) := by decide +kernel
theorem dX6_fillOften_32 : decode cX6_fillOften 32 = .ok (.if_icmp .gt 34, 3) := by decide +kernel
theorem dX6_fillOften_35 : decode cX6_fillOften 35 = .ok (.aload_n 0, 1) := by decide +kernel
theorem dX6_fillOften_36 : decode cX6_fillOften 36 = .ok (.getfield 14, 3) := by decide +kernel
theorem dX6_fillOften_39 : decode cX6_fillOften 39 = .ok (.aload_n 0, 1) := by decide +kernel
theorem dX6_fillOften_40 : decode cX6_fillOften 40 = .ok (.getfield 14, 3) := by decide +kernel
theorem dX6_fillOften_43 : decode cX6_fillOften 43 = .ok (.iload_n 3, 1) := by decide +kernel
theorem dX6_fillOften_44 : decode cX6_fillOften 44 = .ok (.invokevirtual 39, 3) := by decide +kernel
theorem dX6_fillOften_47 : decode cX6_fillOften 47 = .ok (.aload_n 0, 1) := by decide +kernel
theorem dX6_fillOften_48 : decode cX6_fillOften 48 = .ok (.getfield 14, 3) := by decide +kernel
theorem dX6_fillOften_51 : decode cX6_fillOften 51 = .ok (.aload_n 0, 1) := by decide +kernel
theorem dX6_fillOften_52 : decode cX6_fillOften 52 = .ok (.getfield 20, 3) := by decide +kernel
theorem dX6_fillOften_55 : decode cX6_fillOften 55 = .ok (.iconst 0, 1) := by decide +kernel
theorem dX6_fillOften_56 : decode cX6_fillOften 56 = .ok (.invokevirtual 43, 3) := by decide +kernel
theorem dX6_fillOften_59 : decode cX6_fillOften 59 = .ok (.iload_n 3, 1) := by decide +kernel
theorem dX6_fillOften_60 : decode cX6_fillOften 60 = .ok (.iload_n 3, 1) := by decide +kernel
theorem dX6_fillOften_61 : decode cX6_fillOften 61 = .ok (.iadd, 1) := by decide +kernel
theorem dX6_fillOften_62 : decode cX6_fillOften 62 = .ok (.istore_n 3, 1) := by decide +kernel
theorem dX6_fillOften_63 : decode cX6_fillOften 63 = .ok (.goto (-39), 3) := by decide +kernel
theorem dX6_fillOften_66 : decode cX6_fillOften 66 = .ok (.iinc 2 1, 3) := by decide +kernel
theorem dX6_fillOften_69 : decode cX6_fillOften 69 = .ok (.goto (-59), 3) := by decide +kernel
theorem dX6_fillOften_72 : decode cX6_fillOften 72 = .ok (.return_, 1) := by decide +kernel
theorem dX7_init_0 : decode cX7_init 0 = .ok (.aload_n 0, 1) := by decide +kernel
theorem dX7_init_1 : decode cX7_init 1 = .ok (.invokespecial 3, 3) := by decide +kernel
theorem dX7_init_4 : decode cX7_init 4 = .ok (.return_, 1) := by decide +kernel
theorem dX7_fill_0 : decode cX7_fill 0 = .ok (.aload_n 0, 1) := by decide +kernel
theorem dX7_fill_1 : decode cX7_fill 1 = .ok (.invokevirtual 9, 3) := by decide +kernel
theorem dX7_fill_4 : decode cX7_fill 4 = .ok (.iconst 0, 1) := by decide +kernel
theorem dX7_fill_5 : decode cX7_fill 5 = .ok (.istore_n 3, 1) := by decide +kernel
theorem dX7_fill_6 : decode cX7_fill 6 = .ok (.iload_n 3, 1) := by decide +kernel
theorem dX7_fill_7 : decode cX7_fill 7 = .ok (.aload_n 1, 1) := by decide +kernel
theorem dX7_fill_8 : decode cX7_fill 8 = .ok (.getfield 14, 3) := by decide +kernel
theorem dX7_fill_11 : decode cX7_fill 11 = .ok (.if_icmp .ge 19, 3) := by decide +kernel
theorem dX7_fill_14 : decode cX7_fill 14 = .ok (.aload_n 0, 1) := by decide +kernel
theorem dX7_fill_15 : decode cX7_fill 15 = .ok (.aload_n 1, 1) := by decide +kernel
theorem dX7_fill_16 : decode cX7_fill 16 = .ok (.iload_n 3, 1) := by decide +kernel
theorem dX7_fill_17 : decode cX7_fill 17 = .ok (.invokevirtual 20, 3) := by decide +kernel
theorem dX7_fill_20 : decode cX7_fill 20 = .ok (.iload_n 2, 1) := by decide +kernel
theorem dX7_fill_21 : decode cX7_fill 21 = .ok (.invokevirtual 24, 3) := by decide +kernel
theorem dX7_fill_24 : decode cX7_fill 24 = .ok (.iinc 3 1, 3) := by decide +kernel
theorem dX7_fill_27 : decode cX7_fill 27 = .ok (.goto (-21), 3) := by decide +kernel
theorem dX7_fill_30 : decode cX7_fill 30 = .ok (.return_, 1) := by decide +kernel
theorem dX7_take_0 : decode cX7_take 0 = .ok (.iload_n 1, 1) := by decide +kernel
theorem dX7_take_1 : decode cX7_take 1 = .ok (.iconst 1, 1) := by decide +kernel
theorem dX7_take_2 : decode cX7_take 2 = .ok (.if_icmp .lt 10, 3) := by decide +kernel
theorem dX7_take_5 : decode cX7_take 5 = .ok (.iload_n 1, 1) := by decide +kernel
theorem dX7_take_6 : decode cX7_take 6 = .ok (.sipush 300, 3) := by decide +kernel
theorem dX7_take_9 : decode cX7_take 9 = .ok (.if_icmp .le 4, 3) := by decide +kernel
theorem dX7_take_12 : decode cX7_take 12 = .ok (.return_, 1) := by decide +kernel
theorem dX7_take_13 : decode cX7_take 13 = .ok (.iload_n 2, 1) := by decide +kernel
theorem dX7_take_14 : decode cX7_take 14 = .ok (.ifCond .eq 29, 3) := by decide +kernel
theorem dX7_take_17 : decode cX7_take 17 = .ok (.iload_n 1, 1) := by decide +kernel
theorem dX7_take_18 : decode cX7_take 18 = .ok (.istore_n 3, 1) := by decide +kernel
theorem dX7_take_19 : decode cX7_take 19 = .ok (.iload_n 3, 1) := by decide +kernel
theorem dX7_take_20 : decode cX7_take 20 = .ok (.sipush 300, 3) := by decide +kernel
theorem dX7_take_23 : decode cX7_take 23 = .ok (.if_icmp .gt 17, 3) := by decide +kernel
theorem dX7_take_26 : decode cX7_take 26 = .ok (.aload_n 0, 1) := by decide +kernel
theorem dX7_take_27 : decode cX7_take 27 = .ok (.iload_n 3, 1) := by decide +kernel
theorem dX7_take_28 : decode cX7_take 28 = .ok (.iload_n 1, 1) := by decide +kernel
theorem dX7_take_29 : decode cX7_take 29 = .ok (.isub, 1) := by decide +kernel
theorem dX7_take_30 : decode cX7_take 30 = .ok (.iload_n 3, 1) := by decide +kernel
theorem dX7_take_31 : decode cX7_take 31 = .ok (.invokevirtual 28, 3) := by decide +kernel
theorem dX7_take_34 : decode cX7_take 34 = .ok (.iinc 3 1, 3) := by decide +kernel
theorem dX7_take_37 : decode cX7_take 37 = .ok (.goto (-18), 3) := by decide +kernel
theorem dX7_take_40 : decode cX7_take 40 = .ok (.goto 26, 3) := by decide +kernel
theorem dX7_take_43 : decode cX7_take 43 = .ok (.sipush 300, 3) := by decide +kernel
theorem dX7_take_46 : decode cX7_take 46 = .ok (.istore_n 3, 1) := by decide +kernel
theorem dX7_take_47 : decode cX7_take 47 = .ok (.iload_n 3, 1) := by decide +kernel
theorem dX7_take_48 : decode cX7_take 48 = .ok (.iload_n 1, 1) := by decide +kernel
theorem dX7_take_49 : decode cX7_take 49 = .ok (.if_icmp .lt 17, 3) := by decide +kernel
theorem dX7_take_52 : decode cX7_take 52 = .ok (.aload_n 0, 1) := by decide +kernel
theorem dX7_take_53 : decode cX7_take 53 = .ok (.iload_n 3, 1) := by decide +kernel
theorem dX7_take_54 : decode cX7_take 54 = .ok (.iload_n 1, 1) := by decide +kernel
theorem dX7_take_55 : decode cX7_take 55 = .ok (.isub, 1) := by decide +kernel
theorem dX7_take_56 : decode cX7_take 56 = .ok (.iload_n 3, 1) := by decide +kernel
theorem dX7_take_57 : decode cX7_take 57 = .ok (.invokevirtual 28, 3) := by decide +kernel
theorem dX7_take_60 : decode cX7_take 60 = .ok (.iinc 3 (-1), 3) := by decide +kernel
theorem dX7_take_63 : decode cX7_take 63 = .ok (.goto (-16), 3) := by decide +kernel
theorem dX7_take_66 : decode cX7_take 66 = .ok (.return_, 1) := by decide +kernel
theorem dX7_isCell_0 : decode cX7_isCell 0 = .ok (.iload_n 0, 1) := by decide +kernel
theorem dX7_isCell_1 : decode cX7_isCell 1 = .ok (.ifCond .lt 14, 3) := by decide +kernel
theorem dX7_isCell_4 : decode cX7_isCell 4 = .ok (.iload_n 0, 1) := by decide +kernel
theorem dX7_isCell_5 : decode cX7_isCell 5 = .ok (.sipush 300, 3) := by decide +kernel
theorem dX7_isCell_8 : decode cX7_isCell 8 = .ok (.if_icmp .gt 7, 3) := by decide +kernel
theorem dX7_isCell_11 : decode cX7_isCell 11 = .ok (.iconst 1, 1) := by decide +kernel
theorem dX7_isCell_12 : decode cX7_isCell 12 = .ok (.goto 4, 3) := by decide +kernel
theorem dX7_isCell_15 : decode cX7_isCell 15 = .ok (.iconst 0, 1) := by decide +kernel
theorem dX7_isCell_16 : decode cX7_isCell 16 = .ok (.ireturn, 1) := by decide +kernel
theorem dX8_init_0 : decode cX8_init 0 = .ok (.aload_n 0, 1) := by decide +kernel
theorem dX8_init_1 : decode cX8_init 1 = .ok (.invokespecial 3, 3) := by decide +kernel
theorem dX8_init_4 : decode cX8_init 4 = .ok (.aload_n 0, 1) := by decide +kernel
theorem dX8_init_5 : decode cX8_init 5 = .ok (.new 9, 3) := by decide +kernel
theorem dX8_init_8 : decode cX8_init 8 = .ok (.dup, 1) := by decide +kernel
theorem dX8_init_9 : decode cX8_init 9 = .ok (.invokespecial 11, 3) := by decide +kernel
theorem dX8_init_12 : decode cX8_init 12 = .ok (.putfield 12, 3) := by decide +kernel
theorem dX8_init_15 : decode cX8_init 15 = .ok (.aload_n 0, 1) := by decide +kernel
theorem dX8_init_16 : decode cX8_init 16 = .ok (.new 9, 3) := by decide +kernel
theorem dX8_init_19 : decode cX8_init 19 = .ok (.dup, 1) := by decide +kernel
theorem dX8_init_20 : decode cX8_init 20 = .ok (.invokespecial 11, 3) := by decide +kernel
theorem dX8_init_23 : decode cX8_init 23 = .ok (.putfield 18, 3) := by decide +kernel
theorem dX8_init_26 : decode cX8_init 26 = .ok (.aload_n 0, 1) := by decide +kernel
theorem dX8_init_27 : decode cX8_init 27 = .ok (.new 21, 3) := by decide +kernel
theorem dX8_init_30 : decode cX8_init 30 = .ok (.dup, 1) := by decide +kernel
theorem dX8_init_31 : decode cX8_init 31 = .ok (.invokespecial 23, 3) := by decide +kernel
theorem dX8_init_34 : decode cX8_init 34 = .ok (.putfield 24, 3) := by decide +kernel
theorem dX8_init_37 : decode cX8_init 37 = .ok (.aload_n 0, 1) := by decide +kernel
theorem dX8_init_38 : decode cX8_init 38 = .ok (.new 21, 3) := by decide +kernel
theorem dX8_init_41 : decode cX8_init 41 = .ok (.dup, 1) := by decide +kernel
theorem dX8_init_42 : decode cX8_init 42 = .ok (.invokespecial 23, 3) := by decide +kernel
theorem dX8_init_45 : decode cX8_init 45 = .ok (.putfield 28, 3) := by decide +kernel
theorem dX8_init_48 : decode cX8_init 48 = .ok (.aload_n 0, 1) := by decide +kernel
theorem dX8_init_49 : decode cX8_init 49 = .ok (.new 31, 3) := by decide +kernel
theorem dX8_init_52 : decode cX8_init 52 = .ok (.dup, 1) := by decide +kernel
theorem dX8_init_53 : decode cX8_init 53 = .ok (.invokespecial 33, 3) := by decide +kernel
theorem dX8_init_56 : decode cX8_init 56 = .ok (.putfield 34, 3) := by decide +kernel
theorem dX8_init_59 : decode cX8_init 59 = .ok (.aload_n 0, 1) := by decide +kernel
theorem dX8_init_60 : decode cX8_init 60 = .ok (.new 38, 3) := by decide +kernel
theorem dX8_init_63 : decode cX8_init 63 = .ok (.dup, 1) := by decide +kernel
theorem dX8_init_64 : decode cX8_init 64 = .ok (.invokespecial 40, 3) := by decide +kernel
theorem dX8_init_67 : decode cX8_init 67 = .ok (.putfield 41, 3) := by decide +kernel
theorem dX8_init_70 : decode cX8_init 70 = .ok (.aload_n 0, 1) := by decide +kernel
theorem dX8_init_71 : decode cX8_init 71 = .ok (.new 45, 3) := by decide +kernel
theorem dX8_init_74 : decode cX8_init 74 = .ok (.dup, 1) := by decide +kernel
theorem dX8_init_75 : decode cX8_init 75 = .ok (.invokespecial 47, 3) := by decide +kernel
theorem dX8_init_78 : decode cX8_init 78 = .ok (.putfield 48, 3) := by decide +kernel
theorem dX8_init_81 : decode cX8_init 81 = .ok (.aload_n 0, 1) := by decide +kernel
theorem dX8_init_82 : decode cX8_init 82 = .ok (.new 45, 3) := by decide +kernel
theorem dX8_init_85 : decode cX8_init 85 = .ok (.dup, 1) := by decide +kernel
theorem dX8_init_86 : decode cX8_init 86 = .ok (.invokespecial 47, 3) := by decide +kernel
theorem dX8_init_89 : decode cX8_init 89 = .ok (.putfield 52, 3) := by decide +kernel
theorem dX8_init_92 : decode cX8_init 92 = .ok (.aload_n 0, 1) := by decide +kernel
theorem dX8_init_93 : decode cX8_init 93 = .ok (.new 45, 3) := by decide +kernel
theorem dX8_init_96 : decode cX8_init 96 = .ok (.dup, 1) := by decide +kernel
theorem dX8_init_97 : decode cX8_init 97 = .ok (.invokespecial 47, 3) := by decide +kernel
theorem dX8_init_100 : decode cX8_init 100 = .ok (.putfield 55, 3) := by decide +kernel
theorem dX8_init_103 : decode cX8_init 103 = .ok (.aload_n 0, 1) := by decide +kernel
theorem dX8_init_104 : decode cX8_init 104 = .ok (.new 58, 3) := by decide +kernel
theorem dX8_init_107 : decode cX8_init 107 = .ok (.dup, 1) := by decide +kernel
theorem dX8_init_108 : decode cX8_init 108 = .ok (.iconst 5, 1) := by decide +kernel
theorem dX8_init_109 : decode cX8_init 109 = .ok (.invokespecial 60, 3) := by decide +kernel
theorem dX8_init_112 : decode cX8_init 112 = .ok (.putfield 63, 3) := by decide +kernel
theorem dX8_init_115 : decode cX8_init 115 = .ok (.aload_n 0, 1) := by decide +kernel
theorem dX8_init_116 : decode cX8_init 116 = .ok (.sipush 301, 3) := by decide +kernel
theorem dX8_init_119 : decode cX8_init 119 = .ok (.newarray .long, 2) := by decide +kernel
theorem dX8_init_121 : decode cX8_init 121 = .ok (.putfield 67, 3) := by decide +kernel
theorem dX8_init_124 : decode cX8_init 124 = .ok (.return_, 1) := by decide +kernel
theorem dX8_playOrders_0 : decode cX8_playOrders 0 = .ok (.aload_n 0, 1) := by decide +kernel
theorem dX8_playOrders_1 : decode cX8_playOrders 1 = .ok (.getfield 41, 3) := by decide +kernel
theorem dX8_playOrders_4 : decode cX8_playOrders 4 = .ok (.aload_n 1, 1) := by decide +kernel
theorem dX8_playOrders_5 : decode cX8_playOrders 5 = .ok (.iconst 0, 1) := by decide +kernel
theorem dX8_playOrders_6 : decode cX8_playOrders 6 = .ok (.invokevirtual 71, 3) := by decide +kernel
theorem dX8_playOrders_9 : decode cX8_playOrders 9 = .ok (.iconst 0, 1) := by decide +kernel
theorem dX8_playOrders_10 : decode cX8_playOrders 10 = .ok (.istore_n 2, 1) := by decide +kernel
theorem dX8_playOrders_11 : decode cX8_playOrders 11 = .ok (.iload_n 2, 1) := by decide +kernel
theorem dX8_playOrders_12 : decode cX8_playOrders 12 = .ok (.sipush 300, 3) := by decide +kernel
theorem dX8_playOrders_15 : decode cX8_playOrders 15 = .ok (.if_icmp .gt 23, 3) := by decide +kernel
theorem dX8_playOrders_18 : decode cX8_playOrders 18 = .ok (.aload_n 0, 1) := by decide +kernel
theorem dX8_playOrders_19 : decode cX8_playOrders 19 = .ok (.getfield 67, 3) := by decide +kernel
theorem dX8_playOrders_22 : decode cX8_playOrders 22 = .ok (.iload_n 2, 1) := by decide +kernel
theorem dX8_playOrders_23 : decode cX8_playOrders 23 = .ok (.aload_n 0, 1) := by decide +kernel
theorem dX8_playOrders_24 : decode cX8_playOrders 24 = .ok (.getfield 41, 3) := by decide +kernel
theorem dX8_playOrders_27 : decode cX8_playOrders 27 = .ok (.iload_n 2, 1) := by decide +kernel
theorem dX8_playOrders_28 : decode cX8_playOrders 28 = .ok (.invokevirtual 75, 3) := by decide +kernel
theorem dX8_playOrders_31 : decode cX8_playOrders 31 = .ok (.lastore, 1) := by decide +kernel
theorem dX8_playOrders_32 : decode cX8_playOrders 32 = .ok (.iinc 2 1, 3) := by decide +kernel
theorem dX8_playOrders_35 : decode cX8_playOrders 35 = .ok (.goto (-24), 3) := by decide +kernel
theorem dX8_playOrders_38 : decode cX8_playOrders 38 = .ok (.aload_n 0, 1) := by decide +kernel
theorem dX8_playOrders_39 : decode cX8_playOrders 39 = .ok (.getfield 12, 3) := by decide +kernel
theorem dX8_playOrders_42 : decode cX8_playOrders 42 = .ok (.aload_n 1, 1) := by decide +kernel
theorem dX8_playOrders_43 : decode cX8_playOrders 43 = .ok (.invokevirtual 79, 3) := by decide +kernel
theorem dX8_playOrders_46 : decode cX8_playOrders 46 = .ok (.aload_n 0, 1) := by decide +kernel
theorem dX8_playOrders_47 : decode cX8_playOrders 47 = .ok (.aload_n 0, 1) := by decide +kernel
theorem dX8_playOrders_48 : decode cX8_playOrders 48 = .ok (.getfield 12, 3) := by decide +kernel
theorem dX8_playOrders_51 : decode cX8_playOrders 51 = .ok (.invokevirtual 83, 3) := by decide +kernel
theorem dX8_playOrders_54 : decode cX8_playOrders 54 = .ok (.ifCond .eq 26, 3) := by decide +kernel
theorem dX8_playOrders_57 : decode cX8_playOrders 57 = .ok (.aload_n 0, 1) := by decide +kernel
theorem dX8_playOrders_58 : decode cX8_playOrders 58 = .ok (.aload_n 1, 1) := by decide +kernel
theorem dX8_playOrders_59 : decode cX8_playOrders 59 = .ok (.invokevirtual 83, 3) := by decide +kernel
theorem dX8_playOrders_62 : decode cX8_playOrders 62 = .ok (.ifCond .eq 18, 3) := by decide +kernel
theorem dX8_playOrders_65 : decode cX8_playOrders 65 = .ok (.aload_n 0, 1) := by decide +kernel
theorem dX8_playOrders_66 : decode cX8_playOrders 66 = .ok (.aload_n 1, 1) := by decide +kernel
theorem dX8_playOrders_67 : decode cX8_playOrders 67 = .ok (.invokevirtual 87, 3) := by decide +kernel
theorem dX8_playOrders_70 : decode cX8_playOrders 70 = .ok (.invokevirtual 91, 3) := by decide +kernel
theorem dX8_playOrders_73 : decode cX8_playOrders 73 = .ok (.ifCond .eq 7, 3) := by decide +kernel
theorem dX8_playOrders_76 : decode cX8_playOrders 76 = .ok (.iconst 1, 1) := by decide +kernel
theorem dX8_playOrders_77 : decode cX8_playOrders 77 = .ok (.goto 4, 3) := by decide +kernel
theorem dX8_playOrders_80 : decode cX8_playOrders 80 = .ok (.iconst 0, 1) := by decide +kernel
theorem dX8_playOrders_81 : decode cX8_playOrders 81 = .ok (.ireturn, 1) := by decide +kernel
theorem dX8_playOneByOne_0 : decode cX8_playOneByOne 0 = .ok (.aload_n 0, 1) := by decide +kernel
theorem dX8_playOneByOne_1 : decode cX8_playOneByOne 1 = .ok (.getfield 12, 3) := by decide +kernel
theorem dX8_playOneByOne_4 : decode cX8_playOneByOne 4 = .ok (.aload_n 1, 1) := by decide +kernel
theorem dX8_playOneByOne_5 : decode cX8_playOneByOne 5 = .ok (.iload_n 2, 1) := by decide +kernel
theorem dX8_playOneByOne_6 : decode cX8_playOneByOne 6 = .ok (.invokevirtual 95, 3) := by decide +kernel
theorem dX8_playOneByOne_9 : decode cX8_playOneByOne 9 = .ok (.iconst 0, 1) := by decide +kernel
theorem dX8_playOneByOne_10 : decode cX8_playOneByOne 10 = .ok (.istore_n 3, 1) := by decide +kernel
theorem dX8_playOneByOne_11 : decode cX8_playOneByOne 11 = .ok (.iload_n 3, 1) := by decide +kernel
theorem dX8_playOneByOne_12 : decode cX8_playOneByOne 12 = .ok (.sipush 300, 3) := by decide +kernel
theorem dX8_playOneByOne_15 : decode cX8_playOneByOne 15 = .ok (.if_icmp .gt 16, 3) := by decide +kernel
theorem dX8_playOneByOne_18 : decode cX8_playOneByOne 18 = .ok (.aload_n 0, 1) := by decide +kernel
theorem dX8_playOneByOne_19 : decode cX8_playOneByOne 19 = .ok (.getfield 67, 3) := by decide +kernel
theorem dX8_playOneByOne_22 : decode cX8_playOneByOne 22 = .ok (.iload_n 3, 1) := by decide +kernel
theorem dX8_playOneByOne_23 : decode cX8_playOneByOne 23 = .ok (.lconst 0, 1) := by decide +kernel
theorem dX8_playOneByOne_24 : decode cX8_playOneByOne 24 = .ok (.lastore, 1) := by decide +kernel
theorem dX8_playOneByOne_25 : decode cX8_playOneByOne 25 = .ok (.iinc 3 1, 3) := by decide +kernel
theorem dX8_playOneByOne_28 : decode cX8_playOneByOne 28 = .ok (.goto (-17), 3) := by decide +kernel
theorem dX8_playOneByOne_31 : decode cX8_playOneByOne 31 = .ok (.iconst 1, 1) := by decide +kernel
theorem dX8_playOneByOne_32 : decode cX8_playOneByOne 32 = .ok (.aload_n 0, 1) := by decide +kernel
theorem dX8_playOneByOne_33 : decode cX8_playOneByOne 33 = .ok (.getfield 12, 3) := by decide +kernel
theorem dX8_playOneByOne_36 : decode cX8_playOneByOne 36 = .ok (.getfield 99, 3) := by decide +kernel
theorem dX8_playOneByOne_39 : decode cX8_playOneByOne 39 = .ok (.ishl, 1) := by decide +kernel
theorem dX8_playOneByOne_40 : decode cX8_playOneByOne 40 = .ok (.istore_n 3, 1) := by decide +kernel
theorem dX8_playOneByOne_41 : decode cX8_playOneByOne 41 = .ok (.iconst 0, 1) := by decide +kernel
theorem dX8_playOneByOne_42 : decode cX8_playOneByOne 42 = .ok (.istore 4, 2) := by decide +kernel
theorem dX8_playOneByOne_44 : decode cX8_playOneByOne 44 = .ok (.iload 4, 2) := by decide +kernel
theorem dX8_playOneByOne_46 : decode cX8_playOneByOne 46 = .ok (.iload_n 3, 1) := by decide +kernel
theorem dX8_playOneByOne_47 : decode cX8_playOneByOne 47 = .ok (.if_icmp .ge 44, 3) := by decide +kernel
theorem dX8_playOneByOne_50 : decode cX8_playOneByOne 50 = .ok (.aload_n 0, 1) := by decide +kernel
theorem dX8_playOneByOne_51 : decode cX8_playOneByOne 51 = .ok (.getfield 12, 3) := by decide +kernel
theorem dX8_playOneByOne_54 : decode cX8_playOneByOne 54 = .ok (.iload 4, 2) := by decide +kernel
theorem dX8_playOneByOne_56 : decode cX8_playOneByOne 56 = .ok (.invokevirtual 103, 3) := by decide +kernel
theorem dX8_playOneByOne_59 : decode cX8_playOneByOne 59 = .ok (.istore 5, 2) := by decide +kernel
theorem dX8_playOneByOne_61 : decode cX8_playOneByOne 61 = .ok (.iload 5, 2) := by decide +kernel
theorem dX8_playOneByOne_63 : decode cX8_playOneByOne 63 = .ok (.ifCond .lt 22, 3) := by decide +kernel
theorem dX8_playOneByOne_66 : decode cX8_playOneByOne 66 = .ok (.iload 5, 2) := by decide +kernel
theorem dX8_playOneByOne_68 : decode cX8_playOneByOne 68 = .ok (.sipush 300, 3) := by decide +kernel
theorem dX8_playOneByOne_71 : decode cX8_playOneByOne 71 = .ok (.if_icmp .gt 14, 3) := by decide +kernel
theorem dX8_playOneByOne_74 : decode cX8_playOneByOne 74 = .ok (.aload_n 0, 1) := by decide +kernel
theorem dX8_playOneByOne_75 : decode cX8_playOneByOne 75 = .ok (.getfield 67, 3) := by decide +kernel
theorem dX8_playOneByOne_78 : decode cX8_playOneByOne 78 = .ok (.iload 5, 2) := by decide +kernel
theorem dX8_playOneByOne_80 : decode cX8_playOneByOne 80 = .ok (.dup2, 1) := by decide +kernel
theorem dX8_playOneByOne_81 : decode cX8_playOneByOne 81 = .ok (.laload, 1) := by decide +kernel
theorem dX8_playOneByOne_82 : decode cX8_playOneByOne 82 = .ok (.lconst 1, 1) := by decide +kernel
theorem dX8_playOneByOne_83 : decode cX8_playOneByOne 83 = .ok (.ladd, 1) := by decide +kernel
theorem dX8_playOneByOne_84 : decode cX8_playOneByOne 84 = .ok (.lastore, 1) := by decide +kernel
theorem dX8_playOneByOne_85 : decode cX8_playOneByOne 85 = .ok (.iinc 4 1, 3) := by decide +kernel
theorem dX8_playOneByOne_88 : decode cX8_playOneByOne 88 = .ok (.goto (-44), 3) := by decide +kernel
theorem dX8_playOneByOne_91 : decode cX8_playOneByOne 91 = .ok (.aload_n 0, 1) := by decide +kernel
theorem dX8_playOneByOne_92 : decode cX8_playOneByOne 92 = .ok (.aload_n 0, 1) := by decide +kernel
theorem dX8_playOneByOne_93 : decode cX8_playOneByOne 93 = .ok (.getfield 12, 3) := by decide +kernel
theorem dX8_playOneByOne_96 : decode cX8_playOneByOne 96 = .ok (.invokevirtual 83, 3) := by decide +kernel
theorem dX8_playOneByOne_99 : decode cX8_playOneByOne 99 = .ok (.ireturn, 1) := by decide +kernel
theorem dX8_playOften_0 : decode cX8_playOften 0 = .ok (.aload_n 0, 1) := by decide +kernel
theorem dX8_playOften_1 : decode cX8_playOften 1 = .ok (.getfield 24, 3) := by decide +kernel
theorem dX8_playOften_4 : decode cX8_playOften 4 = .ok (.aload_n 1, 1) := by decide +kernel
theorem dX8_playOften_5 : decode cX8_playOften 5 = .ok (.invokevirtual 107, 3) := by decide +kernel
theorem dX8_playOften_8 : decode cX8_playOften 8 = .ok (.aload_n 0, 1) := by decide +kernel
theorem dX8_playOften_9 : decode cX8_playOften 9 = .ok (.getfield 34, 3) := by decide +kernel
theorem dX8_playOften_12 : decode cX8_playOften 12 = .ok (.aload_n 1, 1) := by decide +kernel
theorem dX8_playOften_13 : decode cX8_playOften 13 = .ok (.iconst 1, 1) := by decide +kernel
theorem dX8_playOften_14 : decode cX8_playOften 14 = .ok (.invokevirtual 110, 3) := by decide +kernel
theorem dX8_playOften_17 : decode cX8_playOften 17 = .ok (.iconst 0, 1) := by decide +kernel
theorem dX8_playOften_18 : decode cX8_playOften 18 = .ok (.istore_n 2, 1) := by decide +kernel
theorem dX8_playOften_19 : decode cX8_playOften 19 = .ok (.iload_n 2, 1) := by decide +kernel
theorem dX8_playOften_20 : decode cX8_playOften 20 = .ok (.sipush 300, 3) := by decide +kernel
theorem dX8_playOften_23 : decode cX8_playOften 23 = .ok (.if_icmp .gt 79, 3) := by decide +kernel
theorem dX8_playOften_26 : decode cX8_playOften 26 = .ok (.aload_n 0, 1) := by decide +kernel
theorem dX8_playOften_27 : decode cX8_playOften 27 = .ok (.getfield 67, 3) := by decide +kernel
theorem dX8_playOften_30 : decode cX8_playOften 30 = .ok (.iload_n 2, 1) := by decide +kernel
theorem dX8_playOften_31 : decode cX8_playOften 31 = .ok (.iload_n 2, 1) := by decide +kernel
theorem dX8_playOften_32 : decode cX8_playOften 32 = .ok (.ifCond .eq 12, 3) := by decide +kernel
theorem dX8_playOften_35 : decode cX8_playOften 35 = .ok (.aload_n 0, 1) := by decide +kernel
theorem dX8_playOften_36 : decode cX8_playOften 36 = .ok (.iload_n 2, 1) := by decide +kernel
theorem dX8_playOften_37 : decode cX8_playOften 37 = .ok (.aload_n 1, 1) := by decide +kernel
theorem dX8_playOften_38 : decode cX8_playOften 38 = .ok (.invokevirtual 111, 3) := by decide +kernel
theorem dX8_playOften_41 : decode cX8_playOften 41 = .ok (.ifCond .eq 7, 3) := by decide +kernel
theorem dX8_playOften_44 : decode cX8_playOften 44 = .ok (.lconst 1, 1) := by decide +kernel
theorem dX8_playOften_45 : decode cX8_playOften 45 = .ok (.goto 4, 3) := by decide +kernel
theorem dX8_playOften_48 : decode cX8_playOften 48 = .ok (.lconst 0, 1) := by decide +kernel
theorem dX8_playOften_49 : decode cX8_playOften 49 = .ok (.lastore, 1) := by decide +kernel
theorem dX8_playOften_50 : decode cX8_playOften 50 = .ok (.aload_n 0, 1) := by decide +kernel
theorem dX8_playOften_51 : decode cX8_playOften 51 = .ok (.getfield 67, 3) := by decide +kernel
theorem dX8_playOften_54 : decode cX8_playOften 54 = .ok (.iload_n 2, 1) := by decide +kernel
theorem dX8_playOften_55 : decode cX8_playOften 55 = .ok (.laload, 1) := by decide +kernel
theorem dX8_playOften_56 : decode cX8_playOften 56 = .ok (.lconst 0, 1) := by decide +kernel
theorem dX8_playOften_57 : decode cX8_playOften 57 = .ok (.lcmp, 1) := by decide +kernel
theorem dX8_playOften_58 : decode cX8_playOften 58 = .ok (.ifCond .eq 7, 3) := by decide +kernel
theorem dX8_playOften_61 : decode cX8_playOften 61 = .ok (.iconst 1, 1) := by decide +kernel
theorem dX8_playOften_62 : decode cX8_playOften 62 = .ok (.goto 4, 3) := by decide +kernel
theorem dX8_playOften_65 : decode cX8_playOften 65 = .ok (.iconst 0, 1) := by decide +kernel
theorem dX8_playOften_66 : decode cX8_playOften 66 = .ok (.istore_n 3, 1) := by decide +kernel
theorem dX8_playOften_67 : decode cX8_playOften 67 = .ok (.aload_n 0, 1) := by decide +kernel
theorem dX8_playOften_68 : decode cX8_playOften 68 = .ok (.getfield 24, 3) := by decide +kernel
theorem dX8_playOften_71 : decode cX8_playOften 71 = .ok (.getfield 115, 3) := by decide +kernel
theorem dX8_playOften_74 : decode cX8_playOften 74 = .ok (.iload_n 2, 1) := by decide +kernel
theorem dX8_playOften_75 : decode cX8_playOften 75 = .ok (.invokevirtual 118, 3) := by decide +kernel
theorem dX8_playOften_78 : decode cX8_playOften 78 = .ok (.iload_n 3, 1) := by decide +kernel
theorem dX8_playOften_79 : decode cX8_playOften 79 = .ok (.if_icmp .ne 15, 3) := by decide +kernel
theorem dX8_playOften_82 : decode cX8_playOften 82 = .ok (.aload_n 0, 1) := by decide +kernel
theorem dX8_playOften_83 : decode cX8_playOften 83 = .ok (.getfield 34, 3) := by decide +kernel
theorem dX8_playOften_86 : decode cX8_playOften 86 = .ok (.iload_n 2, 1) := by decide +kernel
theorem dX8_playOften_87 : decode cX8_playOften 87 = .ok (.invokevirtual 121, 3) := by decide +kernel
theorem dX8_playOften_90 : decode cX8_playOften 90 = .ok (.iload_n 3, 1) := by decide +kernel
theorem dX8_playOften_91 : decode cX8_playOften 91 = .ok (.if_icmp .eq 5, 3) := by decide +kernel
theorem dX8_playOften_94 : decode cX8_playOften 94 = .ok (.iconst 0, 1) := by decide +kernel
theorem dX8_playOften_95 : decode cX8_playOften 95 = .ok (.ireturn, 1) := by decide +kernel
theorem dX8_playOften_96 : decode cX8_playOften 96 = .ok (.iinc 2 1, 3) := by decide +kernel
theorem dX8_playOften_99 : decode cX8_playOften 99 = .ok (.goto (-80), 3) := by decide +kernel
theorem dX8_playOften_102 : decode cX8_playOften 102 = .ok (.aload_n 0, 1) := by decide +kernel
theorem dX8_playOften_103 : decode cX8_playOften 103 = .ok (.invokevirtual 122, 3) := by decide +kernel
theorem dX8_playOften_106 : decode cX8_playOften 106 = .ok (.ireturn, 1) := by decide +kernel
theorem dX8_playLeftOut_0 : decode cX8_playLeftOut 0 = .ok (.aload_n 1, 1) := by decide +kernel
theorem dX8_playLeftOut_1 : decode cX8_playLeftOut 1 = .ok (.iload_n 2, 1) := by decide +kernel
theorem dX8_playLeftOut_2 : decode cX8_playLeftOut 2 = .ok (.invokevirtual 126, 3) := by decide +kernel
theorem dX8_playLeftOut_5 : decode cX8_playLeftOut 5 = .ok (.istore_n 3, 1) := by decide +kernel
theorem dX8_playLeftOut_6 : decode cX8_playLeftOut 6 = .ok (.aload_n 0, 1) := by decide +kernel
theorem dX8_playLeftOut_7 : decode cX8_playLeftOut 7 = .ok (.getfield 12, 3) := by decide +kernel
theorem dX8_playLeftOut_10 : decode cX8_playLeftOut 10 = .ok (.aload_n 1, 1) := by decide +kernel
theorem dX8_playLeftOut_11 : decode cX8_playLeftOut 11 = .ok (.iconst 1, 1) := by decide +kernel
theorem dX8_playLeftOut_12 : decode cX8_playLeftOut 12 = .ok (.iload_n 2, 1) := by decide +kernel
theorem dX8_playLeftOut_13 : decode cX8_playLeftOut 13 = .ok (.ishl, 1) := by decide +kernel
theorem dX8_playLeftOut_14 : decode cX8_playLeftOut 14 = .ok (.iconst (-1), 1) := by decide +kernel
theorem dX8_playLeftOut_15 : decode cX8_playLeftOut 15 = .ok (.ixor, 1) := by decide +kernel
theorem dX8_playLeftOut_16 : decode cX8_playLeftOut 16 = .ok (.invokevirtual 95, 3) := by decide +kernel
theorem dX8_playLeftOut_19 : decode cX8_playLeftOut 19 = .ok (.aload_n 0, 1) := by decide +kernel
theorem dX8_playLeftOut_20 : decode cX8_playLeftOut 20 = .ok (.getfield 48, 3) := by decide +kernel
theorem dX8_playLeftOut_23 : decode cX8_playLeftOut 23 = .ok (.aload_n 1, 1) := by decide +kernel
theorem dX8_playLeftOut_24 : decode cX8_playLeftOut 24 = .ok (.invokevirtual 129, 3) := by decide +kernel
theorem dX8_playLeftOut_27 : decode cX8_playLeftOut 27 = .ok (.aload_n 0, 1) := by decide +kernel
theorem dX8_playLeftOut_28 : decode cX8_playLeftOut 28 = .ok (.getfield 52, 3) := by decide +kernel
theorem dX8_playLeftOut_31 : decode cX8_playLeftOut 31 = .ok (.aload_n 0, 1) := by decide +kernel
theorem dX8_playLeftOut_32 : decode cX8_playLeftOut 32 = .ok (.getfield 12, 3) := by decide +kernel
theorem dX8_playLeftOut_35 : decode cX8_playLeftOut 35 = .ok (.invokevirtual 129, 3) := by decide +kernel
theorem dX8_playLeftOut_38 : decode cX8_playLeftOut 38 = .ok (.aload_n 0, 1) := by decide +kernel
theorem dX8_playLeftOut_39 : decode cX8_playLeftOut 39 = .ok (.getfield 28, 3) := by decide +kernel
theorem dX8_playLeftOut_42 : decode cX8_playLeftOut 42 = .ok (.aload_n 0, 1) := by decide +kernel
theorem dX8_playLeftOut_43 : decode cX8_playLeftOut 43 = .ok (.getfield 12, 3) := by decide +kernel
theorem dX8_playLeftOut_46 : decode cX8_playLeftOut 46 = .ok (.invokevirtual 131, 3) := by decide +kernel
theorem dX8_playLeftOut_49 : decode cX8_playLeftOut 49 = .ok (.iconst 0, 1) := by decide +kernel
theorem dX8_playLeftOut_50 : decode cX8_playLeftOut 50 = .ok (.istore 4, 2) := by decide +kernel
theorem dX8_playLeftOut_52 : decode cX8_playLeftOut 52 = .ok (.iload 4, 2) := by decide +kernel
theorem dX8_playLeftOut_54 : decode cX8_playLeftOut 54 = .ok (.sipush 300, 3) := by decide +kernel
theorem dX8_playLeftOut_57 : decode cX8_playLeftOut 57 = .ok (.if_icmp .gt 108, 3) := by decide +kernel
theorem dX8_playLeftOut_60 : decode cX8_playLeftOut 60 = .ok (.iload_n 3, 1) := by decide +kernel
theorem dX8_playLeftOut_61 : decode cX8_playLeftOut 61 = .ok (.ifCond .le 21, 3) := by decide +kernel
theorem dX8_playLeftOut_64 : decode cX8_playLeftOut 64 = .ok (.iload 4, 2) := by decide +kernel
theorem dX8_playLeftOut_66 : decode cX8_playLeftOut 66 = .ok (.iload_n 3, 1) := by decide +kernel
theorem dX8_playLeftOut_67 : decode cX8_playLeftOut 67 = .ok (.if_icmp .lt 15, 3) := by decide +kernel
theorem dX8_playLeftOut_70 : decode cX8_playLeftOut 70 = .ok (.aload_n 0, 1) := by decide +kernel
theorem dX8_playLeftOut_71 : decode cX8_playLeftOut 71 = .ok (.getfield 67, 3) := by decide +kernel
theorem dX8_playLeftOut_74 : decode cX8_playLeftOut 74 = .ok (.iload 4, 2) := by decide +kernel
theorem dX8_playLeftOut_76 : decode cX8_playLeftOut 76 = .ok (.iload_n 3, 1) := by decide +kernel
theorem dX8_playLeftOut_77 : decode cX8_playLeftOut 77 = .ok (.isub, 1) := by decide +kernel
theorem dX8_playLeftOut_78 : decode cX8_playLeftOut 78 = .ok (.laload, 1) := by decide +kernel
theorem dX8_playLeftOut_79 : decode cX8_playLeftOut 79 = .ok (.goto 4, 3) := by decide +kernel
theorem dX8_playLeftOut_82 : decode cX8_playLeftOut 82 = .ok (.lconst 0, 1) := by decide +kernel
theorem dX8_playLeftOut_83 : decode cX8_playLeftOut 83 = .ok (.lstore 5, 2) := by decide +kernel
theorem dX8_playLeftOut_85 : decode cX8_playLeftOut 85 = .ok (.aload_n 0, 1) := by decide +kernel
theorem dX8_playLeftOut_86 : decode cX8_playLeftOut 86 = .ok (.getfield 48, 3) := by decide +kernel
theorem dX8_playLeftOut_89 : decode cX8_playLeftOut 89 = .ok (.iload 4, 2) := by decide +kernel
theorem dX8_playLeftOut_91 : decode cX8_playLeftOut 91 = .ok (.invokevirtual 134, 3) := by decide +kernel
theorem dX8_playLeftOut_94 : decode cX8_playLeftOut 94 = .ok (.lload 5, 2) := by decide +kernel
theorem dX8_playLeftOut_96 : decode cX8_playLeftOut 96 = .ok (.lsub, 1) := by decide +kernel
theorem dX8_playLeftOut_97 : decode cX8_playLeftOut 97 = .ok (.lstore 7, 2) := by decide +kernel
theorem dX8_playLeftOut_99 : decode cX8_playLeftOut 99 = .ok (.aload_n 0, 1) := by decide +kernel
theorem dX8_playLeftOut_100 : decode cX8_playLeftOut 100 = .ok (.getfield 67, 3) := by decide +kernel
theorem dX8_playLeftOut_103 : decode cX8_playLeftOut 103 = .ok (.iload 4, 2) := by decide +kernel
theorem dX8_playLeftOut_105 : decode cX8_playLeftOut 105 = .ok (.lload 7, 2) := by decide +kernel
theorem dX8_playLeftOut_107 : decode cX8_playLeftOut 107 = .ok (.lastore, 1) := by decide +kernel
theorem dX8_playLeftOut_108 : decode cX8_playLeftOut 108 = .ok (.lload 7, 2) := by decide +kernel
theorem dX8_playLeftOut_110 : decode cX8_playLeftOut 110 = .ok (.lconst 0, 1) := by decide +kernel
theorem dX8_playLeftOut_111 : decode cX8_playLeftOut 111 = .ok (.lcmp, 1) := by decide +kernel
theorem dX8_playLeftOut_112 : decode cX8_playLeftOut 112 = .ok (.ifCond .lt 45, 3) := by decide +kernel
theorem dX8_playLeftOut_115 : decode cX8_playLeftOut 115 = .ok (.lload 7, 2) := by decide +kernel
theorem dX8_playLeftOut_117 : decode cX8_playLeftOut 117 = .ok (.aload_n 0, 1) := by decide +kernel
theorem dX8_playLeftOut_118 : decode cX8_playLeftOut 118 = .ok (.getfield 52, 3) := by decide +kernel
theorem dX8_playLeftOut_121 : decode cX8_playLeftOut 121 = .ok (.iload 4, 2) := by decide +kernel
theorem dX8_playLeftOut_123 : decode cX8_playLeftOut 123 = .ok (.invokevirtual 134, 3) := by decide +kernel
theorem dX8_playLeftOut_126 : decode cX8_playLeftOut 126 = .ok (.lcmp, 1) := by decide +kernel
theorem dX8_playLeftOut_127 : decode cX8_playLeftOut 127 = .ok (.ifCond .ne 30, 3) := by decide +kernel
theorem dX8_playLeftOut_130 : decode cX8_playLeftOut 130 = .ok (.aload_n 0, 1) := by decide +kernel
theorem dX8_playLeftOut_131 : decode cX8_playLeftOut 131 = .ok (.getfield 28, 3) := by decide +kernel
theorem dX8_playLeftOut_134 : decode cX8_playLeftOut 134 = .ok (.getfield 115, 3) := by decide +kernel
theorem dX8_playLeftOut_137 : decode cX8_playLeftOut 137 = .ok (.iload 4, 2) := by decide +kernel
theorem dX8_playLeftOut_139 : decode cX8_playLeftOut 139 = .ok (.invokevirtual 118, 3) := by decide +kernel
theorem dX8_playLeftOut_142 : decode cX8_playLeftOut 142 = .ok (.lload 7, 2) := by decide +kernel
theorem dX8_playLeftOut_144 : decode cX8_playLeftOut 144 = .ok (.lconst 0, 1) := by decide +kernel
theorem dX8_playLeftOut_145 : decode cX8_playLeftOut 145 = .ok (.lcmp, 1) := by decide +kernel
theorem dX8_playLeftOut_146 : decode cX8_playLeftOut 146 = .ok (.ifCond .le 7, 3) := by decide +kernel
theorem dX8_playLeftOut_149 : decode cX8_playLeftOut 149 = .ok (.iconst 1, 1) := by decide +kernel
theorem dX8_playLeftOut_150 : decode cX8_playLeftOut 150 = .ok (.goto 4, 3) := by decide +kernel
theorem dX8_playLeftOut_153 : decode cX8_playLeftOut 153 = .ok (.iconst 0, 1) := by decide +kernel
theorem dX8_playLeftOut_154 : decode cX8_playLeftOut 154 = .ok (.if_icmp .eq 5, 3) := by decide +kernel
theorem dX8_playLeftOut_157 : decode cX8_playLeftOut 157 = .ok (.iconst 0, 1) := by decide +kernel
theorem dX8_playLeftOut_158 : decode cX8_playLeftOut 158 = .ok (.ireturn, 1) := by decide +kernel
theorem dX8_playLeftOut_159 : decode cX8_playLeftOut 159 = .ok (.iinc 4 1, 3) := by decide +kernel
theorem dX8_playLeftOut_162 : decode cX8_playLeftOut 162 = .ok (.goto (-110), 3) := by decide +kernel
theorem dX8_playLeftOut_165 : decode cX8_playLeftOut 165 = .ok (.iconst 1, 1) := by decide +kernel
theorem dX8_playLeftOut_166 : decode cX8_playLeftOut 166 = .ok (.ireturn, 1) := by decide +kernel
theorem dX8_playParts_0 : decode cX8_playParts 0 = .ok (.aload_n 0, 1) := by decide +kernel
theorem dX8_playParts_1 : decode cX8_playParts 1 = .ok (.getfield 12, 3) := by decide +kernel
theorem dX8_playParts_4 : decode cX8_playParts 4 = .ok (.aload_n 1, 1) := by decide +kernel
theorem dX8_playParts_5 : decode cX8_playParts 5 = .ok (.iload_n 2, 1) := by decide +kernel
theorem dX8_playParts_6 : decode cX8_playParts 6 = .ok (.invokevirtual 95, 3) := by decide +kernel
theorem dX8_playParts_9 : decode cX8_playParts 9 = .ok (.aload_n 0, 1) := by decide +kernel
theorem dX8_playParts_10 : decode cX8_playParts 10 = .ok (.getfield 18, 3) := by decide +kernel
theorem dX8_playParts_13 : decode cX8_playParts 13 = .ok (.aload_n 1, 1) := by decide +kernel
theorem dX8_playParts_14 : decode cX8_playParts 14 = .ok (.iload_n 2, 1) := by decide +kernel
theorem dX8_playParts_15 : decode cX8_playParts 15 = .ok (.iconst (-1), 1) := by decide +kernel
theorem dX8_playParts_16 : decode cX8_playParts 16 = .ok (.ixor, 1) := by decide +kernel
theorem dX8_playParts_17 : decode cX8_playParts 17 = .ok (.invokevirtual 95, 3) := by decide +kernel
theorem dX8_playParts_20 : decode cX8_playParts 20 = .ok (.aload_n 0, 1) := by decide +kernel
theorem dX8_playParts_21 : decode cX8_playParts 21 = .ok (.aload_n 1, 1) := by decide +kernel
theorem dX8_playParts_22 : decode cX8_playParts 22 = .ok (.invokevirtual 137, 3) := by decide +kernel
theorem dX8_playParts_25 : decode cX8_playParts 25 = .ok (.ifCond .eq 15, 3) := by decide +kernel
theorem dX8_playParts_28 : decode cX8_playParts 28 = .ok (.aload_n 0, 1) := by decide +kernel
theorem dX8_playParts_29 : decode cX8_playParts 29 = .ok (.aload_n 1, 1) := by decide +kernel
theorem dX8_playParts_30 : decode cX8_playParts 30 = .ok (.invokevirtual 140, 3) := by decide +kernel
theorem dX8_playParts_33 : decode cX8_playParts 33 = .ok (.ifCond .eq 7, 3) := by decide +kernel
theorem dX8_playParts_36 : decode cX8_playParts 36 = .ok (.iconst 1, 1) := by decide +kernel
theorem dX8_playParts_37 : decode cX8_playParts 37 = .ok (.goto 4, 3) := by decide +kernel
theorem dX8_playParts_40 : decode cX8_playParts 40 = .ok (.iconst 0, 1) := by decide +kernel
theorem dX8_playParts_41 : decode cX8_playParts 41 = .ok (.ireturn, 1) := by decide +kernel
theorem dX8_arePartsJoined_0 : decode cX8_arePartsJoined 0 = .ok (.aload_n 0, 1) := by decide +kernel
theorem dX8_arePartsJoined_1 : decode cX8_arePartsJoined 1 = .ok (.getfield 24, 3) := by decide +kernel
theorem dX8_arePartsJoined_4 : decode cX8_arePartsJoined 4 = .ok (.aload_n 1, 1) := by decide +kernel
theorem dX8_arePartsJoined_5 : decode cX8_arePartsJoined 5 = .ok (.invokevirtual 131, 3) := by decide +kernel
theorem dX8_arePartsJoined_8 : decode cX8_arePartsJoined 8 = .ok (.aload_n 0, 1) := by decide +kernel
theorem dX8_arePartsJoined_9 : decode cX8_arePartsJoined 9 = .ok (.getfield 28, 3) := by decide +kernel
theorem dX8_arePartsJoined_12 : decode cX8_arePartsJoined 12 = .ok (.aload_n 0, 1) := by decide +kernel
theorem dX8_arePartsJoined_13 : decode cX8_arePartsJoined 13 = .ok (.getfield 12, 3) := by decide +kernel
theorem dX8_arePartsJoined_16 : decode cX8_arePartsJoined 16 = .ok (.invokevirtual 131, 3) := by decide +kernel
theorem dX8_arePartsJoined_19 : decode cX8_arePartsJoined 19 = .ok (.aload_n 0, 1) := by decide +kernel
theorem dX8_arePartsJoined_20 : decode cX8_arePartsJoined 20 = .ok (.getfield 34, 3) := by decide +kernel
theorem dX8_arePartsJoined_23 : decode cX8_arePartsJoined 23 = .ok (.aload_n 0, 1) := by decide +kernel
theorem dX8_arePartsJoined_24 : decode cX8_arePartsJoined 24 = .ok (.getfield 18, 3) := by decide +kernel
theorem dX8_arePartsJoined_27 : decode cX8_arePartsJoined 27 = .ok (.iconst 0, 1) := by decide +kernel
theorem dX8_arePartsJoined_28 : decode cX8_arePartsJoined 28 = .ok (.invokevirtual 110, 3) := by decide +kernel
theorem dX8_arePartsJoined_31 : decode cX8_arePartsJoined 31 = .ok (.aload_n 0, 1) := by decide +kernel
theorem dX8_arePartsJoined_32 : decode cX8_arePartsJoined 32 = .ok (.getfield 63, 3) := by decide +kernel
theorem dX8_arePartsJoined_35 : decode cX8_arePartsJoined 35 = .ok (.iconst 0, 1) := by decide +kernel
theorem dX8_arePartsJoined_36 : decode cX8_arePartsJoined 36 = .ok (.invokevirtual 143, 3) := by decide +kernel
theorem dX8_arePartsJoined_39 : decode cX8_arePartsJoined 39 = .ok (.iconst 0, 1) := by decide +kernel
theorem dX8_arePartsJoined_40 : decode cX8_arePartsJoined 40 = .ok (.istore_n 2, 1) := by decide +kernel
theorem dX8_arePartsJoined_41 : decode cX8_arePartsJoined 41 = .ok (.iload_n 2, 1) := by decide +kernel
theorem dX8_arePartsJoined_42 : decode cX8_arePartsJoined 42 = .ok (.sipush 300, 3) := by decide +kernel
theorem dX8_arePartsJoined_45 : decode cX8_arePartsJoined 45 = .ok (.if_icmp .gt 35, 3) := by decide +kernel
theorem dX8_arePartsJoined_48 : decode cX8_arePartsJoined 48 = .ok (.aload_n 0, 1) := by decide +kernel
theorem dX8_arePartsJoined_49 : decode cX8_arePartsJoined 49 = .ok (.getfield 34, 3) := by decide +kernel
theorem dX8_arePartsJoined_52 : decode cX8_arePartsJoined 52 = .ok (.iload_n 2, 1) := by decide +kernel
theorem dX8_arePartsJoined_53 : decode cX8_arePartsJoined 53 = .ok (.invokevirtual 121, 3) := by decide +kernel
theorem dX8_arePartsJoined_56 : decode cX8_arePartsJoined 56 = .ok (.ifCond .eq 18, 3) := by decide +kernel
theorem dX8_arePartsJoined_59 : decode cX8_arePartsJoined 59 = .ok (.aload_n 0, 1) := by decide +kernel
theorem dX8_arePartsJoined_60 : decode cX8_arePartsJoined 60 = .ok (.getfield 63, 3) := by decide +kernel
theorem dX8_arePartsJoined_63 : decode cX8_arePartsJoined 63 = .ok (.aload_n 0, 1) := by decide +kernel
theorem dX8_arePartsJoined_64 : decode cX8_arePartsJoined 64 = .ok (.getfield 28, 3) := by decide +kernel
theorem dX8_arePartsJoined_67 : decode cX8_arePartsJoined 67 = .ok (.getfield 115, 3) := by decide +kernel
theorem dX8_arePartsJoined_70 : decode cX8_arePartsJoined 70 = .ok (.iload_n 2, 1) := by decide +kernel
theorem dX8_arePartsJoined_71 : decode cX8_arePartsJoined 71 = .ok (.invokevirtual 146, 3) := by decide +kernel
theorem dX8_arePartsJoined_74 : decode cX8_arePartsJoined 74 = .ok (.iinc 2 1, 3) := by decide +kernel
theorem dX8_arePartsJoined_77 : decode cX8_arePartsJoined 77 = .ok (.goto (-36), 3) := by decide +kernel
theorem dX8_arePartsJoined_80 : decode cX8_arePartsJoined 80 = .ok (.aload_n 0, 1) := by decide +kernel
theorem dX8_arePartsJoined_81 : decode cX8_arePartsJoined 81 = .ok (.getfield 63, 3) := by decide +kernel
theorem dX8_arePartsJoined_84 : decode cX8_arePartsJoined 84 = .ok (.aload_n 0, 1) := by decide +kernel
theorem dX8_arePartsJoined_85 : decode cX8_arePartsJoined 85 = .ok (.getfield 24, 3) := by decide +kernel
theorem dX8_arePartsJoined_88 : decode cX8_arePartsJoined 88 = .ok (.getfield 115, 3) := by decide +kernel
theorem dX8_arePartsJoined_91 : decode cX8_arePartsJoined 91 = .ok (.invokevirtual 150, 3) := by decide +kernel
theorem dX8_arePartsJoined_94 : decode cX8_arePartsJoined 94 = .ok (.ireturn, 1) := by decide +kernel
theorem dX8_arePartsCounted_0 : decode cX8_arePartsCounted 0 = .ok (.aload_n 0, 1) := by decide +kernel
theorem dX8_arePartsCounted_1 : decode cX8_arePartsCounted 1 = .ok (.getfield 48, 3) := by decide +kernel
theorem dX8_arePartsCounted_4 : decode cX8_arePartsCounted 4 = .ok (.aload_n 1, 1) := by decide +kernel
theorem dX8_arePartsCounted_5 : decode cX8_arePartsCounted 5 = .ok (.invokevirtual 129, 3) := by decide +kernel
theorem dX8_arePartsCounted_8 : decode cX8_arePartsCounted 8 = .ok (.aload_n 0, 1) := by decide +kernel
theorem dX8_arePartsCounted_9 : decode cX8_arePartsCounted 9 = .ok (.getfield 52, 3) := by decide +kernel
theorem dX8_arePartsCounted_12 : decode cX8_arePartsCounted 12 = .ok (.aload_n 0, 1) := by decide +kernel
theorem dX8_arePartsCounted_13 : decode cX8_arePartsCounted 13 = .ok (.getfield 12, 3) := by decide +kernel
theorem dX8_arePartsCounted_16 : decode cX8_arePartsCounted 16 = .ok (.invokevirtual 129, 3) := by decide +kernel
theorem dX8_arePartsCounted_19 : decode cX8_arePartsCounted 19 = .ok (.aload_n 0, 1) := by decide +kernel
theorem dX8_arePartsCounted_20 : decode cX8_arePartsCounted 20 = .ok (.getfield 55, 3) := by decide +kernel
theorem dX8_arePartsCounted_23 : decode cX8_arePartsCounted 23 = .ok (.aload_n 0, 1) := by decide +kernel
theorem dX8_arePartsCounted_24 : decode cX8_arePartsCounted 24 = .ok (.getfield 18, 3) := by decide +kernel
theorem dX8_arePartsCounted_27 : decode cX8_arePartsCounted 27 = .ok (.invokevirtual 129, 3) := by decide +kernel
theorem dX8_arePartsCounted_30 : decode cX8_arePartsCounted 30 = .ok (.iconst 0, 1) := by decide +kernel
theorem dX8_arePartsCounted_31 : decode cX8_arePartsCounted 31 = .ok (.istore_n 2, 1) := by decide +kernel
theorem dX8_arePartsCounted_32 : decode cX8_arePartsCounted 32 = .ok (.iload_n 2, 1) := by decide +kernel
theorem dX8_arePartsCounted_33 : decode cX8_arePartsCounted 33 = .ok (.sipush 300, 3) := by decide +kernel
theorem dX8_arePartsCounted_36 : decode cX8_arePartsCounted 36 = .ok (.if_icmp .gt 28, 3) := by decide +kernel
theorem dX8_arePartsCounted_39 : decode cX8_arePartsCounted 39 = .ok (.aload_n 0, 1) := by decide +kernel
theorem dX8_arePartsCounted_40 : decode cX8_arePartsCounted 40 = .ok (.iload_n 2, 1) := by decide +kernel
theorem dX8_arePartsCounted_41 : decode cX8_arePartsCounted 41 = .ok (.invokevirtual 154, 3) := by decide +kernel
theorem dX8_arePartsCounted_44 : decode cX8_arePartsCounted 44 = .ok (.aload_n 0, 1) := by decide +kernel
theorem dX8_arePartsCounted_45 : decode cX8_arePartsCounted 45 = .ok (.getfield 48, 3) := by decide +kernel
theorem dX8_arePartsCounted_48 : decode cX8_arePartsCounted 48 = .ok (.iload_n 2, 1) := by decide +kernel
theorem dX8_arePartsCounted_49 : decode cX8_arePartsCounted 49 = .ok (.invokevirtual 134, 3) := by decide +kernel
theorem dX8_arePartsCounted_52 : decode cX8_arePartsCounted 52 = .ok (.lcmp, 1) := by decide +kernel
theorem dX8_arePartsCounted_53 : decode cX8_arePartsCounted 53 = .ok (.ifCond .eq 5, 3) := by decide +kernel
theorem dX8_arePartsCounted_56 : decode cX8_arePartsCounted 56 = .ok (.iconst 0, 1) := by decide +kernel
theorem dX8_arePartsCounted_57 : decode cX8_arePartsCounted 57 = .ok (.ireturn, 1) := by decide +kernel
theorem dX8_arePartsCounted_58 : decode cX8_arePartsCounted 58 = .ok (.iinc 2 1, 3) := by decide +kernel
theorem dX8_arePartsCounted_61 : decode cX8_arePartsCounted 61 = .ok (.goto (-29), 3) := by decide +kernel
theorem dX8_arePartsCounted_64 : decode cX8_arePartsCounted 64 = .ok (.iconst 1, 1) := by decide +kernel
theorem dX8_arePartsCounted_65 : decode cX8_arePartsCounted 65 = .ok (.ireturn, 1) := by decide +kernel
theorem dX8_pairsOf_0 : decode cX8_pairsOf 0 = .ok (.lconst 0, 1) := by decide +kernel
theorem dX8_pairsOf_1 : decode cX8_pairsOf 1 = .ok (.lstore_n 2, 1) := by decide +kernel
theorem dX8_pairsOf_2 : decode cX8_pairsOf 2 = .ok (.iload_n 1, 1) := by decide +kernel
theorem dX8_pairsOf_3 : decode cX8_pairsOf 3 = .ok (.aload_n 0, 1) := by decide +kernel
theorem dX8_pairsOf_4 : decode cX8_pairsOf 4 = .ok (.getfield 12, 3) := by decide +kernel
theorem dX8_pairsOf_7 : decode cX8_pairsOf 7 = .ok (.invokevirtual 87, 3) := by decide +kernel
theorem dX8_pairsOf_10 : decode cX8_pairsOf 10 = .ok (.invokestatic 157, 3) := by decide +kernel
theorem dX8_pairsOf_13 : decode cX8_pairsOf 13 = .ok (.istore 4, 2) := by decide +kernel
theorem dX8_pairsOf_15 : decode cX8_pairsOf 15 = .ok (.iconst 0, 1) := by decide +kernel
theorem dX8_pairsOf_16 : decode cX8_pairsOf 16 = .ok (.iload_n 1, 1) := by decide +kernel
theorem dX8_pairsOf_17 : decode cX8_pairsOf 17 = .ok (.aload_n 0, 1) := by decide +kernel
theorem dX8_pairsOf_18 : decode cX8_pairsOf 18 = .ok (.getfield 18, 3) := by decide +kernel
theorem dX8_pairsOf_21 : decode cX8_pairsOf 21 = .ok (.invokevirtual 87, 3) := by decide +kernel
theorem dX8_pairsOf_24 : decode cX8_pairsOf 24 = .ok (.isub, 1) := by decide +kernel
theorem dX8_pairsOf_25 : decode cX8_pairsOf 25 = .ok (.invokestatic 163, 3) := by decide +kernel
theorem dX8_pairsOf_28 : decode cX8_pairsOf 28 = .ok (.istore 5, 2) := by decide +kernel
theorem dX8_pairsOf_30 : decode cX8_pairsOf 30 = .ok (.iload 5, 2) := by decide +kernel
theorem dX8_pairsOf_32 : decode cX8_pairsOf 32 = .ok (.iload 4, 2) := by decide +kernel
theorem dX8_pairsOf_34 : decode cX8_pairsOf 34 = .ok (.if_icmp .gt 33, 3) := by decide +kernel
theorem dX8_pairsOf_37 : decode cX8_pairsOf 37 = .ok (.lload_n 2, 1) := by decide +kernel
theorem dX8_pairsOf_38 : decode cX8_pairsOf 38 = .ok (.aload_n 0, 1) := by decide +kernel
theorem dX8_pairsOf_39 : decode cX8_pairsOf 39 = .ok (.getfield 52, 3) := by decide +kernel
theorem dX8_pairsOf_42 : decode cX8_pairsOf 42 = .ok (.iload 5, 2) := by decide +kernel
theorem dX8_pairsOf_44 : decode cX8_pairsOf 44 = .ok (.invokevirtual 134, 3) := by decide +kernel
theorem dX8_pairsOf_47 : decode cX8_pairsOf 47 = .ok (.aload_n 0, 1) := by decide +kernel
theorem dX8_pairsOf_48 : decode cX8_pairsOf 48 = .ok (.getfield 55, 3) := by decide +kernel
theorem dX8_pairsOf_51 : decode cX8_pairsOf 51 = .ok (.iload_n 1, 1) := by decide +kernel
theorem dX8_pairsOf_52 : decode cX8_pairsOf 52 = .ok (.iload 5, 2) := by decide +kernel
theorem dX8_pairsOf_54 : decode cX8_pairsOf 54 = .ok (.isub, 1) := by decide +kernel
theorem dX8_pairsOf_55 : decode cX8_pairsOf 55 = .ok (.invokevirtual 134, 3) := by decide +kernel
theorem dX8_pairsOf_58 : decode cX8_pairsOf 58 = .ok (.lmul, 1) := by decide +kernel
theorem dX8_pairsOf_59 : decode cX8_pairsOf 59 = .ok (.ladd, 1) := by decide +kernel
theorem dX8_pairsOf_60 : decode cX8_pairsOf 60 = .ok (.lstore_n 2, 1) := by decide +kernel
theorem dX8_pairsOf_61 : decode cX8_pairsOf 61 = .ok (.iinc 5 1, 3) := by decide +kernel
theorem dX8_pairsOf_64 : decode cX8_pairsOf 64 = .ok (.goto (-34), 3) := by decide +kernel
theorem dX8_pairsOf_67 : decode cX8_pairsOf 67 = .ok (.lload_n 2, 1) := by decide +kernel
theorem dX8_pairsOf_68 : decode cX8_pairsOf 68 = .ok (.lreturn, 1) := by decide +kernel
theorem dX8_areRowsAsFound_0 : decode cX8_areRowsAsFound 0 = .ok (.aload_n 0, 1) := by decide +kernel
theorem dX8_areRowsAsFound_1 : decode cX8_areRowsAsFound 1 = .ok (.getfield 24, 3) := by decide +kernel
theorem dX8_areRowsAsFound_4 : decode cX8_areRowsAsFound 4 = .ok (.aload_n 1, 1) := by decide +kernel
theorem dX8_areRowsAsFound_5 : decode cX8_areRowsAsFound 5 = .ok (.invokevirtual 131, 3) := by decide +kernel
theorem dX8_areRowsAsFound_8 : decode cX8_areRowsAsFound 8 = .ok (.aload_n 0, 1) := by decide +kernel
theorem dX8_areRowsAsFound_9 : decode cX8_areRowsAsFound 9 = .ok (.getfield 34, 3) := by decide +kernel
theorem dX8_areRowsAsFound_12 : decode cX8_areRowsAsFound 12 = .ok (.aload_n 1, 1) := by decide +kernel
theorem dX8_areRowsAsFound_13 : decode cX8_areRowsAsFound 13 = .ok (.iconst 0, 1) := by decide +kernel
theorem dX8_areRowsAsFound_14 : decode cX8_areRowsAsFound 14 = .ok (.invokevirtual 110, 3) := by decide +kernel
theorem dX8_areRowsAsFound_17 : decode cX8_areRowsAsFound 17 = .ok (.aload_n 0, 1) := by decide +kernel
theorem dX8_areRowsAsFound_18 : decode cX8_areRowsAsFound 18 = .ok (.getfield 48, 3) := by decide +kernel
theorem dX8_areRowsAsFound_21 : decode cX8_areRowsAsFound 21 = .ok (.aload_n 1, 1) := by decide +kernel
theorem dX8_areRowsAsFound_22 : decode cX8_areRowsAsFound 22 = .ok (.invokevirtual 129, 3) := by decide +kernel
theorem dX8_areRowsAsFound_25 : decode cX8_areRowsAsFound 25 = .ok (.lconst 0, 1) := by decide +kernel
theorem dX8_areRowsAsFound_26 : decode cX8_areRowsAsFound 26 = .ok (.lstore_n 2, 1) := by decide +kernel
theorem dX8_areRowsAsFound_27 : decode cX8_areRowsAsFound 27 = .ok (.iconst 0, 1) := by decide +kernel
theorem dX8_areRowsAsFound_28 : decode cX8_areRowsAsFound 28 = .ok (.istore 4, 2) := by decide +kernel
theorem dX8_areRowsAsFound_30 : decode cX8_areRowsAsFound 30 = .ok (.iload 4, 2) := by decide +kernel
theorem dX8_areRowsAsFound_32 : decode cX8_areRowsAsFound 32 = .ok (.sipush 300, 3) := by decide +kernel
theorem dX8_areRowsAsFound_35 : decode cX8_areRowsAsFound 35 = .ok (.if_icmp .gt 93, 3) := by decide +kernel
theorem dX8_areRowsAsFound_38 : decode cX8_areRowsAsFound 38 = .ok (.aload_n 0, 1) := by decide +kernel
theorem dX8_areRowsAsFound_39 : decode cX8_areRowsAsFound 39 = .ok (.getfield 67, 3) := by decide +kernel
theorem dX8_areRowsAsFound_42 : decode cX8_areRowsAsFound 42 = .ok (.iload 4, 2) := by decide +kernel
theorem dX8_areRowsAsFound_44 : decode cX8_areRowsAsFound 44 = .ok (.laload, 1) := by decide +kernel
theorem dX8_areRowsAsFound_45 : decode cX8_areRowsAsFound 45 = .ok (.lconst 0, 1) := by decide +kernel
theorem dX8_areRowsAsFound_46 : decode cX8_areRowsAsFound 46 = .ok (.lcmp, 1) := by decide +kernel
theorem dX8_areRowsAsFound_47 : decode cX8_areRowsAsFound 47 = .ok (.ifCond .eq 7, 3) := by decide +kernel
theorem dX8_areRowsAsFound_50 : decode cX8_areRowsAsFound 50 = .ok (.iconst 1, 1) := by decide +kernel
theorem dX8_areRowsAsFound_51 : decode cX8_areRowsAsFound 51 = .ok (.goto 4, 3) := by decide +kernel
theorem dX8_areRowsAsFound_54 : decode cX8_areRowsAsFound 54 = .ok (.iconst 0, 1) := by decide +kernel
theorem dX8_areRowsAsFound_55 : decode cX8_areRowsAsFound 55 = .ok (.istore 5, 2) := by decide +kernel
theorem dX8_areRowsAsFound_57 : decode cX8_areRowsAsFound 57 = .ok (.aload_n 0, 1) := by decide +kernel
theorem dX8_areRowsAsFound_58 : decode cX8_areRowsAsFound 58 = .ok (.getfield 24, 3) := by decide +kernel
theorem dX8_areRowsAsFound_61 : decode cX8_areRowsAsFound 61 = .ok (.getfield 115, 3) := by decide +kernel
theorem dX8_areRowsAsFound_64 : decode cX8_areRowsAsFound 64 = .ok (.iload 4, 2) := by decide +kernel
theorem dX8_areRowsAsFound_66 : decode cX8_areRowsAsFound 66 = .ok (.invokevirtual 118, 3) := by decide +kernel
theorem dX8_areRowsAsFound_69 : decode cX8_areRowsAsFound 69 = .ok (.iload 5, 2) := by decide +kernel
theorem dX8_areRowsAsFound_71 : decode cX8_areRowsAsFound 71 = .ok (.if_icmp .ne 37, 3) := by decide +kernel
theorem dX8_areRowsAsFound_74 : decode cX8_areRowsAsFound 74 = .ok (.aload_n 0, 1) := by decide +kernel
theorem dX8_areRowsAsFound_75 : decode cX8_areRowsAsFound 75 = .ok (.getfield 34, 3) := by decide +kernel
theorem dX8_areRowsAsFound_78 : decode cX8_areRowsAsFound 78 = .ok (.iload 4, 2) := by decide +kernel
theorem dX8_areRowsAsFound_80 : decode cX8_areRowsAsFound 80 = .ok (.invokevirtual 121, 3) := by decide +kernel
theorem dX8_areRowsAsFound_83 : decode cX8_areRowsAsFound 83 = .ok (.iload 5, 2) := by decide +kernel
theorem dX8_areRowsAsFound_85 : decode cX8_areRowsAsFound 85 = .ok (.if_icmp .ne 23, 3) := by decide +kernel
theorem dX8_areRowsAsFound_88 : decode cX8_areRowsAsFound 88 = .ok (.aload_n 0, 1) := by decide +kernel
theorem dX8_areRowsAsFound_89 : decode cX8_areRowsAsFound 89 = .ok (.getfield 48, 3) := by decide +kernel
theorem dX8_areRowsAsFound_92 : decode cX8_areRowsAsFound 92 = .ok (.iload 4, 2) := by decide +kernel
theorem dX8_areRowsAsFound_94 : decode cX8_areRowsAsFound 94 = .ok (.invokevirtual 134, 3) := by decide +kernel
theorem dX8_areRowsAsFound_97 : decode cX8_areRowsAsFound 97 = .ok (.aload_n 0, 1) := by decide +kernel
theorem dX8_areRowsAsFound_98 : decode cX8_areRowsAsFound 98 = .ok (.getfield 67, 3) := by decide +kernel
theorem dX8_areRowsAsFound_101 : decode cX8_areRowsAsFound 101 = .ok (.iload 4, 2) := by decide +kernel
theorem dX8_areRowsAsFound_103 : decode cX8_areRowsAsFound 103 = .ok (.laload, 1) := by decide +kernel
theorem dX8_areRowsAsFound_104 : decode cX8_areRowsAsFound 104 = .ok (.lcmp, 1) := by decide +kernel
theorem dX8_areRowsAsFound_105 : decode cX8_areRowsAsFound 105 = .ok (.ifCond .eq 5, 3) := by decide +kernel
theorem dX8_areRowsAsFound_108 : decode cX8_areRowsAsFound 108 = .ok (.iconst 0, 1) := by decide +kernel
theorem dX8_areRowsAsFound_109 : decode cX8_areRowsAsFound 109 = .ok (.ireturn, 1) := by decide +kernel
theorem dX8_areRowsAsFound_110 : decode cX8_areRowsAsFound 110 = .ok (.lload_n 2, 1) := by decide +kernel
theorem dX8_areRowsAsFound_111 : decode cX8_areRowsAsFound 111 = .ok (.aload_n 0, 1) := by decide +kernel
theorem dX8_areRowsAsFound_112 : decode cX8_areRowsAsFound 112 = .ok (.getfield 48, 3) := by decide +kernel
theorem dX8_areRowsAsFound_115 : decode cX8_areRowsAsFound 115 = .ok (.iload 4, 2) := by decide +kernel
theorem dX8_areRowsAsFound_117 : decode cX8_areRowsAsFound 117 = .ok (.invokevirtual 134, 3) := by decide +kernel
theorem dX8_areRowsAsFound_120 : decode cX8_areRowsAsFound 120 = .ok (.ladd, 1) := by decide +kernel
theorem dX8_areRowsAsFound_121 : decode cX8_areRowsAsFound 121 = .ok (.lstore_n 2, 1) := by decide +kernel
theorem dX8_areRowsAsFound_122 : decode cX8_areRowsAsFound 122 = .ok (.iinc 4 1, 3) := by decide +kernel
theorem dX8_areRowsAsFound_125 : decode cX8_areRowsAsFound 125 = .ok (.goto (-95), 3) := by decide +kernel
theorem dX8_areRowsAsFound_128 : decode cX8_areRowsAsFound 128 = .ok (.aload_n 0, 1) := by decide +kernel
theorem dX8_areRowsAsFound_129 : decode cX8_areRowsAsFound 129 = .ok (.invokevirtual 122, 3) := by decide +kernel
theorem dX8_areRowsAsFound_132 : decode cX8_areRowsAsFound 132 = .ok (.ifCond .eq 18, 3) := by decide +kernel
theorem dX8_areRowsAsFound_135 : decode cX8_areRowsAsFound 135 = .ok (.lload_n 2, 1) := by decide +kernel
theorem dX8_areRowsAsFound_136 : decode cX8_areRowsAsFound 136 = .ok (.lconst 1, 1) := by decide +kernel
theorem dX8_areRowsAsFound_137 : decode cX8_areRowsAsFound 137 = .ok (.aload_n 1, 1) := by decide +kernel
theorem dX8_areRowsAsFound_138 : decode cX8_areRowsAsFound 138 = .ok (.getfield 99, 3) := by decide +kernel
theorem dX8_areRowsAsFound_141 : decode cX8_areRowsAsFound 141 = .ok (.lshl, 1) := by decide +kernel
theorem dX8_areRowsAsFound_142 : decode cX8_areRowsAsFound 142 = .ok (.lcmp, 1) := by decide +kernel
theorem dX8_areRowsAsFound_143 : decode cX8_areRowsAsFound 143 = .ok (.ifCond .ne 7, 3) := by decide +kernel
theorem dX8_areRowsAsFound_146 : decode cX8_areRowsAsFound 146 = .ok (.iconst 1, 1) := by decide +kernel
theorem dX8_areRowsAsFound_147 : decode cX8_areRowsAsFound 147 = .ok (.goto 4, 3) := by decide +kernel
theorem dX8_areRowsAsFound_150 : decode cX8_areRowsAsFound 150 = .ok (.iconst 0, 1) := by decide +kernel
theorem dX8_areRowsAsFound_151 : decode cX8_areRowsAsFound 151 = .ok (.ireturn, 1) := by decide +kernel
theorem dX8_areSetsTold_0 : decode cX8_areSetsTold 0 = .ok (.aload_n 0, 1) := by decide +kernel
theorem dX8_areSetsTold_1 : decode cX8_areSetsTold 1 = .ok (.getfield 24, 3) := by decide +kernel
theorem dX8_areSetsTold_4 : decode cX8_areSetsTold 4 = .ok (.getfield 115, 3) := by decide +kernel
theorem dX8_areSetsTold_7 : decode cX8_areSetsTold 7 = .ok (.invokevirtual 166, 3) := by decide +kernel
theorem dX8_areSetsTold_10 : decode cX8_areSetsTold 10 = .ok (.aload_n 0, 1) := by decide +kernel
theorem dX8_areSetsTold_11 : decode cX8_areSetsTold 11 = .ok (.getfield 34, 3) := by decide +kernel
theorem dX8_areSetsTold_14 : decode cX8_areSetsTold 14 = .ok (.invokevirtual 169, 3) := by decide +kernel
theorem dX8_areSetsTold_17 : decode cX8_areSetsTold 17 = .ok (.if_icmp .ne 27, 3) := by decide +kernel
theorem dX8_areSetsTold_20 : decode cX8_areSetsTold 20 = .ok (.aload_n 0, 1) := by decide +kernel
theorem dX8_areSetsTold_21 : decode cX8_areSetsTold 21 = .ok (.getfield 24, 3) := by decide +kernel
theorem dX8_areSetsTold_24 : decode cX8_areSetsTold 24 = .ok (.getfield 115, 3) := by decide +kernel
theorem dX8_areSetsTold_27 : decode cX8_areSetsTold 27 = .ok (.invokevirtual 170, 3) := by decide +kernel
theorem dX8_areSetsTold_30 : decode cX8_areSetsTold 30 = .ok (.aload_n 0, 1) := by decide +kernel
theorem dX8_areSetsTold_31 : decode cX8_areSetsTold 31 = .ok (.getfield 34, 3) := by decide +kernel
theorem dX8_areSetsTold_34 : decode cX8_areSetsTold 34 = .ok (.invokevirtual 173, 3) := by decide +kernel
theorem dX8_areSetsTold_37 : decode cX8_areSetsTold 37 = .ok (.if_icmp .ne 7, 3) := by decide +kernel
theorem dX8_areSetsTold_40 : decode cX8_areSetsTold 40 = .ok (.iconst 1, 1) := by decide +kernel
theorem dX8_areSetsTold_41 : decode cX8_areSetsTold 41 = .ok (.goto 4, 3) := by decide +kernel
theorem dX8_areSetsTold_44 : decode cX8_areSetsTold 44 = .ok (.iconst 0, 1) := by decide +kernel
theorem dX8_areSetsTold_45 : decode cX8_areSetsTold 45 = .ok (.ireturn, 1) := by decide +kernel
theorem dX8_isMirrored_0 : decode cX8_isMirrored 0 = .ok (.iconst 0, 1) := by decide +kernel
theorem dX8_isMirrored_1 : decode cX8_isMirrored 1 = .ok (.istore_n 2, 1) := by decide +kernel
theorem dX8_isMirrored_2 : decode cX8_isMirrored 2 = .ok (.iload_n 2, 1) := by decide +kernel
theorem dX8_isMirrored_3 : decode cX8_isMirrored 3 = .ok (.iload_n 1, 1) := by decide +kernel
theorem dX8_isMirrored_4 : decode cX8_isMirrored 4 = .ok (.if_icmp .gt 38, 3) := by decide +kernel
theorem dX8_isMirrored_7 : decode cX8_isMirrored 7 = .ok (.aload_n 0, 1) := by decide +kernel
theorem dX8_isMirrored_8 : decode cX8_isMirrored 8 = .ok (.getfield 24, 3) := by decide +kernel
theorem dX8_isMirrored_11 : decode cX8_isMirrored 11 = .ok (.getfield 115, 3) := by decide +kernel
theorem dX8_isMirrored_14 : decode cX8_isMirrored 14 = .ok (.iload_n 2, 1) := by decide +kernel
theorem dX8_isMirrored_15 : decode cX8_isMirrored 15 = .ok (.invokevirtual 118, 3) := by decide +kernel
theorem dX8_isMirrored_18 : decode cX8_isMirrored 18 = .ok (.aload_n 0, 1) := by decide +kernel
theorem dX8_isMirrored_19 : decode cX8_isMirrored 19 = .ok (.getfield 24, 3) := by decide +kernel
theorem dX8_isMirrored_22 : decode cX8_isMirrored 22 = .ok (.getfield 115, 3) := by decide +kernel
theorem dX8_isMirrored_25 : decode cX8_isMirrored 25 = .ok (.iload_n 1, 1) := by decide +kernel
theorem dX8_isMirrored_26 : decode cX8_isMirrored 26 = .ok (.iload_n 2, 1) := by decide +kernel
theorem dX8_isMirrored_27 : decode cX8_isMirrored 27 = .ok (.isub, 1) := by decide +kernel
theorem dX8_isMirrored_28 : decode cX8_isMirrored 28 = .ok (.invokevirtual 118, 3) := by decide +kernel
theorem dX8_isMirrored_31 : decode cX8_isMirrored 31 = .ok (.if_icmp .eq 5, 3) := by decide +kernel
theorem dX8_isMirrored_34 : decode cX8_isMirrored 34 = .ok (.iconst 0, 1) := by decide +kernel
theorem dX8_isMirrored_35 : decode cX8_isMirrored 35 = .ok (.ireturn, 1) := by decide +kernel
theorem dX8_isMirrored_36 : decode cX8_isMirrored 36 = .ok (.iinc 2 1, 3) := by decide +kernel
theorem dX8_isMirrored_39 : decode cX8_isMirrored 39 = .ok (.goto (-37), 3) := by decide +kernel
theorem dX8_isMirrored_42 : decode cX8_isMirrored 42 = .ok (.iconst 1, 1) := by decide +kernel
theorem dX8_isMirrored_43 : decode cX8_isMirrored 43 = .ok (.ireturn, 1) := by decide +kernel
theorem dX8_isFoundBelow_0 : decode cX8_isFoundBelow 0 = .ok (.iconst 0, 1) := by decide +kernel
theorem dX8_isFoundBelow_1 : decode cX8_isFoundBelow 1 = .ok (.istore_n 3, 1) := by decide +kernel
theorem dX8_isFoundBelow_2 : decode cX8_isFoundBelow 2 = .ok (.iload_n 3, 1) := by decide +kernel
theorem dX8_isFoundBelow_3 : decode cX8_isFoundBelow 3 = .ok (.aload_n 2, 1) := by decide +kernel
theorem dX8_isFoundBelow_4 : decode cX8_isFoundBelow 4 = .ok (.getfield 99, 3) := by decide +kernel
theorem dX8_isFoundBelow_7 : decode cX8_isFoundBelow 7 = .ok (.if_icmp .ge 43, 3) := by decide +kernel
theorem dX8_isFoundBelow_10 : decode cX8_isFoundBelow 10 = .ok (.aload_n 2, 1) := by decide +kernel
theorem dX8_isFoundBelow_11 : decode cX8_isFoundBelow 11 = .ok (.iload_n 3, 1) := by decide +kernel
theorem dX8_isFoundBelow_12 : decode cX8_isFoundBelow 12 = .ok (.invokevirtual 126, 3) := by decide +kernel
theorem dX8_isFoundBelow_15 : decode cX8_isFoundBelow 15 = .ok (.istore 4, 2) := by decide +kernel
theorem dX8_isFoundBelow_17 : decode cX8_isFoundBelow 17 = .ok (.iload 4, 2) := by decide +kernel
theorem dX8_isFoundBelow_19 : decode cX8_isFoundBelow 19 = .ok (.ifCond .le 25, 3) := by decide +kernel
theorem dX8_isFoundBelow_22 : decode cX8_isFoundBelow 22 = .ok (.iload_n 1, 1) := by decide +kernel
theorem dX8_isFoundBelow_23 : decode cX8_isFoundBelow 23 = .ok (.iload 4, 2) := by decide +kernel
theorem dX8_isFoundBelow_25 : decode cX8_isFoundBelow 25 = .ok (.if_icmp .lt 19, 3) := by decide +kernel
theorem dX8_isFoundBelow_28 : decode cX8_isFoundBelow 28 = .ok (.aload_n 0, 1) := by decide +kernel
theorem dX8_isFoundBelow_29 : decode cX8_isFoundBelow 29 = .ok (.getfield 67, 3) := by decide +kernel
theorem dX8_isFoundBelow_32 : decode cX8_isFoundBelow 32 = .ok (.iload_n 1, 1) := by decide +kernel
theorem dX8_isFoundBelow_33 : decode cX8_isFoundBelow 33 = .ok (.iload 4, 2) := by decide +kernel
theorem dX8_isFoundBelow_35 : decode cX8_isFoundBelow 35 = .ok (.isub, 1) := by decide +kernel
theorem dX8_isFoundBelow_36 : decode cX8_isFoundBelow 36 = .ok (.laload, 1) := by decide +kernel
theorem dX8_isFoundBelow_37 : decode cX8_isFoundBelow 37 = .ok (.lconst 0, 1) := by decide +kernel
theorem dX8_isFoundBelow_38 : decode cX8_isFoundBelow 38 = .ok (.lcmp, 1) := by decide +kernel
theorem dX8_isFoundBelow_39 : decode cX8_isFoundBelow 39 = .ok (.ifCond .eq 5, 3) := by decide +kernel
theorem dX8_isFoundBelow_42 : decode cX8_isFoundBelow 42 = .ok (.iconst 1, 1) := by decide +kernel
theorem dX8_isFoundBelow_43 : decode cX8_isFoundBelow 43 = .ok (.ireturn, 1) := by decide +kernel
theorem dX8_isFoundBelow_44 : decode cX8_isFoundBelow 44 = .ok (.iinc 3 1, 3) := by decide +kernel
theorem dX8_isFoundBelow_47 : decode cX8_isFoundBelow 47 = .ok (.goto (-45), 3) := by decide +kernel
theorem dX8_isFoundBelow_50 : decode cX8_isFoundBelow 50 = .ok (.iconst 0, 1) := by decide +kernel
theorem dX8_isFoundBelow_51 : decode cX8_isFoundBelow 51 = .ok (.ireturn, 1) := by decide +kernel
theorem dX9_init_0 : decode cX9_init 0 = .ok (.aload_n 0, 1) := by decide +kernel
theorem dX9_init_1 : decode cX9_init 1 = .ok (.invokespecial 3, 3) := by decide +kernel
theorem dX9_init_4 : decode cX9_init 4 = .ok (.aload_n 0, 1) := by decide +kernel
theorem dX9_init_5 : decode cX9_init 5 = .ok (.sipush 301, 3) := by decide +kernel
theorem dX9_init_8 : decode cX9_init 8 = .ok (.newarray .long, 2) := by decide +kernel
theorem dX9_init_10 : decode cX9_init 10 = .ok (.putfield 9, 3) := by decide +kernel
theorem dX9_init_13 : decode cX9_init 13 = .ok (.return_, 1) := by decide +kernel
theorem dX9_begin_0 : decode cX9_begin 0 = .ok (.iconst 0, 1) := by decide +kernel
theorem dX9_begin_1 : decode cX9_begin 1 = .ok (.istore_n 1, 1) := by decide +kernel
theorem dX9_begin_2 : decode cX9_begin 2 = .ok (.iload_n 1, 1) := by decide +kernel
theorem dX9_begin_3 : decode cX9_begin 3 = .ok (.sipush 300, 3) := by decide +kernel
theorem dX9_begin_6 : decode cX9_begin 6 = .ok (.if_icmp .gt 24, 3) := by decide +kernel
theorem dX9_begin_9 : decode cX9_begin 9 = .ok (.aload_n 0, 1) := by decide +kernel
theorem dX9_begin_10 : decode cX9_begin 10 = .ok (.getfield 9, 3) := by decide +kernel
theorem dX9_begin_13 : decode cX9_begin 13 = .ok (.iload_n 1, 1) := by decide +kernel
theorem dX9_begin_14 : decode cX9_begin 14 = .ok (.iload_n 1, 1) := by decide +kernel
theorem dX9_begin_15 : decode cX9_begin 15 = .ok (.ifCond .ne 7, 3) := by decide +kernel
theorem dX9_begin_18 : decode cX9_begin 18 = .ok (.lconst 1, 1) := by decide +kernel
theorem dX9_begin_19 : decode cX9_begin 19 = .ok (.goto 4, 3) := by decide +kernel
theorem dX9_begin_22 : decode cX9_begin 22 = .ok (.lconst 0, 1) := by decide +kernel
theorem dX9_begin_23 : decode cX9_begin 23 = .ok (.lastore, 1) := by decide +kernel
theorem dX9_begin_24 : decode cX9_begin 24 = .ok (.iinc 1 1, 3) := by decide +kernel
theorem dX9_begin_27 : decode cX9_begin 27 = .ok (.goto (-25), 3) := by decide +kernel
theorem dX9_begin_30 : decode cX9_begin 30 = .ok (.return_, 1) := by decide +kernel
theorem dX9_carry_0 : decode cX9_carry 0 = .ok (.iload_n 1, 1) := by decide +kernel
theorem dX9_carry_1 : decode cX9_carry 1 = .ok (.invokestatic 15, 3) := by decide +kernel
theorem dX9_carry_4 : decode cX9_carry 4 = .ok (.ifCond .eq 25, 3) := by decide +kernel
theorem dX9_carry_7 : decode cX9_carry 7 = .ok (.iload_n 2, 1) := by decide +kernel
theorem dX9_carry_8 : decode cX9_carry 8 = .ok (.invokestatic 15, 3) := by decide +kernel
theorem dX9_carry_11 : decode cX9_carry 11 = .ok (.ifCond .eq 18, 3) := by decide +kernel
theorem dX9_carry_14 : decode cX9_carry 14 = .ok (.aload_n 0, 1) := by decide +kernel
theorem dX9_carry_15 : decode cX9_carry 15 = .ok (.getfield 9, 3) := by decide +kernel
theorem dX9_carry_18 : decode cX9_carry 18 = .ok (.iload_n 2, 1) := by decide +kernel
theorem dX9_carry_19 : decode cX9_carry 19 = .ok (.dup2, 1) := by decide +kernel
theorem dX9_carry_20 : decode cX9_carry 20 = .ok (.laload, 1) := by decide +kernel
theorem dX9_carry_21 : decode cX9_carry 21 = .ok (.aload_n 0, 1) := by decide +kernel
theorem dX9_carry_22 : decode cX9_carry 22 = .ok (.getfield 9, 3) := by decide +kernel
theorem dX9_carry_25 : decode cX9_carry 25 = .ok (.iload_n 1, 1) := by decide +kernel
theorem dX9_carry_26 : decode cX9_carry 26 = .ok (.laload, 1) := by decide +kernel
theorem dX9_carry_27 : decode cX9_carry 27 = .ok (.ladd, 1) := by decide +kernel
theorem dX9_carry_28 : decode cX9_carry 28 = .ok (.lastore, 1) := by decide +kernel
theorem dX9_carry_29 : decode cX9_carry 29 = .ok (.return_, 1) := by decide +kernel
theorem dX9_leaveOut_0 : decode cX9_leaveOut 0 = .ok (.iload_n 1, 1) := by decide +kernel
theorem dX9_leaveOut_1 : decode cX9_leaveOut 1 = .ok (.iconst 1, 1) := by decide +kernel
theorem dX9_leaveOut_2 : decode cX9_leaveOut 2 = .ok (.if_icmp .ge 4, 3) := by decide +kernel
theorem dX9_leaveOut_5 : decode cX9_leaveOut 5 = .ok (.return_, 1) := by decide +kernel
theorem dX9_leaveOut_6 : decode cX9_leaveOut 6 = .ok (.iload_n 1, 1) := by decide +kernel
theorem dX9_leaveOut_7 : decode cX9_leaveOut 7 = .ok (.istore_n 2, 1) := by decide +kernel
theorem dX9_leaveOut_8 : decode cX9_leaveOut 8 = .ok (.iload_n 2, 1) := by decide +kernel
theorem dX9_leaveOut_9 : decode cX9_leaveOut 9 = .ok (.sipush 300, 3) := by decide +kernel
theorem dX9_leaveOut_12 : decode cX9_leaveOut 12 = .ok (.if_icmp .gt 26, 3) := by decide +kernel
theorem dX9_leaveOut_15 : decode cX9_leaveOut 15 = .ok (.aload_n 0, 1) := by decide +kernel
theorem dX9_leaveOut_16 : decode cX9_leaveOut 16 = .ok (.getfield 9, 3) := by decide +kernel
theorem dX9_leaveOut_19 : decode cX9_leaveOut 19 = .ok (.iload_n 2, 1) := by decide +kernel
theorem dX9_leaveOut_20 : decode cX9_leaveOut 20 = .ok (.dup2, 1) := by decide +kernel
theorem dX9_leaveOut_21 : decode cX9_leaveOut 21 = .ok (.laload, 1) := by decide +kernel
theorem dX9_leaveOut_22 : decode cX9_leaveOut 22 = .ok (.aload_n 0, 1) := by decide +kernel
theorem dX9_leaveOut_23 : decode cX9_leaveOut 23 = .ok (.getfield 9, 3) := by decide +kernel
theorem dX9_leaveOut_26 : decode cX9_leaveOut 26 = .ok (.iload_n 2, 1) := by decide +kernel
theorem dX9_leaveOut_27 : decode cX9_leaveOut 27 = .ok (.iload_n 1, 1) := by decide +kernel
theorem dX9_leaveOut_28 : decode cX9_leaveOut 28 = .ok (.isub, 1) := by decide +kernel
theorem dX9_leaveOut_29 : decode cX9_leaveOut 29 = .ok (.laload, 1) := by decide +kernel
theorem dX9_leaveOut_30 : decode cX9_leaveOut 30 = .ok (.lsub, 1) := by decide +kernel
theorem dX9_leaveOut_31 : decode cX9_leaveOut 31 = .ok (.lastore, 1) := by decide +kernel
theorem dX9_leaveOut_32 : decode cX9_leaveOut 32 = .ok (.iinc 2 1, 3) := by decide +kernel
theorem dX9_leaveOut_35 : decode cX9_leaveOut 35 = .ok (.goto (-27), 3) := by decide +kernel
theorem dX9_leaveOut_38 : decode cX9_leaveOut 38 = .ok (.return_, 1) := by decide +kernel
theorem dX9_waysOf_0 : decode cX9_waysOf 0 = .ok (.iload_n 1, 1) := by decide +kernel
theorem dX9_waysOf_1 : decode cX9_waysOf 1 = .ok (.invokestatic 15, 3) := by decide +kernel
theorem dX9_waysOf_4 : decode cX9_waysOf 4 = .ok (.ifCond .eq 12, 3) := by decide +kernel
theorem dX9_waysOf_7 : decode cX9_waysOf 7 = .ok (.aload_n 0, 1) := by decide +kernel
theorem dX9_waysOf_8 : decode cX9_waysOf 8 = .ok (.getfield 9, 3) := by decide +kernel
theorem dX9_waysOf_11 : decode cX9_waysOf 11 = .ok (.iload_n 1, 1) := by decide +kernel
theorem dX9_waysOf_12 : decode cX9_waysOf 12 = .ok (.laload, 1) := by decide +kernel
theorem dX9_waysOf_13 : decode cX9_waysOf 13 = .ok (.goto 4, 3) := by decide +kernel
theorem dX9_waysOf_16 : decode cX9_waysOf 16 = .ok (.lconst 0, 1) := by decide +kernel
theorem dX9_waysOf_17 : decode cX9_waysOf 17 = .ok (.lreturn, 1) := by decide +kernel
theorem dJ6_bitCount_0f7a4_0 : decode cJ6_bitCount_0f7a4 0 = .ok (.iload_n 0, 1) := by decide +kernel
theorem dJ6_bitCount_0f7a4_1 : decode cJ6_bitCount_0f7a4 1 = .ok (.iload_n 0, 1) := by decide +kernel
theorem dJ6_bitCount_0f7a4_2 : decode cJ6_bitCount_0f7a4 2 = .ok (.iconst 1, 1) := by decide +kernel
theorem dJ6_bitCount_0f7a4_3 : decode cJ6_bitCount_0f7a4 3 = .ok (.iushr, 1) := by decide +kernel
theorem dJ6_bitCount_0f7a4_4 : decode cJ6_bitCount_0f7a4 4 = .ok (.ldc_w 265, 3) := by decide +kernel
theorem dJ6_bitCount_0f7a4_7 : decode cJ6_bitCount_0f7a4 7 = .ok (.iand, 1) := by decide +kernel
theorem dJ6_bitCount_0f7a4_8 : decode cJ6_bitCount_0f7a4 8 = .ok (.isub, 1) := by decide +kernel
theorem dJ6_bitCount_0f7a4_9 : decode cJ6_bitCount_0f7a4 9 = .ok (.istore_n 0, 1) := by decide +kernel
theorem dJ6_bitCount_0f7a4_10 : decode cJ6_bitCount_0f7a4 10 = .ok (.iload_n 0, 1) := by decide +kernel
theorem dJ6_bitCount_0f7a4_11 : decode cJ6_bitCount_0f7a4 11 = .ok (.ldc_w 266, 3) := by decide +kernel
theorem dJ6_bitCount_0f7a4_14 : decode cJ6_bitCount_0f7a4 14 = .ok (.iand, 1) := by decide +kernel
theorem dJ6_bitCount_0f7a4_15 : decode cJ6_bitCount_0f7a4 15 = .ok (.iload_n 0, 1) := by decide +kernel
theorem dJ6_bitCount_0f7a4_16 : decode cJ6_bitCount_0f7a4 16 = .ok (.iconst 2, 1) := by decide +kernel
theorem dJ6_bitCount_0f7a4_17 : decode cJ6_bitCount_0f7a4 17 = .ok (.iushr, 1) := by decide +kernel
theorem dJ6_bitCount_0f7a4_18 : decode cJ6_bitCount_0f7a4 18 = .ok (.ldc_w 266, 3) := by decide +kernel
theorem dJ6_bitCount_0f7a4_21 : decode cJ6_bitCount_0f7a4 21 = .ok (.iand, 1) := by decide +kernel
theorem dJ6_bitCount_0f7a4_22 : decode cJ6_bitCount_0f7a4 22 = .ok (.iadd, 1) := by decide +kernel
theorem dJ6_bitCount_0f7a4_23 : decode cJ6_bitCount_0f7a4 23 = .ok (.istore_n 0, 1) := by decide +kernel
theorem dJ6_bitCount_0f7a4_24 : decode cJ6_bitCount_0f7a4 24 = .ok (.iload_n 0, 1) := by decide +kernel
theorem dJ6_bitCount_0f7a4_25 : decode cJ6_bitCount_0f7a4 25 = .ok (.iload_n 0, 1) := by decide +kernel
theorem dJ6_bitCount_0f7a4_26 : decode cJ6_bitCount_0f7a4 26 = .ok (.iconst 4, 1) := by decide +kernel
theorem dJ6_bitCount_0f7a4_27 : decode cJ6_bitCount_0f7a4 27 = .ok (.iushr, 1) := by decide +kernel
theorem dJ6_bitCount_0f7a4_28 : decode cJ6_bitCount_0f7a4 28 = .ok (.iadd, 1) := by decide +kernel
theorem dJ6_bitCount_0f7a4_29 : decode cJ6_bitCount_0f7a4 29 = .ok (.ldc_w 267, 3) := by decide +kernel
theorem dJ6_bitCount_0f7a4_32 : decode cJ6_bitCount_0f7a4 32 = .ok (.iand, 1) := by decide +kernel
theorem dJ6_bitCount_0f7a4_33 : decode cJ6_bitCount_0f7a4 33 = .ok (.istore_n 0, 1) := by decide +kernel
theorem dJ6_bitCount_0f7a4_34 : decode cJ6_bitCount_0f7a4 34 = .ok (.iload_n 0, 1) := by decide +kernel
theorem dJ6_bitCount_0f7a4_35 : decode cJ6_bitCount_0f7a4 35 = .ok (.iload_n 0, 1) := by decide +kernel
theorem dJ6_bitCount_0f7a4_36 : decode cJ6_bitCount_0f7a4 36 = .ok (.bipush 8, 2) := by decide +kernel
theorem dJ6_bitCount_0f7a4_38 : decode cJ6_bitCount_0f7a4 38 = .ok (.iushr, 1) := by decide +kernel
theorem dJ6_bitCount_0f7a4_39 : decode cJ6_bitCount_0f7a4 39 = .ok (.iadd, 1) := by decide +kernel
theorem dJ6_bitCount_0f7a4_40 : decode cJ6_bitCount_0f7a4 40 = .ok (.istore_n 0, 1) := by decide +kernel
theorem dJ6_bitCount_0f7a4_41 : decode cJ6_bitCount_0f7a4 41 = .ok (.iload_n 0, 1) := by decide +kernel
theorem dJ6_bitCount_0f7a4_42 : decode cJ6_bitCount_0f7a4 42 = .ok (.iload_n 0, 1) := by decide +kernel
theorem dJ6_bitCount_0f7a4_43 : decode cJ6_bitCount_0f7a4 43 = .ok (.bipush 16, 2) := by decide +kernel
theorem dJ6_bitCount_0f7a4_45 : decode cJ6_bitCount_0f7a4 45 = .ok (.iushr, 1) := by decide +kernel
theorem dJ6_bitCount_0f7a4_46 : decode cJ6_bitCount_0f7a4 46 = .ok (.iadd, 1) := by decide +kernel
theorem dJ6_bitCount_0f7a4_47 : decode cJ6_bitCount_0f7a4 47 = .ok (.istore_n 0, 1) := by decide +kernel
theorem dJ6_bitCount_0f7a4_48 : decode cJ6_bitCount_0f7a4 48 = .ok (.iload_n 0, 1) := by decide +kernel
theorem dJ6_bitCount_0f7a4_49 : decode cJ6_bitCount_0f7a4 49 = .ok (.bipush 63, 2) := by decide +kernel
theorem dJ6_bitCount_0f7a4_51 : decode cJ6_bitCount_0f7a4 51 = .ok (.iand, 1) := by decide +kernel
theorem dJ6_bitCount_0f7a4_52 : decode cJ6_bitCount_0f7a4 52 = .ok (.ireturn, 1) := by decide +kernel
theorem dJ13_bitCount_95d88_0 : decode cJ13_bitCount_95d88 0 = .ok (.lload_n 0, 1) := by decide +kernel
theorem dJ13_bitCount_95d88_1 : decode cJ13_bitCount_95d88 1 = .ok (.lload_n 0, 1) := by decide +kernel
theorem dJ13_bitCount_95d88_2 : decode cJ13_bitCount_95d88 2 = .ok (.iconst 1, 1) := by decide +kernel
theorem dJ13_bitCount_95d88_3 : decode cJ13_bitCount_95d88 3 = .ok (.lushr, 1) := by decide +kernel
theorem dJ13_bitCount_95d88_4 : decode cJ13_bitCount_95d88 4 = .ok (.ldc2_w 314, 3) := by decide +kernel
theorem dJ13_bitCount_95d88_7 : decode cJ13_bitCount_95d88 7 = .ok (.land, 1) := by decide +kernel
theorem dJ13_bitCount_95d88_8 : decode cJ13_bitCount_95d88 8 = .ok (.lsub, 1) := by decide +kernel
theorem dJ13_bitCount_95d88_9 : decode cJ13_bitCount_95d88 9 = .ok (.lstore_n 0, 1) := by decide +kernel
theorem dJ13_bitCount_95d88_10 : decode cJ13_bitCount_95d88 10 = .ok (.lload_n 0, 1) := by decide +kernel
theorem dJ13_bitCount_95d88_11 : decode cJ13_bitCount_95d88 11 = .ok (.ldc2_w 316, 3) := by decide +kernel
theorem dJ13_bitCount_95d88_14 : decode cJ13_bitCount_95d88 14 = .ok (.land, 1) := by decide +kernel
theorem dJ13_bitCount_95d88_15 : decode cJ13_bitCount_95d88 15 = .ok (.lload_n 0, 1) := by decide +kernel
theorem dJ13_bitCount_95d88_16 : decode cJ13_bitCount_95d88 16 = .ok (.iconst 2, 1) := by decide +kernel
theorem dJ13_bitCount_95d88_17 : decode cJ13_bitCount_95d88 17 = .ok (.lushr, 1) := by decide +kernel
theorem dJ13_bitCount_95d88_18 : decode cJ13_bitCount_95d88 18 = .ok (.ldc2_w 316, 3) := by decide +kernel
theorem dJ13_bitCount_95d88_21 : decode cJ13_bitCount_95d88 21 = .ok (.land, 1) := by decide +kernel
theorem dJ13_bitCount_95d88_22 : decode cJ13_bitCount_95d88 22 = .ok (.ladd, 1) := by decide +kernel
theorem dJ13_bitCount_95d88_23 : decode cJ13_bitCount_95d88 23 = .ok (.lstore_n 0, 1) := by decide +kernel
theorem dJ13_bitCount_95d88_24 : decode cJ13_bitCount_95d88 24 = .ok (.lload_n 0, 1) := by decide +kernel
theorem dJ13_bitCount_95d88_25 : decode cJ13_bitCount_95d88 25 = .ok (.lload_n 0, 1) := by decide +kernel
theorem dJ13_bitCount_95d88_26 : decode cJ13_bitCount_95d88 26 = .ok (.iconst 4, 1) := by decide +kernel
theorem dJ13_bitCount_95d88_27 : decode cJ13_bitCount_95d88 27 = .ok (.lushr, 1) := by decide +kernel
theorem dJ13_bitCount_95d88_28 : decode cJ13_bitCount_95d88 28 = .ok (.ladd, 1) := by decide +kernel
theorem dJ13_bitCount_95d88_29 : decode cJ13_bitCount_95d88 29 = .ok (.ldc2_w 318, 3) := by decide +kernel
theorem dJ13_bitCount_95d88_32 : decode cJ13_bitCount_95d88 32 = .ok (.land, 1) := by decide +kernel
theorem dJ13_bitCount_95d88_33 : decode cJ13_bitCount_95d88 33 = .ok (.lstore_n 0, 1) := by decide +kernel
theorem dJ13_bitCount_95d88_34 : decode cJ13_bitCount_95d88 34 = .ok (.lload_n 0, 1) := by decide +kernel
theorem dJ13_bitCount_95d88_35 : decode cJ13_bitCount_95d88 35 = .ok (.lload_n 0, 1) := by decide +kernel
theorem dJ13_bitCount_95d88_36 : decode cJ13_bitCount_95d88 36 = .ok (.bipush 8, 2) := by decide +kernel
theorem dJ13_bitCount_95d88_38 : decode cJ13_bitCount_95d88 38 = .ok (.lushr, 1) := by decide +kernel
theorem dJ13_bitCount_95d88_39 : decode cJ13_bitCount_95d88 39 = .ok (.ladd, 1) := by decide +kernel
theorem dJ13_bitCount_95d88_40 : decode cJ13_bitCount_95d88 40 = .ok (.lstore_n 0, 1) := by decide +kernel
theorem dJ13_bitCount_95d88_41 : decode cJ13_bitCount_95d88 41 = .ok (.lload_n 0, 1) := by decide +kernel
theorem dJ13_bitCount_95d88_42 : decode cJ13_bitCount_95d88 42 = .ok (.lload_n 0, 1) := by decide +kernel
theorem dJ13_bitCount_95d88_43 : decode cJ13_bitCount_95d88 43 = .ok (.bipush 16, 2) := by decide +kernel
theorem dJ13_bitCount_95d88_45 : decode cJ13_bitCount_95d88 45 = .ok (.lushr, 1) := by decide +kernel
theorem dJ13_bitCount_95d88_46 : decode cJ13_bitCount_95d88 46 = .ok (.ladd, 1) := by decide +kernel
theorem dJ13_bitCount_95d88_47 : decode cJ13_bitCount_95d88 47 = .ok (.lstore_n 0, 1) := by decide +kernel
theorem dJ13_bitCount_95d88_48 : decode cJ13_bitCount_95d88 48 = .ok (.lload_n 0, 1) := by decide +kernel
theorem dJ13_bitCount_95d88_49 : decode cJ13_bitCount_95d88 49 = .ok (.lload_n 0, 1) := by decide +kernel
theorem dJ13_bitCount_95d88_50 : decode cJ13_bitCount_95d88 50 = .ok (.bipush 32, 2) := by decide +kernel
theorem dJ13_bitCount_95d88_52 : decode cJ13_bitCount_95d88 52 = .ok (.lushr, 1) := by decide +kernel
theorem dJ13_bitCount_95d88_53 : decode cJ13_bitCount_95d88 53 = .ok (.ladd, 1) := by decide +kernel
theorem dJ13_bitCount_95d88_54 : decode cJ13_bitCount_95d88 54 = .ok (.lstore_n 0, 1) := by decide +kernel
theorem dJ13_bitCount_95d88_55 : decode cJ13_bitCount_95d88 55 = .ok (.lload_n 0, 1) := by decide +kernel
theorem dJ13_bitCount_95d88_56 : decode cJ13_bitCount_95d88 56 = .ok (.l2i, 1) := by decide +kernel
theorem dJ13_bitCount_95d88_57 : decode cJ13_bitCount_95d88 57 = .ok (.bipush 127, 2) := by decide +kernel
theorem dJ13_bitCount_95d88_59 : decode cJ13_bitCount_95d88 59 = .ok (.iand, 1) := by decide +kernel
theorem dJ13_bitCount_95d88_60 : decode cJ13_bitCount_95d88 60 = .ok (.ireturn, 1) := by decide +kernel
theorem dJ9_abs_0f7a4_0 : decode cJ9_abs_0f7a4 0 = .ok (.iload_n 0, 1) := by decide +kernel
theorem dJ9_abs_0f7a4_1 : decode cJ9_abs_0f7a4 1 = .ok (.ifCond .ge 8, 3) := by decide +kernel
theorem dJ9_abs_0f7a4_4 : decode cJ9_abs_0f7a4 4 = .ok (.iload_n 0, 1) := by decide +kernel
theorem dJ9_abs_0f7a4_5 : decode cJ9_abs_0f7a4 5 = .ok (.ineg, 1) := by decide +kernel
theorem dJ9_abs_0f7a4_6 : decode cJ9_abs_0f7a4 6 = .ok (.goto 4, 3) := by decide +kernel
theorem dJ9_abs_0f7a4_9 : decode cJ9_abs_0f7a4 9 = .ok (.iload_n 0, 1) := by decide +kernel
theorem dJ9_abs_0f7a4_10 : decode cJ9_abs_0f7a4 10 = .ok (.ireturn, 1) := by decide +kernel
theorem dJ9_max_7cf53_0 : decode cJ9_max_7cf53 0 = .ok (.iload_n 0, 1) := by decide +kernel
theorem dJ9_max_7cf53_1 : decode cJ9_max_7cf53 1 = .ok (.iload_n 1, 1) := by decide +kernel
theorem dJ9_max_7cf53_2 : decode cJ9_max_7cf53 2 = .ok (.if_icmp .lt 7, 3) := by decide +kernel
theorem dJ9_max_7cf53_5 : decode cJ9_max_7cf53 5 = .ok (.iload_n 0, 1) := by decide +kernel
theorem dJ9_max_7cf53_6 : decode cJ9_max_7cf53 6 = .ok (.goto 4, 3) := by decide +kernel
theorem dJ9_max_7cf53_9 : decode cJ9_max_7cf53 9 = .ok (.iload_n 1, 1) := by decide +kernel
theorem dJ9_max_7cf53_10 : decode cJ9_max_7cf53 10 = .ok (.ireturn, 1) := by decide +kernel
theorem dJ9_min_7cf53_0 : decode cJ9_min_7cf53 0 = .ok (.iload_n 0, 1) := by decide +kernel
theorem dJ9_min_7cf53_1 : decode cJ9_min_7cf53 1 = .ok (.iload_n 1, 1) := by decide +kernel
theorem dJ9_min_7cf53_2 : decode cJ9_min_7cf53 2 = .ok (.if_icmp .gt 7, 3) := by decide +kernel
theorem dJ9_min_7cf53_5 : decode cJ9_min_7cf53 5 = .ok (.iload_n 0, 1) := by decide +kernel
theorem dJ9_min_7cf53_6 : decode cJ9_min_7cf53 6 = .ok (.goto 4, 3) := by decide +kernel
theorem dJ9_min_7cf53_9 : decode cJ9_min_7cf53 9 = .ok (.iload_n 1, 1) := by decide +kernel
theorem dJ9_min_7cf53_10 : decode cJ9_min_7cf53 10 = .ok (.ireturn, 1) := by decide +kernel
