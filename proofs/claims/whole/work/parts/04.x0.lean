theorem dX0_init_0 : decode cX0_init 0 = .ok (.aload_n 0, 1) := by decide +kernel
theorem dX0_init_1 : decode cX0_init 1 = .ok (.invokespecial 3, 3) := by decide +kernel
theorem dX0_init_4 : decode cX0_init 4 = .ok (.iload_n 1, 1) := by decide +kernel
theorem dX0_init_5 : decode cX0_init 5 = .ok (.ifCond .le 7, 3) := by decide +kernel
theorem dX0_init_8 : decode cX0_init 8 = .ok (.iload_n 1, 1) := by decide +kernel
theorem dX0_init_9 : decode cX0_init 9 = .ok (.goto 4, 3) := by decide +kernel
theorem dX0_init_12 : decode cX0_init 12 = .ok (.iconst 0, 1) := by decide +kernel
theorem dX0_init_13 : decode cX0_init 13 = .ok (.istore_n 2, 1) := by decide +kernel
theorem dX0_init_14 : decode cX0_init 14 = .ok (.aload_n 0, 1) := by decide +kernel
theorem dX0_init_15 : decode cX0_init 15 = .ok (.iload_n 2, 1) := by decide +kernel
theorem dX0_init_16 : decode cX0_init 16 = .ok (.newarray .long, 2) := by decide +kernel
theorem dX0_init_18 : decode cX0_init 18 = .ok (.putfield 9, 3) := by decide +kernel
theorem dX0_init_21 : decode cX0_init 21 = .ok (.aload_n 0, 1) := by decide +kernel
theorem dX0_init_22 : decode cX0_init 22 = .ok (.iload_n 2, 1) := by decide +kernel
theorem dX0_init_23 : decode cX0_init 23 = .ok (.newarray .long, 2) := by decide +kernel
theorem dX0_init_25 : decode cX0_init 25 = .ok (.putfield 15, 3) := by decide +kernel
theorem dX0_init_28 : decode cX0_init 28 = .ok (.return_, 1) := by decide +kernel
theorem dX0_become_0 : decode cX0_become 0 = .ok (.iconst 0, 1) := by decide +kernel
theorem dX0_become_1 : decode cX0_become 1 = .ok (.istore_n 2, 1) := by decide +kernel
theorem dX0_become_2 : decode cX0_become 2 = .ok (.iload_n 2, 1) := by decide +kernel
theorem dX0_become_3 : decode cX0_become 3 = .ok (.aload_n 0, 1) := by decide +kernel
theorem dX0_become_4 : decode cX0_become 4 = .ok (.getfield 9, 3) := by decide +kernel
theorem dX0_become_7 : decode cX0_become 7 = .ok (.arraylength, 1) := by decide +kernel
theorem dX0_become_8 : decode cX0_become 8 = .ok (.if_icmp .ge 25, 3) := by decide +kernel
theorem dX0_become_11 : decode cX0_become 11 = .ok (.aload_n 0, 1) := by decide +kernel
theorem dX0_become_12 : decode cX0_become 12 = .ok (.getfield 9, 3) := by decide +kernel
theorem dX0_become_15 : decode cX0_become 15 = .ok (.iload_n 2, 1) := by decide +kernel
theorem dX0_become_16 : decode cX0_become 16 = .ok (.iload_n 2, 1) := by decide +kernel
theorem dX0_become_17 : decode cX0_become 17 = .ok (.ifCond .ne 8, 3) := by decide +kernel
theorem dX0_become_20 : decode cX0_become 20 = .ok (.iload_n 1, 1) := by decide +kernel
theorem dX0_become_21 : decode cX0_become 21 = .ok (.i2l, 1) := by decide +kernel
theorem dX0_become_22 : decode cX0_become 22 = .ok (.goto 4, 3) := by decide +kernel
theorem dX0_become_25 : decode cX0_become 25 = .ok (.lconst 0, 1) := by decide +kernel
theorem dX0_become_26 : decode cX0_become 26 = .ok (.lastore, 1) := by decide +kernel
theorem dX0_become_27 : decode cX0_become 27 = .ok (.iinc 2 1, 3) := by decide +kernel
theorem dX0_become_30 : decode cX0_become 30 = .ok (.goto (-28), 3) := by decide +kernel
theorem dX0_become_33 : decode cX0_become 33 = .ok (.return_, 1) := by decide +kernel
theorem dX0_setBelow_0 : decode cX0_setBelow 0 = .ok (.iconst 0, 1) := by decide +kernel
theorem dX0_setBelow_1 : decode cX0_setBelow 1 = .ok (.istore_n 2, 1) := by decide +kernel
theorem dX0_setBelow_2 : decode cX0_setBelow 2 = .ok (.iload_n 2, 1) := by decide +kernel
theorem dX0_setBelow_3 : decode cX0_setBelow 3 = .ok (.aload_n 0, 1) := by decide +kernel
theorem dX0_setBelow_4 : decode cX0_setBelow 4 = .ok (.getfield 9, 3) := by decide +kernel
theorem dX0_setBelow_7 : decode cX0_setBelow 7 = .ok (.arraylength, 1) := by decide +kernel
theorem dX0_setBelow_8 : decode cX0_setBelow 8 = .ok (.if_icmp .ge 47, 3) := by decide +kernel
theorem dX0_setBelow_11 : decode cX0_setBelow 11 = .ok (.iload_n 1, 1) := by decide +kernel
theorem dX0_setBelow_12 : decode cX0_setBelow 12 = .ok (.iload_n 2, 1) := by decide +kernel
theorem dX0_setBelow_13 : decode cX0_setBelow 13 = .ok (.bipush 64, 2) := by decide +kernel
theorem dX0_setBelow_15 : decode cX0_setBelow 15 = .ok (.imul, 1) := by decide +kernel
theorem dX0_setBelow_16 : decode cX0_setBelow 16 = .ok (.isub, 1) := by decide +kernel
theorem dX0_setBelow_17 : decode cX0_setBelow 17 = .ok (.istore_n 3, 1) := by decide +kernel
theorem dX0_setBelow_18 : decode cX0_setBelow 18 = .ok (.aload_n 0, 1) := by decide +kernel
theorem dX0_setBelow_19 : decode cX0_setBelow 19 = .ok (.getfield 9, 3) := by decide +kernel
theorem dX0_setBelow_22 : decode cX0_setBelow 22 = .ok (.iload_n 2, 1) := by decide +kernel
theorem dX0_setBelow_23 : decode cX0_setBelow 23 = .ok (.iload_n 3, 1) := by decide +kernel
theorem dX0_setBelow_24 : decode cX0_setBelow 24 = .ok (.bipush 64, 2) := by decide +kernel
theorem dX0_setBelow_26 : decode cX0_setBelow 26 = .ok (.if_icmp .lt 9, 3) := by decide +kernel
theorem dX0_setBelow_29 : decode cX0_setBelow 29 = .ok (.ldc2_w 18, 3) := by decide +kernel
theorem dX0_setBelow_32 : decode cX0_setBelow 32 = .ok (.goto 16, 3) := by decide +kernel
theorem dX0_setBelow_35 : decode cX0_setBelow 35 = .ok (.iload_n 3, 1) := by decide +kernel
theorem dX0_setBelow_36 : decode cX0_setBelow 36 = .ok (.ifCond .le 11, 3) := by decide +kernel
theorem dX0_setBelow_39 : decode cX0_setBelow 39 = .ok (.lconst 1, 1) := by decide +kernel
theorem dX0_setBelow_40 : decode cX0_setBelow 40 = .ok (.iload_n 3, 1) := by decide +kernel
theorem dX0_setBelow_41 : decode cX0_setBelow 41 = .ok (.lshl, 1) := by decide +kernel
theorem dX0_setBelow_42 : decode cX0_setBelow 42 = .ok (.lconst 1, 1) := by decide +kernel
theorem dX0_setBelow_43 : decode cX0_setBelow 43 = .ok (.lsub, 1) := by decide +kernel
theorem dX0_setBelow_44 : decode cX0_setBelow 44 = .ok (.goto 4, 3) := by decide +kernel
theorem dX0_setBelow_47 : decode cX0_setBelow 47 = .ok (.lconst 0, 1) := by decide +kernel
theorem dX0_setBelow_48 : decode cX0_setBelow 48 = .ok (.lastore, 1) := by decide +kernel
theorem dX0_setBelow_49 : decode cX0_setBelow 49 = .ok (.iinc 2 1, 3) := by decide +kernel
theorem dX0_setBelow_52 : decode cX0_setBelow 52 = .ok (.goto (-50), 3) := by decide +kernel
theorem dX0_setBelow_55 : decode cX0_setBelow 55 = .ok (.return_, 1) := by decide +kernel
set_option maxRecDepth 20000 in
theorem ggX0_or_X0_shift : GoodIn wsX0_or wsX0_shift := goodIn_r _ [7, 2, 8, 9, 10, 6, 11, 1, 12, 13] (by decide +kernel) (by decide +kernel)
set_option maxRecDepth 20000 in
theorem gX0_or_X0_shift : GoodIn wsX0_or (wsV RX0 20 RX0 yX0_shift wsX0_shift) := goodIn_app (goodIn_of _ (by decide +kernel)) ggX0_or_X0_shift
theorem dX0_or_0 : decode cX0_or 0 = .ok (.aload_n 0, 1) := by decide +kernel
theorem dX0_or_1 : decode cX0_or 1 = .ok (.aload_n 1, 1) := by decide +kernel
theorem dX0_or_2 : decode cX0_or 2 = .ok (.iload_n 2, 1) := by decide +kernel
theorem dX0_or_3 : decode cX0_or 3 = .ok (.invokevirtual 20, 3) := by decide +kernel
theorem dX0_or_6 : decode cX0_or 6 = .ok (.iconst 0, 1) := by decide +kernel
theorem dX0_or_7 : decode cX0_or 7 = .ok (.istore_n 3, 1) := by decide +kernel
theorem dX0_or_8 : decode cX0_or 8 = .ok (.iload_n 3, 1) := by decide +kernel
theorem dX0_or_9 : decode cX0_or 9 = .ok (.aload_n 0, 1) := by decide +kernel
theorem dX0_or_10 : decode cX0_or 10 = .ok (.getfield 9, 3) := by decide +kernel
theorem dX0_or_13 : decode cX0_or 13 = .ok (.arraylength, 1) := by decide +kernel
theorem dX0_or_14 : decode cX0_or 14 = .ok (.if_icmp .ge 33, 3) := by decide +kernel
theorem dX0_or_17 : decode cX0_or 17 = .ok (.iload_n 3, 1) := by decide +kernel
theorem dX0_or_18 : decode cX0_or 18 = .ok (.aload_n 0, 1) := by decide +kernel
theorem dX0_or_19 : decode cX0_or 19 = .ok (.getfield 15, 3) := by decide +kernel
theorem dX0_or_22 : decode cX0_or 22 = .ok (.arraylength, 1) := by decide +kernel
theorem dX0_or_23 : decode cX0_or 23 = .ok (.if_icmp .ge 24, 3) := by decide +kernel
theorem dX0_or_26 : decode cX0_or 26 = .ok (.aload_n 0, 1) := by decide +kernel
theorem dX0_or_27 : decode cX0_or 27 = .ok (.getfield 9, 3) := by decide +kernel
theorem dX0_or_30 : decode cX0_or 30 = .ok (.iload_n 3, 1) := by decide +kernel
theorem dX0_or_31 : decode cX0_or 31 = .ok (.dup2, 1) := by decide +kernel
theorem dX0_or_32 : decode cX0_or 32 = .ok (.laload, 1) := by decide +kernel
theorem dX0_or_33 : decode cX0_or 33 = .ok (.aload_n 0, 1) := by decide +kernel
theorem dX0_or_34 : decode cX0_or 34 = .ok (.getfield 15, 3) := by decide +kernel
theorem dX0_or_37 : decode cX0_or 37 = .ok (.iload_n 3, 1) := by decide +kernel
theorem dX0_or_38 : decode cX0_or 38 = .ok (.laload, 1) := by decide +kernel
theorem dX0_or_39 : decode cX0_or 39 = .ok (.lor, 1) := by decide +kernel
theorem dX0_or_40 : decode cX0_or 40 = .ok (.lastore, 1) := by decide +kernel
theorem dX0_or_41 : decode cX0_or 41 = .ok (.iinc 3 1, 3) := by decide +kernel
theorem dX0_or_44 : decode cX0_or 44 = .ok (.goto (-36), 3) := by decide +kernel
theorem dX0_or_47 : decode cX0_or 47 = .ok (.return_, 1) := by decide +kernel
set_option maxRecDepth 20000 in
theorem ggX0_and_X0_shift : GoodIn wsX0_and wsX0_shift := goodIn_r _ [7, 2, 8, 9, 10, 6, 11, 1, 12, 13] (by decide +kernel) (by decide +kernel)
set_option maxRecDepth 20000 in
theorem gX0_and_X0_shift : GoodIn wsX0_and (wsV RX0 20 RX0 yX0_shift wsX0_shift) := goodIn_app (goodIn_of _ (by decide +kernel)) ggX0_and_X0_shift
theorem dX0_and_0 : decode cX0_and 0 = .ok (.aload_n 0, 1) := by decide +kernel
theorem dX0_and_1 : decode cX0_and 1 = .ok (.aload_n 1, 1) := by decide +kernel
theorem dX0_and_2 : decode cX0_and 2 = .ok (.iload_n 2, 1) := by decide +kernel
theorem dX0_and_3 : decode cX0_and 3 = .ok (.invokevirtual 20, 3) := by decide +kernel
theorem dX0_and_6 : decode cX0_and 6 = .ok (.iconst 0, 1) := by decide +kernel
theorem dX0_and_7 : decode cX0_and 7 = .ok (.istore_n 3, 1) := by decide +kernel
theorem dX0_and_8 : decode cX0_and 8 = .ok (.iload_n 3, 1) := by decide +kernel
theorem dX0_and_9 : decode cX0_and 9 = .ok (.aload_n 0, 1) := by decide +kernel
theorem dX0_and_10 : decode cX0_and 10 = .ok (.getfield 9, 3) := by decide +kernel
theorem dX0_and_13 : decode cX0_and 13 = .ok (.arraylength, 1) := by decide +kernel
theorem dX0_and_14 : decode cX0_and 14 = .ok (.if_icmp .ge 33, 3) := by decide +kernel
theorem dX0_and_17 : decode cX0_and 17 = .ok (.iload_n 3, 1) := by decide +kernel
theorem dX0_and_18 : decode cX0_and 18 = .ok (.aload_n 0, 1) := by decide +kernel
theorem dX0_and_19 : decode cX0_and 19 = .ok (.getfield 15, 3) := by decide +kernel
theorem dX0_and_22 : decode cX0_and 22 = .ok (.arraylength, 1) := by decide +kernel
theorem dX0_and_23 : decode cX0_and 23 = .ok (.if_icmp .ge 24, 3) := by decide +kernel
theorem dX0_and_26 : decode cX0_and 26 = .ok (.aload_n 0, 1) := by decide +kernel
theorem dX0_and_27 : decode cX0_and 27 = .ok (.getfield 9, 3) := by decide +kernel
theorem dX0_and_30 : decode cX0_and 30 = .ok (.iload_n 3, 1) := by decide +kernel
theorem dX0_and_31 : decode cX0_and 31 = .ok (.dup2, 1) := by decide +kernel
theorem dX0_and_32 : decode cX0_and 32 = .ok (.laload, 1) := by decide +kernel
theorem dX0_and_33 : decode cX0_and 33 = .ok (.aload_n 0, 1) := by decide +kernel
theorem dX0_and_34 : decode cX0_and 34 = .ok (.getfield 15, 3) := by decide +kernel
theorem dX0_and_37 : decode cX0_and 37 = .ok (.iload_n 3, 1) := by decide +kernel
theorem dX0_and_38 : decode cX0_and 38 = .ok (.laload, 1) := by decide +kernel
theorem dX0_and_39 : decode cX0_and 39 = .ok (.land, 1) := by decide +kernel
theorem dX0_and_40 : decode cX0_and 40 = .ok (.lastore, 1) := by decide +kernel
theorem dX0_and_41 : decode cX0_and 41 = .ok (.iinc 3 1, 3) := by decide +kernel
theorem dX0_and_44 : decode cX0_and 44 = .ok (.goto (-36), 3) := by decide +kernel
theorem dX0_and_47 : decode cX0_and 47 = .ok (.return_, 1) := by decide +kernel
set_option maxRecDepth 20000 in
theorem ggX0_xor_X0_wordAt : GoodIn wsX0_xor wsX0_wordAt := goodIn_r _ [6, 1, 7, 8] (by decide +kernel) (by decide +kernel)
set_option maxRecDepth 20000 in
theorem gX0_xor_X0_wordAt : GoodIn wsX0_xor (wsV RX0 24 RX0 yX0_wordAt wsX0_wordAt) := goodIn_app (goodIn_of _ (by decide +kernel)) ggX0_xor_X0_wordAt
theorem dX0_xor_0 : decode cX0_xor 0 = .ok (.iconst 0, 1) := by decide +kernel
theorem dX0_xor_1 : decode cX0_xor 1 = .ok (.istore_n 2, 1) := by decide +kernel
theorem dX0_xor_2 : decode cX0_xor 2 = .ok (.iload_n 2, 1) := by decide +kernel
theorem dX0_xor_3 : decode cX0_xor 3 = .ok (.aload_n 0, 1) := by decide +kernel
theorem dX0_xor_4 : decode cX0_xor 4 = .ok (.getfield 9, 3) := by decide +kernel
theorem dX0_xor_7 : decode cX0_xor 7 = .ok (.arraylength, 1) := by decide +kernel
theorem dX0_xor_8 : decode cX0_xor 8 = .ok (.if_icmp .ge 23, 3) := by decide +kernel
theorem dX0_xor_11 : decode cX0_xor 11 = .ok (.aload_n 0, 1) := by decide +kernel
theorem dX0_xor_12 : decode cX0_xor 12 = .ok (.getfield 9, 3) := by decide +kernel
theorem dX0_xor_15 : decode cX0_xor 15 = .ok (.iload_n 2, 1) := by decide +kernel
theorem dX0_xor_16 : decode cX0_xor 16 = .ok (.dup2, 1) := by decide +kernel
theorem dX0_xor_17 : decode cX0_xor 17 = .ok (.laload, 1) := by decide +kernel
theorem dX0_xor_18 : decode cX0_xor 18 = .ok (.aload_n 1, 1) := by decide +kernel
theorem dX0_xor_19 : decode cX0_xor 19 = .ok (.iload_n 2, 1) := by decide +kernel
theorem dX0_xor_20 : decode cX0_xor 20 = .ok (.invokevirtual 24, 3) := by decide +kernel
theorem dX0_xor_23 : decode cX0_xor 23 = .ok (.lxor, 1) := by decide +kernel
theorem dX0_xor_24 : decode cX0_xor 24 = .ok (.lastore, 1) := by decide +kernel
theorem dX0_xor_25 : decode cX0_xor 25 = .ok (.iinc 2 1, 3) := by decide +kernel
theorem dX0_xor_28 : decode cX0_xor 28 = .ok (.goto (-26), 3) := by decide +kernel
theorem dX0_xor_31 : decode cX0_xor 31 = .ok (.return_, 1) := by decide +kernel
set_option maxRecDepth 20000 in
theorem ggX0_andNot_X0_wordAt : GoodIn wsX0_andNot wsX0_wordAt := goodIn_r _ [7, 1, 8, 9] (by decide +kernel) (by decide +kernel)
set_option maxRecDepth 20000 in
theorem gX0_andNot_X0_wordAt : GoodIn wsX0_andNot (wsV RX0 24 RX0 yX0_wordAt wsX0_wordAt) := goodIn_app (goodIn_of _ (by decide +kernel)) ggX0_andNot_X0_wordAt
theorem dX0_andNot_0 : decode cX0_andNot 0 = .ok (.iconst 0, 1) := by decide +kernel
theorem dX0_andNot_1 : decode cX0_andNot 1 = .ok (.istore_n 2, 1) := by decide +kernel
theorem dX0_andNot_2 : decode cX0_andNot 2 = .ok (.iload_n 2, 1) := by decide +kernel
theorem dX0_andNot_3 : decode cX0_andNot 3 = .ok (.aload_n 0, 1) := by decide +kernel
theorem dX0_andNot_4 : decode cX0_andNot 4 = .ok (.getfield 9, 3) := by decide +kernel
theorem dX0_andNot_7 : decode cX0_andNot 7 = .ok (.arraylength, 1) := by decide +kernel
theorem dX0_andNot_8 : decode cX0_andNot 8 = .ok (.if_icmp .ge 27, 3) := by decide +kernel
theorem dX0_andNot_11 : decode cX0_andNot 11 = .ok (.aload_n 0, 1) := by decide +kernel
theorem dX0_andNot_12 : decode cX0_andNot 12 = .ok (.getfield 9, 3) := by decide +kernel
theorem dX0_andNot_15 : decode cX0_andNot 15 = .ok (.iload_n 2, 1) := by decide +kernel
theorem dX0_andNot_16 : decode cX0_andNot 16 = .ok (.dup2, 1) := by decide +kernel
theorem dX0_andNot_17 : decode cX0_andNot 17 = .ok (.laload, 1) := by decide +kernel
theorem dX0_andNot_18 : decode cX0_andNot 18 = .ok (.aload_n 1, 1) := by decide +kernel
theorem dX0_andNot_19 : decode cX0_andNot 19 = .ok (.iload_n 2, 1) := by decide +kernel
theorem dX0_andNot_20 : decode cX0_andNot 20 = .ok (.invokevirtual 24, 3) := by decide +kernel
theorem dX0_andNot_23 : decode cX0_andNot 23 = .ok (.ldc2_w 18, 3) := by decide +kernel
theorem dX0_andNot_26 : decode cX0_andNot 26 = .ok (.lxor, 1) := by decide +kernel
theorem dX0_andNot_27 : decode cX0_andNot 27 = .ok (.land, 1) := by decide +kernel
theorem dX0_andNot_28 : decode cX0_andNot 28 = .ok (.lastore, 1) := by decide +kernel
theorem dX0_andNot_29 : decode cX0_andNot 29 = .ok (.iinc 2 1, 3) := by decide +kernel
theorem dX0_andNot_32 : decode cX0_andNot 32 = .ok (.goto (-30), 3) := by decide +kernel
theorem dX0_andNot_35 : decode cX0_andNot 35 = .ok (.return_, 1) := by decide +kernel
set_option maxRecDepth 20000 in
theorem ggX0_plus_X0_shift : GoodIn wsX0_plus wsX0_shift := goodIn_r _ [8, 2, 9, 10, 11, 7, 12, 1, 13, 14] (by decide +kernel) (by decide +kernel)
set_option maxRecDepth 20000 in
theorem gX0_plus_X0_shift : GoodIn wsX0_plus (wsV RX0 20 RX0 yX0_shift wsX0_shift) := goodIn_app (goodIn_of _ (by decide +kernel)) ggX0_plus_X0_shift
theorem dX0_plus_0 : decode cX0_plus 0 = .ok (.aload_n 0, 1) := by decide +kernel
theorem dX0_plus_1 : decode cX0_plus 1 = .ok (.aload_n 1, 1) := by decide +kernel
theorem dX0_plus_2 : decode cX0_plus 2 = .ok (.iload_n 2, 1) := by decide +kernel
theorem dX0_plus_3 : decode cX0_plus 3 = .ok (.invokevirtual 20, 3) := by decide +kernel
theorem dX0_plus_6 : decode cX0_plus 6 = .ok (.lconst 0, 1) := by decide +kernel
theorem dX0_plus_7 : decode cX0_plus 7 = .ok (.lstore_n 3, 1) := by decide +kernel
theorem dX0_plus_8 : decode cX0_plus 8 = .ok (.iconst 0, 1) := by decide +kernel
theorem dX0_plus_9 : decode cX0_plus 9 = .ok (.istore 5, 2) := by decide +kernel
theorem dX0_plus_11 : decode cX0_plus 11 = .ok (.iload 5, 2) := by decide +kernel
theorem dX0_plus_13 : decode cX0_plus 13 = .ok (.aload_n 0, 1) := by decide +kernel
theorem dX0_plus_14 : decode cX0_plus 14 = .ok (.getfield 9, 3) := by decide +kernel
theorem dX0_plus_17 : decode cX0_plus 17 = .ok (.arraylength, 1) := by decide +kernel
theorem dX0_plus_18 : decode cX0_plus 18 = .ok (.if_icmp .ge 77, 3) := by decide +kernel
theorem dX0_plus_21 : decode cX0_plus 21 = .ok (.iload 5, 2) := by decide +kernel
theorem dX0_plus_23 : decode cX0_plus 23 = .ok (.aload_n 0, 1) := by decide +kernel
theorem dX0_plus_24 : decode cX0_plus 24 = .ok (.getfield 15, 3) := by decide +kernel
theorem dX0_plus_27 : decode cX0_plus 27 = .ok (.arraylength, 1) := by decide +kernel
theorem dX0_plus_28 : decode cX0_plus 28 = .ok (.if_icmp .ge 67, 3) := by decide +kernel
theorem dX0_plus_31 : decode cX0_plus 31 = .ok (.aload_n 0, 1) := by decide +kernel
theorem dX0_plus_32 : decode cX0_plus 32 = .ok (.getfield 9, 3) := by decide +kernel
theorem dX0_plus_35 : decode cX0_plus 35 = .ok (.iload 5, 2) := by decide +kernel
theorem dX0_plus_37 : decode cX0_plus 37 = .ok (.laload, 1) := by decide +kernel
theorem dX0_plus_38 : decode cX0_plus 38 = .ok (.lstore 6, 2) := by decide +kernel
theorem dX0_plus_40 : decode cX0_plus 40 = .ok (.aload_n 0, 1) := by decide +kernel
theorem dX0_plus_41 : decode cX0_plus 41 = .ok (.getfield 15, 3) := by decide +kernel
theorem dX0_plus_44 : decode cX0_plus 44 = .ok (.iload 5, 2) := by decide +kernel
theorem dX0_plus_46 : decode cX0_plus 46 = .ok (.laload, 1) := by decide +kernel
theorem dX0_plus_47 : decode cX0_plus 47 = .ok (.lstore 8, 2) := by decide +kernel
theorem dX0_plus_49 : decode cX0_plus 49 = .ok (.lload 6, 2) := by decide +kernel
theorem dX0_plus_51 : decode cX0_plus 51 = .ok (.lload 8, 2) := by decide +kernel
theorem dX0_plus_53 : decode cX0_plus 53 = .ok (.ladd, 1) := by decide +kernel
theorem dX0_plus_54 : decode cX0_plus 54 = .ok (.lload_n 3, 1) := by decide +kernel
theorem dX0_plus_55 : decode cX0_plus 55 = .ok (.ladd, 1) := by decide +kernel
theorem dX0_plus_56 : decode cX0_plus 56 = .ok (.lstore 10, 2) := by decide +kernel
theorem dX0_plus_58 : decode cX0_plus 58 = .ok (.lload 6, 2) := by decide +kernel
theorem dX0_plus_60 : decode cX0_plus 60 = .ok (.lload 8, 2) := by decide +kernel
theorem dX0_plus_62 : decode cX0_plus 62 = .ok (.land, 1) := by decide +kernel
theorem dX0_plus_63 : decode cX0_plus 63 = .ok (.lload 6, 2) := by decide +kernel
theorem dX0_plus_65 : decode cX0_plus 65 = .ok (.lload 8, 2) := by decide +kernel
theorem dX0_plus_67 : decode cX0_plus 67 = .ok (.lor, 1) := by decide +kernel
theorem dX0_plus_68 : decode cX0_plus 68 = .ok (.lload 10, 2) := by decide +kernel
theorem dX0_plus_70 : decode cX0_plus 70 = .ok (.ldc2_w 18, 3) := by decide +kernel
theorem dX0_plus_73 : decode cX0_plus 73 = .ok (.lxor, 1) := by decide +kernel
theorem dX0_plus_74 : decode cX0_plus 74 = .ok (.land, 1) := by decide +kernel
theorem dX0_plus_75 : decode cX0_plus 75 = .ok (.lor, 1) := by decide +kernel
theorem dX0_plus_76 : decode cX0_plus 76 = .ok (.bipush 63, 2) := by decide +kernel
theorem dX0_plus_78 : decode cX0_plus 78 = .ok (.lushr, 1) := by decide +kernel
theorem dX0_plus_79 : decode cX0_plus 79 = .ok (.lstore_n 3, 1) := by decide +kernel
theorem dX0_plus_80 : decode cX0_plus 80 = .ok (.aload_n 0, 1) := by decide +kernel
theorem dX0_plus_81 : decode cX0_plus 81 = .ok (.getfield 9, 3) := by decide +kernel
theorem dX0_plus_84 : decode cX0_plus 84 = .ok (.iload 5, 2) := by decide +kernel
theorem dX0_plus_86 : decode cX0_plus 86 = .ok (.lload 10, 2) := by decide +kernel
theorem dX0_plus_88 : decode cX0_plus 88 = .ok (.lastore, 1) := by decide +kernel
theorem dX0_plus_89 : decode cX0_plus 89 = .ok (.iinc 5 1, 3) := by decide +kernel
theorem dX0_plus_92 : decode cX0_plus 92 = .ok (.goto (-81), 3) := by decide +kernel
theorem dX0_plus_95 : decode cX0_plus 95 = .ok (.return_, 1) := by decide +kernel
set_option maxRecDepth 20000 in
theorem ggX0_isSet_X0_wordAt : GoodIn wsX0_isSet wsX0_wordAt := goodIn_r _ [5, 6, 7, 8] (by decide +kernel) (by decide +kernel)
set_option maxRecDepth 20000 in
theorem gX0_isSet_X0_wordAt : GoodIn wsX0_isSet (wsV RX0 24 RX0 yX0_wordAt wsX0_wordAt) := goodIn_app (goodIn_of _ (by decide +kernel)) ggX0_isSet_X0_wordAt
theorem dX0_isSet_0 : decode cX0_isSet 0 = .ok (.aload_n 0, 1) := by decide +kernel
theorem dX0_isSet_1 : decode cX0_isSet 1 = .ok (.iload_n 1, 1) := by decide +kernel
theorem dX0_isSet_2 : decode cX0_isSet 2 = .ok (.bipush 6, 2) := by decide +kernel
theorem dX0_isSet_4 : decode cX0_isSet 4 = .ok (.ishr, 1) := by decide +kernel
theorem dX0_isSet_5 : decode cX0_isSet 5 = .ok (.invokevirtual 24, 3) := by decide +kernel
theorem dX0_isSet_8 : decode cX0_isSet 8 = .ok (.iload_n 1, 1) := by decide +kernel
theorem dX0_isSet_9 : decode cX0_isSet 9 = .ok (.bipush 63, 2) := by decide +kernel
theorem dX0_isSet_11 : decode cX0_isSet 11 = .ok (.iand, 1) := by decide +kernel
theorem dX0_isSet_12 : decode cX0_isSet 12 = .ok (.lushr, 1) := by decide +kernel
theorem dX0_isSet_13 : decode cX0_isSet 13 = .ok (.lconst 1, 1) := by decide +kernel
theorem dX0_isSet_14 : decode cX0_isSet 14 = .ok (.land, 1) := by decide +kernel
theorem dX0_isSet_15 : decode cX0_isSet 15 = .ok (.lconst 0, 1) := by decide +kernel
theorem dX0_isSet_16 : decode cX0_isSet 16 = .ok (.lcmp, 1) := by decide +kernel
theorem dX0_isSet_17 : decode cX0_isSet 17 = .ok (.ifCond .eq 7, 3) := by decide +kernel
theorem dX0_isSet_20 : decode cX0_isSet 20 = .ok (.iconst 1, 1) := by decide +kernel
theorem dX0_isSet_21 : decode cX0_isSet 21 = .ok (.goto 4, 3) := by decide +kernel
theorem dX0_isSet_24 : decode cX0_isSet 24 = .ok (.iconst 0, 1) := by decide +kernel
theorem dX0_isSet_25 : decode cX0_isSet 25 = .ok (.ireturn, 1) := by decide +kernel
set_option maxRecDepth 20000 in
theorem ggX0_fieldAt_X0_wordAt : GoodIn wsX0_fieldAt wsX0_wordAt := goodIn_r _ [5, 6, 7, 8] (by decide +kernel) (by decide +kernel)
set_option maxRecDepth 20000 in
theorem gX0_fieldAt_X0_wordAt : GoodIn wsX0_fieldAt (wsV RX0 24 RX0 yX0_wordAt wsX0_wordAt) := goodIn_app (goodIn_of _ (by decide +kernel)) ggX0_fieldAt_X0_wordAt
theorem dX0_fieldAt_0 : decode cX0_fieldAt 0 = .ok (.iload_n 1, 1) := by decide +kernel
theorem dX0_fieldAt_1 : decode cX0_fieldAt 1 = .ok (.bipush 6, 2) := by decide +kernel
theorem dX0_fieldAt_3 : decode cX0_fieldAt 3 = .ok (.ishr, 1) := by decide +kernel
theorem dX0_fieldAt_4 : decode cX0_fieldAt 4 = .ok (.istore_n 2, 1) := by decide +kernel
theorem dX0_fieldAt_5 : decode cX0_fieldAt 5 = .ok (.iload_n 1, 1) := by decide +kernel
theorem dX0_fieldAt_6 : decode cX0_fieldAt 6 = .ok (.bipush 63, 2) := by decide +kernel
theorem dX0_fieldAt_8 : decode cX0_fieldAt 8 = .ok (.iand, 1) := by decide +kernel
theorem dX0_fieldAt_9 : decode cX0_fieldAt 9 = .ok (.istore_n 3, 1) := by decide +kernel
theorem dX0_fieldAt_10 : decode cX0_fieldAt 10 = .ok (.aload_n 0, 1) := by decide +kernel
theorem dX0_fieldAt_11 : decode cX0_fieldAt 11 = .ok (.iload_n 2, 1) := by decide +kernel
theorem dX0_fieldAt_12 : decode cX0_fieldAt 12 = .ok (.invokevirtual 24, 3) := by decide +kernel
theorem dX0_fieldAt_15 : decode cX0_fieldAt 15 = .ok (.iload_n 3, 1) := by decide +kernel
theorem dX0_fieldAt_16 : decode cX0_fieldAt 16 = .ok (.lushr, 1) := by decide +kernel
theorem dX0_fieldAt_17 : decode cX0_fieldAt 17 = .ok (.lstore 4, 2) := by decide +kernel
theorem dX0_fieldAt_19 : decode cX0_fieldAt 19 = .ok (.iload_n 3, 1) := by decide +kernel
theorem dX0_fieldAt_20 : decode cX0_fieldAt 20 = .ok (.ifCond .ne 8, 3) := by decide +kernel
theorem dX0_fieldAt_23 : decode cX0_fieldAt 23 = .ok (.lload 4, 2) := by decide +kernel
theorem dX0_fieldAt_25 : decode cX0_fieldAt 25 = .ok (.goto 18, 3) := by decide +kernel
theorem dX0_fieldAt_28 : decode cX0_fieldAt 28 = .ok (.lload 4, 2) := by decide +kernel
theorem dX0_fieldAt_30 : decode cX0_fieldAt 30 = .ok (.aload_n 0, 1) := by decide +kernel
theorem dX0_fieldAt_31 : decode cX0_fieldAt 31 = .ok (.iload_n 2, 1) := by decide +kernel
theorem dX0_fieldAt_32 : decode cX0_fieldAt 32 = .ok (.iconst 1, 1) := by decide +kernel
theorem dX0_fieldAt_33 : decode cX0_fieldAt 33 = .ok (.iadd, 1) := by decide +kernel
theorem dX0_fieldAt_34 : decode cX0_fieldAt 34 = .ok (.invokevirtual 24, 3) := by decide +kernel
theorem dX0_fieldAt_37 : decode cX0_fieldAt 37 = .ok (.bipush 64, 2) := by decide +kernel
theorem dX0_fieldAt_39 : decode cX0_fieldAt 39 = .ok (.iload_n 3, 1) := by decide +kernel
theorem dX0_fieldAt_40 : decode cX0_fieldAt 40 = .ok (.isub, 1) := by decide +kernel
theorem dX0_fieldAt_41 : decode cX0_fieldAt 41 = .ok (.lshl, 1) := by decide +kernel
theorem dX0_fieldAt_42 : decode cX0_fieldAt 42 = .ok (.lor, 1) := by decide +kernel
theorem dX0_fieldAt_43 : decode cX0_fieldAt 43 = .ok (.lreturn, 1) := by decide +kernel
set_option maxRecDepth 20000 in
theorem ggX0_countSet_J13_bitCount_95d88 : GoodIn wsX0_countSet wsJ13_bitCount_95d88 := goodIn_r _ [5, 6, 7, 8] (by decide +kernel) (by decide +kernel)
set_option maxRecDepth 20000 in
theorem gX0_countSet_J13_bitCount_95d88 : GoodIn wsX0_countSet (va_wsS RX0 28 yJ13_bitCount_95d88 wsJ13_bitCount_95d88) := goodIn_app (goodIn_of _ (by decide +kernel)) ggX0_countSet_J13_bitCount_95d88
theorem dX0_countSet_0 : decode cX0_countSet 0 = .ok (.iconst 0, 1) := by decide +kernel
theorem dX0_countSet_1 : decode cX0_countSet 1 = .ok (.istore_n 1, 1) := by decide +kernel
theorem dX0_countSet_2 : decode cX0_countSet 2 = .ok (.iconst 0, 1) := by decide +kernel
theorem dX0_countSet_3 : decode cX0_countSet 3 = .ok (.istore_n 2, 1) := by decide +kernel
theorem dX0_countSet_4 : decode cX0_countSet 4 = .ok (.iload_n 2, 1) := by decide +kernel
theorem dX0_countSet_5 : decode cX0_countSet 5 = .ok (.aload_n 0, 1) := by decide +kernel
theorem dX0_countSet_6 : decode cX0_countSet 6 = .ok (.getfield 9, 3) := by decide +kernel
theorem dX0_countSet_9 : decode cX0_countSet 9 = .ok (.arraylength, 1) := by decide +kernel
theorem dX0_countSet_10 : decode cX0_countSet 10 = .ok (.if_icmp .ge 21, 3) := by decide +kernel
theorem dX0_countSet_13 : decode cX0_countSet 13 = .ok (.iload_n 1, 1) := by decide +kernel
theorem dX0_countSet_14 : decode cX0_countSet 14 = .ok (.aload_n 0, 1) := by decide +kernel
theorem dX0_countSet_15 : decode cX0_countSet 15 = .ok (.getfield 9, 3) := by decide +kernel
theorem dX0_countSet_18 : decode cX0_countSet 18 = .ok (.iload_n 2, 1) := by decide +kernel
theorem dX0_countSet_19 : decode cX0_countSet 19 = .ok (.laload, 1) := by decide +kernel
theorem dX0_countSet_20 : decode cX0_countSet 20 = .ok (.invokestatic 28, 3) := by decide +kernel
theorem dX0_countSet_23 : decode cX0_countSet 23 = .ok (.iadd, 1) := by decide +kernel
theorem dX0_countSet_24 : decode cX0_countSet 24 = .ok (.istore_n 1, 1) := by decide +kernel
theorem dX0_countSet_25 : decode cX0_countSet 25 = .ok (.iinc 2 1, 3) := by decide +kernel
theorem dX0_countSet_28 : decode cX0_countSet 28 = .ok (.goto (-24), 3) := by decide +kernel
theorem dX0_countSet_31 : decode cX0_countSet 31 = .ok (.iload_n 1, 1) := by decide +kernel
theorem dX0_countSet_32 : decode cX0_countSet 32 = .ok (.ireturn, 1) := by decide +kernel
set_option maxRecDepth 20000 in
theorem ggX0_endOfSet_X0_isSet : GoodIn wsX0_endOfSet wsX0_isSet := goodIn_r _ [6, 7, 8, 9, 5, 10, 1, 11, 12] (by decide +kernel) (by decide +kernel)
set_option maxRecDepth 20000 in
theorem gX0_endOfSet_X0_isSet : GoodIn wsX0_endOfSet (wsV RX0 34 RX0 yX0_isSet wsX0_isSet) := goodIn_app (goodIn_of _ (by decide +kernel)) ggX0_endOfSet_X0_isSet
theorem dX0_endOfSet_0 : decode cX0_endOfSet 0 = .ok (.aload_n 0, 1) := by decide +kernel
theorem dX0_endOfSet_1 : decode cX0_endOfSet 1 = .ok (.getfield 9, 3) := by decide +kernel
theorem dX0_endOfSet_4 : decode cX0_endOfSet 4 = .ok (.arraylength, 1) := by decide +kernel
theorem dX0_endOfSet_5 : decode cX0_endOfSet 5 = .ok (.bipush 64, 2) := by decide +kernel
theorem dX0_endOfSet_7 : decode cX0_endOfSet 7 = .ok (.imul, 1) := by decide +kernel
theorem dX0_endOfSet_8 : decode cX0_endOfSet 8 = .ok (.istore_n 1, 1) := by decide +kernel
theorem dX0_endOfSet_9 : decode cX0_endOfSet 9 = .ok (.iload_n 1, 1) := by decide +kernel
theorem dX0_endOfSet_10 : decode cX0_endOfSet 10 = .ok (.ifCond .le 19, 3) := by decide +kernel
theorem dX0_endOfSet_13 : decode cX0_endOfSet 13 = .ok (.aload_n 0, 1) := by decide +kernel
theorem dX0_endOfSet_14 : decode cX0_endOfSet 14 = .ok (.iload_n 1, 1) := by decide +kernel
theorem dX0_endOfSet_15 : decode cX0_endOfSet 15 = .ok (.iconst 1, 1) := by decide +kernel
theorem dX0_endOfSet_16 : decode cX0_endOfSet 16 = .ok (.isub, 1) := by decide +kernel
theorem dX0_endOfSet_17 : decode cX0_endOfSet 17 = .ok (.invokevirtual 34, 3) := by decide +kernel
theorem dX0_endOfSet_20 : decode cX0_endOfSet 20 = .ok (.ifCond .ne 9, 3) := by decide +kernel
theorem dX0_endOfSet_23 : decode cX0_endOfSet 23 = .ok (.iinc 1 (-1), 3) := by decide +kernel
theorem dX0_endOfSet_26 : decode cX0_endOfSet 26 = .ok (.goto (-17), 3) := by decide +kernel
theorem dX0_endOfSet_29 : decode cX0_endOfSet 29 = .ok (.iload_n 1, 1) := by decide +kernel
theorem dX0_endOfSet_30 : decode cX0_endOfSet 30 = .ok (.ireturn, 1) := by decide +kernel
set_option maxRecDepth 20000 in
theorem ggX0_hasBitsOf_X0_wordAt : GoodIn wsX0_hasBitsOf wsX0_wordAt := goodIn_r _ [6, 1, 7, 8] (by decide +kernel) (by decide +kernel)
set_option maxRecDepth 20000 in
theorem gX0_hasBitsOf_X0_wordAt : GoodIn wsX0_hasBitsOf (wsV RX0 24 RX0 yX0_wordAt wsX0_wordAt) := goodIn_app (goodIn_of _ (by decide +kernel)) ggX0_hasBitsOf_X0_wordAt
theorem dX0_hasBitsOf_0 : decode cX0_hasBitsOf 0 = .ok (.iconst 0, 1) := by decide +kernel
theorem dX0_hasBitsOf_1 : decode cX0_hasBitsOf 1 = .ok (.istore_n 2, 1) := by decide +kernel
theorem dX0_hasBitsOf_2 : decode cX0_hasBitsOf 2 = .ok (.iload_n 2, 1) := by decide +kernel
theorem dX0_hasBitsOf_3 : decode cX0_hasBitsOf 3 = .ok (.aload_n 0, 1) := by decide +kernel
theorem dX0_hasBitsOf_4 : decode cX0_hasBitsOf 4 = .ok (.getfield 9, 3) := by decide +kernel
theorem dX0_hasBitsOf_7 : decode cX0_hasBitsOf 7 = .ok (.arraylength, 1) := by decide +kernel
theorem dX0_hasBitsOf_8 : decode cX0_hasBitsOf 8 = .ok (.if_icmp .ge 26, 3) := by decide +kernel
theorem dX0_hasBitsOf_11 : decode cX0_hasBitsOf 11 = .ok (.aload_n 0, 1) := by decide +kernel
theorem dX0_hasBitsOf_12 : decode cX0_hasBitsOf 12 = .ok (.getfield 9, 3) := by decide +kernel
theorem dX0_hasBitsOf_15 : decode cX0_hasBitsOf 15 = .ok (.iload_n 2, 1) := by decide +kernel
theorem dX0_hasBitsOf_16 : decode cX0_hasBitsOf 16 = .ok (.laload, 1) := by decide +kernel
theorem dX0_hasBitsOf_17 : decode cX0_hasBitsOf 17 = .ok (.aload_n 1, 1) := by decide +kernel
theorem dX0_hasBitsOf_18 : decode cX0_hasBitsOf 18 = .ok (.iload_n 2, 1) := by decide +kernel
theorem dX0_hasBitsOf_19 : decode cX0_hasBitsOf 19 = .ok (.invokevirtual 24, 3) := by decide +kernel
theorem dX0_hasBitsOf_22 : decode cX0_hasBitsOf 22 = .ok (.lcmp, 1) := by decide +kernel
theorem dX0_hasBitsOf_23 : decode cX0_hasBitsOf 23 = .ok (.ifCond .eq 5, 3) := by decide +kernel
theorem dX0_hasBitsOf_26 : decode cX0_hasBitsOf 26 = .ok (.iconst 0, 1) := by decide +kernel
theorem dX0_hasBitsOf_27 : decode cX0_hasBitsOf 27 = .ok (.ireturn, 1) := by decide +kernel
theorem dX0_hasBitsOf_28 : decode cX0_hasBitsOf 28 = .ok (.iinc 2 1, 3) := by decide +kernel
theorem dX0_hasBitsOf_31 : decode cX0_hasBitsOf 31 = .ok (.goto (-29), 3) := by decide +kernel
theorem dX0_hasBitsOf_34 : decode cX0_hasBitsOf 34 = .ok (.aload_n 0, 1) := by decide +kernel
theorem dX0_hasBitsOf_35 : decode cX0_hasBitsOf 35 = .ok (.getfield 9, 3) := by decide +kernel
theorem dX0_hasBitsOf_38 : decode cX0_hasBitsOf 38 = .ok (.arraylength, 1) := by decide +kernel
theorem dX0_hasBitsOf_39 : decode cX0_hasBitsOf 39 = .ok (.aload_n 1, 1) := by decide +kernel
theorem dX0_hasBitsOf_40 : decode cX0_hasBitsOf 40 = .ok (.getfield 9, 3) := by decide +kernel
theorem dX0_hasBitsOf_43 : decode cX0_hasBitsOf 43 = .ok (.arraylength, 1) := by decide +kernel
theorem dX0_hasBitsOf_44 : decode cX0_hasBitsOf 44 = .ok (.if_icmp .ne 7, 3) := by decide +kernel
theorem dX0_hasBitsOf_47 : decode cX0_hasBitsOf 47 = .ok (.iconst 1, 1) := by decide +kernel
theorem dX0_hasBitsOf_48 : decode cX0_hasBitsOf 48 = .ok (.goto 4, 3) := by decide +kernel
theorem dX0_hasBitsOf_51 : decode cX0_hasBitsOf 51 = .ok (.iconst 0, 1) := by decide +kernel
theorem dX0_hasBitsOf_52 : decode cX0_hasBitsOf 52 = .ok (.ireturn, 1) := by decide +kernel
set_option maxRecDepth 20000 in
theorem ggX0_shift_X0_wordAt : GoodIn wsX0_shift wsX0_wordAt := goodIn_r _ [6, 7, 8, 9] (by decide +kernel) (by decide +kernel)
set_option maxRecDepth 20000 in
theorem gX0_shift_X0_wordAt : GoodIn wsX0_shift (wsV RX0 24 RX0 yX0_wordAt wsX0_wordAt) := goodIn_app (goodIn_of _ (by decide +kernel)) ggX0_shift_X0_wordAt
theorem dX0_shift_0 : decode cX0_shift 0 = .ok (.iload_n 2, 1) := by decide +kernel
theorem dX0_shift_1 : decode cX0_shift 1 = .ok (.bipush 6, 2) := by decide +kernel
theorem dX0_shift_3 : decode cX0_shift 3 = .ok (.ishr, 1) := by decide +kernel
theorem dX0_shift_4 : decode cX0_shift 4 = .ok (.istore_n 3, 1) := by decide +kernel
theorem dX0_shift_5 : decode cX0_shift 5 = .ok (.iload_n 2, 1) := by decide +kernel
theorem dX0_shift_6 : decode cX0_shift 6 = .ok (.bipush 63, 2) := by decide +kernel
theorem dX0_shift_8 : decode cX0_shift 8 = .ok (.iand, 1) := by decide +kernel
theorem dX0_shift_9 : decode cX0_shift 9 = .ok (.istore 4, 2) := by decide +kernel
theorem dX0_shift_11 : decode cX0_shift 11 = .ok (.iconst 0, 1) := by decide +kernel
theorem dX0_shift_12 : decode cX0_shift 12 = .ok (.istore 5, 2) := by decide +kernel
theorem dX0_shift_14 : decode cX0_shift 14 = .ok (.iload 5, 2) := by decide +kernel
theorem dX0_shift_16 : decode cX0_shift 16 = .ok (.aload_n 0, 1) := by decide +kernel
theorem dX0_shift_17 : decode cX0_shift 17 = .ok (.getfield 15, 3) := by decide +kernel
theorem dX0_shift_20 : decode cX0_shift 20 = .ok (.arraylength, 1) := by decide +kernel
theorem dX0_shift_21 : decode cX0_shift 21 = .ok (.if_icmp .ge 54, 3) := by decide +kernel
theorem dX0_shift_24 : decode cX0_shift 24 = .ok (.aload_n 1, 1) := by decide +kernel
theorem dX0_shift_25 : decode cX0_shift 25 = .ok (.iload 5, 2) := by decide +kernel
theorem dX0_shift_27 : decode cX0_shift 27 = .ok (.iload_n 3, 1) := by decide +kernel
theorem dX0_shift_28 : decode cX0_shift 28 = .ok (.isub, 1) := by decide +kernel
theorem dX0_shift_29 : decode cX0_shift 29 = .ok (.invokevirtual 24, 3) := by decide +kernel
theorem dX0_shift_32 : decode cX0_shift 32 = .ok (.iload 4, 2) := by decide +kernel
theorem dX0_shift_34 : decode cX0_shift 34 = .ok (.lshl, 1) := by decide +kernel
theorem dX0_shift_35 : decode cX0_shift 35 = .ok (.lstore 6, 2) := by decide +kernel
theorem dX0_shift_37 : decode cX0_shift 37 = .ok (.aload_n 1, 1) := by decide +kernel
theorem dX0_shift_38 : decode cX0_shift 38 = .ok (.iload 5, 2) := by decide +kernel
theorem dX0_shift_40 : decode cX0_shift 40 = .ok (.iload_n 3, 1) := by decide +kernel
theorem dX0_shift_41 : decode cX0_shift 41 = .ok (.isub, 1) := by decide +kernel
theorem dX0_shift_42 : decode cX0_shift 42 = .ok (.iconst 1, 1) := by decide +kernel
theorem dX0_shift_43 : decode cX0_shift 43 = .ok (.isub, 1) := by decide +kernel
theorem dX0_shift_44 : decode cX0_shift 44 = .ok (.invokevirtual 24, 3) := by decide +kernel
theorem dX0_shift_47 : decode cX0_shift 47 = .ok (.bipush 63, 2) := by decide +kernel
theorem dX0_shift_49 : decode cX0_shift 49 = .ok (.iload 4, 2) := by decide +kernel
theorem dX0_shift_51 : decode cX0_shift 51 = .ok (.isub, 1) := by decide +kernel
theorem dX0_shift_52 : decode cX0_shift 52 = .ok (.lushr, 1) := by decide +kernel
theorem dX0_shift_53 : decode cX0_shift 53 = .ok (.iconst 1, 1) := by decide +kernel
theorem dX0_shift_54 : decode cX0_shift 54 = .ok (.lushr, 1) := by decide +kernel
theorem dX0_shift_55 : decode cX0_shift 55 = .ok (.lstore 8, 2) := by decide +kernel
theorem dX0_shift_57 : decode cX0_shift 57 = .ok (.aload_n 0, 1) := by decide +kernel
theorem dX0_shift_58 : decode cX0_shift 58 = .ok (.getfield 15, 3) := by decide +kernel
theorem dX0_shift_61 : decode cX0_shift 61 = .ok (.iload 5, 2) := by decide +kernel
theorem dX0_shift_63 : decode cX0_shift 63 = .ok (.lload 6, 2) := by decide +kernel
theorem dX0_shift_65 : decode cX0_shift 65 = .ok (.lload 8, 2) := by decide +kernel
theorem dX0_shift_67 : decode cX0_shift 67 = .ok (.lor, 1) := by decide +kernel
theorem dX0_shift_68 : decode cX0_shift 68 = .ok (.lastore, 1) := by decide +kernel
theorem dX0_shift_69 : decode cX0_shift 69 = .ok (.iinc 5 1, 3) := by decide +kernel
theorem dX0_shift_72 : decode cX0_shift 72 = .ok (.goto (-58), 3) := by decide +kernel
theorem dX0_shift_75 : decode cX0_shift 75 = .ok (.return_, 1) := by decide +kernel
theorem dX0_wordAt_0 : decode cX0_wordAt 0 = .ok (.iload_n 1, 1) := by decide +kernel
theorem dX0_wordAt_1 : decode cX0_wordAt 1 = .ok (.ifCond .lt 21, 3) := by decide +kernel
theorem dX0_wordAt_4 : decode cX0_wordAt 4 = .ok (.iload_n 1, 1) := by decide +kernel
theorem dX0_wordAt_5 : decode cX0_wordAt 5 = .ok (.aload_n 0, 1) := by decide +kernel
theorem dX0_wordAt_6 : decode cX0_wordAt 6 = .ok (.getfield 9, 3) := by decide +kernel
theorem dX0_wordAt_9 : decode cX0_wordAt 9 = .ok (.arraylength, 1) := by decide +kernel
theorem dX0_wordAt_10 : decode cX0_wordAt 10 = .ok (.if_icmp .ge 12, 3) := by decide +kernel
theorem dX0_wordAt_13 : decode cX0_wordAt 13 = .ok (.aload_n 0, 1) := by decide +kernel
theorem dX0_wordAt_14 : decode cX0_wordAt 14 = .ok (.getfield 9, 3) := by decide +kernel
theorem dX0_wordAt_17 : decode cX0_wordAt 17 = .ok (.iload_n 1, 1) := by decide +kernel
theorem dX0_wordAt_18 : decode cX0_wordAt 18 = .ok (.laload, 1) := by decide +kernel
theorem dX0_wordAt_19 : decode cX0_wordAt 19 = .ok (.goto 4, 3) := by decide +kernel
theorem dX0_wordAt_22 : decode cX0_wordAt 22 = .ok (.lconst 0, 1) := by decide +kernel
theorem dX0_wordAt_23 : decode cX0_wordAt 23 = .ok (.lreturn, 1) := by decide +kernel
set_option maxRecDepth 20000 in
theorem ggX1_init_X0_init : GoodIn wsX1_init wsX0_init := goodIn_r _ [12, 13, 2, 3, 8, 14, 15, 16, 17] (by decide +kernel) (by decide +kernel)
set_option maxRecDepth 20000 in
theorem gX1_init_X0_init : GoodIn wsX1_init (wsX0_init) := ggX1_init_X0_init
theorem dX1_init_0 : decode cX1_init 0 = .ok (.aload_n 0, 1) := by decide +kernel
theorem dX1_init_1 : decode cX1_init 1 = .ok (.invokespecial 3, 3) := by decide +kernel
theorem dX1_init_4 : decode cX1_init 4 = .ok (.aload_n 0, 1) := by decide +kernel
theorem dX1_init_5 : decode cX1_init 5 = .ok (.new 9, 3) := by decide +kernel
theorem dX1_init_8 : decode cX1_init 8 = .ok (.dup, 1) := by decide +kernel
theorem dX1_init_9 : decode cX1_init 9 = .ok (.bipush 99, 2) := by decide +kernel
theorem dX1_init_11 : decode cX1_init 11 = .ok (.invokespecial 11, 3) := by decide +kernel
theorem dX1_init_14 : decode cX1_init 14 = .ok (.putfield 14, 3) := by decide +kernel
theorem dX1_init_17 : decode cX1_init 17 = .ok (.aload_n 0, 1) := by decide +kernel
theorem dX1_init_18 : decode cX1_init 18 = .ok (.sipush 301, 3) := by decide +kernel
theorem dX1_init_21 : decode cX1_init 21 = .ok (.newarray .long, 2) := by decide +kernel
theorem dX1_init_23 : decode cX1_init 23 = .ok (.putfield 20, 3) := by decide +kernel
theorem dX1_init_26 : decode cX1_init 26 = .ok (.return_, 1) := by decide +kernel
set_option maxRecDepth 20000 in
theorem ggX1_fill_X0_become : GoodIn wsX1_fill wsX0_become := goodIn_r _ [8, 9, 43, 44] (by decide +kernel) (by decide +kernel)
set_option maxRecDepth 20000 in
theorem gX1_fill_X0_become : GoodIn wsX1_fill (wsV RX1 24 RX0 yX0_become wsX0_become) := goodIn_app (goodIn_of _ (by decide +kernel)) ggX1_fill_X0_become
set_option maxRecDepth 20000 in
theorem ggX1_fill_X3_numberAt : GoodIn wsX1_fill wsX3_numberAt := goodIn_r _ [14, 15, 16, 17, 18, 13, 19, 20, 41, 42] (by decide +kernel) (by decide +kernel)
set_option maxRecDepth 20000 in
theorem gX1_fill_X3_numberAt : GoodIn wsX1_fill (wsV RX1 33 RX3 yX3_numberAt wsX3_numberAt) := goodIn_app (goodIn_of _ (by decide +kernel)) ggX1_fill_X3_numberAt
set_option maxRecDepth 20000 in
theorem ggX1_fill_X0_plus : GoodIn wsX1_fill wsX0_plus := goodIn_r _ [24, 9, 25, 26, 27, 28, 29, 7, 30, 31, 32, 33, 34, 43, 44] (by decide +kernel) (by decide +kernel)
set_option maxRecDepth 20000 in
theorem gX1_fill_X0_plus : GoodIn wsX1_fill (wsV RX1 37 RX0 yX0_plus wsX0_plus) := goodIn_app (goodIn_of _ (by decide +kernel)) ggX1_fill_X0_plus
set_option maxRecDepth 20000 in
theorem ggX1_fill_X0_fieldAt : GoodIn wsX1_fill wsX0_fieldAt := goodIn_r _ [38, 31, 32, 33, 7, 34, 9, 43, 44] (by decide +kernel) (by decide +kernel)
set_option maxRecDepth 20000 in
theorem gX1_fill_X0_fieldAt : GoodIn wsX1_fill (wsV RX1 41 RX0 yX0_fieldAt wsX0_fieldAt) := goodIn_app (goodIn_of _ (by decide +kernel)) ggX1_fill_X0_fieldAt
theorem dX1_fill_0 : decode cX1_fill 0 = .ok (.aload_n 0, 1) := by decide +kernel
theorem dX1_fill_1 : decode cX1_fill 1 = .ok (.getfield 14, 3) := by decide +kernel
theorem dX1_fill_4 : decode cX1_fill 4 = .ok (.iconst 1, 1) := by decide +kernel
theorem dX1_fill_5 : decode cX1_fill 5 = .ok (.invokevirtual 24, 3) := by decide +kernel
theorem dX1_fill_8 : decode cX1_fill 8 = .ok (.iconst 0, 1) := by decide +kernel
theorem dX1_fill_9 : decode cX1_fill 9 = .ok (.istore_n 2, 1) := by decide +kernel
theorem dX1_fill_10 : decode cX1_fill 10 = .ok (.iload_n 2, 1) := by decide +kernel
theorem dX1_fill_11 : decode cX1_fill 11 = .ok (.aload_n 1, 1) := by decide +kernel
theorem dX1_fill_12 : decode cX1_fill 12 = .ok (.getfield 27, 3) := by decide +kernel
theorem dX1_fill_15 : decode cX1_fill 15 = .ok (.if_icmp .ge 28, 3) := by decide +kernel
theorem dX1_fill_18 : decode cX1_fill 18 = .ok (.aload_n 0, 1) := by decide +kernel
theorem dX1_fill_19 : decode cX1_fill 19 = .ok (.getfield 14, 3) := by decide +kernel
theorem dX1_fill_22 : decode cX1_fill 22 = .ok (.aload_n 0, 1) := by decide +kernel
theorem dX1_fill_23 : decode cX1_fill 23 = .ok (.getfield 14, 3) := by decide +kernel
theorem dX1_fill_26 : decode cX1_fill 26 = .ok (.bipush 21, 2) := by decide +kernel
theorem dX1_fill_28 : decode cX1_fill 28 = .ok (.aload_n 1, 1) := by decide +kernel
theorem dX1_fill_29 : decode cX1_fill 29 = .ok (.iload_n 2, 1) := by decide +kernel
theorem dX1_fill_30 : decode cX1_fill 30 = .ok (.invokevirtual 33, 3) := by decide +kernel
theorem dX1_fill_33 : decode cX1_fill 33 = .ok (.imul, 1) := by decide +kernel
theorem dX1_fill_34 : decode cX1_fill 34 = .ok (.invokevirtual 37, 3) := by decide +kernel
theorem dX1_fill_37 : decode cX1_fill 37 = .ok (.iinc 2 1, 3) := by decide +kernel
theorem dX1_fill_40 : decode cX1_fill 40 = .ok (.goto (-30), 3) := by decide +kernel
theorem dX1_fill_43 : decode cX1_fill 43 = .ok (.iconst 0, 1) := by decide +kernel
theorem dX1_fill_44 : decode cX1_fill 44 = .ok (.istore_n 2, 1) := by decide +kernel
theorem dX1_fill_45 : decode cX1_fill 45 = .ok (.iload_n 2, 1) := by decide +kernel
theorem dX1_fill_46 : decode cX1_fill 46 = .ok (.sipush 300, 3) := by decide +kernel
theorem dX1_fill_49 : decode cX1_fill 49 = .ok (.if_icmp .gt 30, 3) := by decide +kernel
theorem dX1_fill_52 : decode cX1_fill 52 = .ok (.aload_n 0, 1) := by decide +kernel
theorem dX1_fill_53 : decode cX1_fill 53 = .ok (.getfield 20, 3) := by decide +kernel
theorem dX1_fill_56 : decode cX1_fill 56 = .ok (.iload_n 2, 1) := by decide +kernel
theorem dX1_fill_57 : decode cX1_fill 57 = .ok (.aload_n 0, 1) := by decide +kernel
theorem dX1_fill_58 : decode cX1_fill 58 = .ok (.getfield 14, 3) := by decide +kernel
theorem dX1_fill_61 : decode cX1_fill 61 = .ok (.bipush 21, 2) := by decide +kernel
theorem dX1_fill_63 : decode cX1_fill 63 = .ok (.iload_n 2, 1) := by decide +kernel
theorem dX1_fill_64 : decode cX1_fill 64 = .ok (.imul, 1) := by decide +kernel
theorem dX1_fill_65 : decode cX1_fill 65 = .ok (.invokevirtual 41, 3) := by decide +kernel
theorem dX1_fill_68 : decode cX1_fill 68 = .ok (.ldc2_w 45, 3) := by decide +kernel
theorem dX1_fill_71 : decode cX1_fill 71 = .ok (.land, 1) := by decide +kernel
theorem dX1_fill_72 : decode cX1_fill 72 = .ok (.lastore, 1) := by decide +kernel
theorem dX1_fill_73 : decode cX1_fill 73 = .ok (.iinc 2 1, 3) := by decide +kernel
theorem dX1_fill_76 : decode cX1_fill 76 = .ok (.goto (-31), 3) := by decide +kernel
theorem dX1_fill_79 : decode cX1_fill 79 = .ok (.return_, 1) := by decide +kernel
theorem dX1_countOf_0 : decode cX1_countOf 0 = .ok (.iload_n 1, 1) := by decide +kernel
theorem dX1_countOf_1 : decode cX1_countOf 1 = .ok (.ifCond .lt 19, 3) := by decide +kernel
theorem dX1_countOf_4 : decode cX1_countOf 4 = .ok (.iload_n 1, 1) := by decide +kernel
theorem dX1_countOf_5 : decode cX1_countOf 5 = .ok (.sipush 300, 3) := by decide +kernel
theorem dX1_countOf_8 : decode cX1_countOf 8 = .ok (.if_icmp .gt 12, 3) := by decide +kernel
theorem dX1_countOf_11 : decode cX1_countOf 11 = .ok (.aload_n 0, 1) := by decide +kernel
theorem dX1_countOf_12 : decode cX1_countOf 12 = .ok (.getfield 20, 3) := by decide +kernel
theorem dX1_countOf_15 : decode cX1_countOf 15 = .ok (.iload_n 1, 1) := by decide +kernel
theorem dX1_countOf_16 : decode cX1_countOf 16 = .ok (.laload, 1) := by decide +kernel
theorem dX1_countOf_17 : decode cX1_countOf 17 = .ok (.goto 4, 3) := by decide +kernel
theorem dX1_countOf_20 : decode cX1_countOf 20 = .ok (.lconst 0, 1) := by decide +kernel
theorem dX1_countOf_21 : decode cX1_countOf 21 = .ok (.lreturn, 1) := by decide +kernel
set_option maxRecDepth 20000 in
theorem ggX2_init_X7_init : GoodIn wsX2_init wsX7_init := goodIn_r _ [5, 6, 7, 8] (by decide +kernel) (by decide +kernel)
set_option maxRecDepth 20000 in
theorem gX2_init_X7_init_n3 : GoodIn wsX2_init (wsX7_init) := ggX2_init_X7_init
theorem dX2_init_0 : decode cX2_init 0 = .ok (.aload_n 0, 1) := by decide +kernel
theorem dX2_init_1 : decode cX2_init 1 = .ok (.invokespecial 3, 3) := by decide +kernel
theorem dX2_init_4 : decode cX2_init 4 = .ok (.aload_n 0, 1) := by decide +kernel
theorem dX2_init_5 : decode cX2_init 5 = .ok (.sipush 301, 3) := by decide +kernel
theorem dX2_init_8 : decode cX2_init 8 = .ok (.newarray .int, 2) := by decide +kernel
theorem dX2_init_10 : decode cX2_init 10 = .ok (.putfield 9, 3) := by decide +kernel
theorem dX2_init_13 : decode cX2_init 13 = .ok (.return_, 1) := by decide +kernel
theorem dX2_begin_0 : decode cX2_begin 0 = .ok (.iconst 0, 1) := by decide +kernel
theorem dX2_begin_1 : decode cX2_begin 1 = .ok (.istore_n 1, 1) := by decide +kernel
theorem dX2_begin_2 : decode cX2_begin 2 = .ok (.iload_n 1, 1) := by decide +kernel
theorem dX2_begin_3 : decode cX2_begin 3 = .ok (.sipush 300, 3) := by decide +kernel
theorem dX2_begin_6 : decode cX2_begin 6 = .ok (.if_icmp .gt 26, 3) := by decide +kernel
theorem dX2_begin_9 : decode cX2_begin 9 = .ok (.aload_n 0, 1) := by decide +kernel
theorem dX2_begin_10 : decode cX2_begin 10 = .ok (.getfield 9, 3) := by decide +kernel
theorem dX2_begin_13 : decode cX2_begin 13 = .ok (.iload_n 1, 1) := by decide +kernel
theorem dX2_begin_14 : decode cX2_begin 14 = .ok (.iload_n 1, 1) := by decide +kernel
theorem dX2_begin_15 : decode cX2_begin 15 = .ok (.ifCond .ne 7, 3) := by decide +kernel
theorem dX2_begin_18 : decode cX2_begin 18 = .ok (.iconst 0, 1) := by decide +kernel
theorem dX2_begin_19 : decode cX2_begin 19 = .ok (.goto 6, 3) := by decide +kernel
theorem dX2_begin_22 : decode cX2_begin 22 = .ok (.sipush 301, 3) := by decide +kernel
theorem dX2_begin_25 : decode cX2_begin 25 = .ok (.iastore, 1) := by decide +kernel
theorem dX2_begin_26 : decode cX2_begin 26 = .ok (.iinc 1 1, 3) := by decide +kernel
theorem dX2_begin_29 : decode cX2_begin 29 = .ok (.goto (-27), 3) := by decide +kernel
theorem dX2_begin_32 : decode cX2_begin 32 = .ok (.return_, 1) := by decide +kernel
theorem dX2_carry_0 : decode cX2_carry 0 = .ok (.iload_n 1, 1) := by decide +kernel
theorem dX2_carry_1 : decode cX2_carry 1 = .ok (.invokestatic 15, 3) := by decide +kernel
theorem dX2_carry_4 : decode cX2_carry 4 = .ok (.ifCond .eq 33, 3) := by decide +kernel
theorem dX2_carry_7 : decode cX2_carry 7 = .ok (.iload_n 2, 1) := by decide +kernel
theorem dX2_carry_8 : decode cX2_carry 8 = .ok (.invokestatic 15, 3) := by decide +kernel
theorem dX2_carry_11 : decode cX2_carry 11 = .ok (.ifCond .eq 26, 3) := by decide +kernel
theorem dX2_carry_14 : decode cX2_carry 14 = .ok (.aload_n 0, 1) := by decide +kernel
theorem dX2_carry_15 : decode cX2_carry 15 = .ok (.getfield 9, 3) := by decide +kernel
theorem dX2_carry_18 : decode cX2_carry 18 = .ok (.iload_n 2, 1) := by decide +kernel
theorem dX2_carry_19 : decode cX2_carry 19 = .ok (.aload_n 0, 1) := by decide +kernel
theorem dX2_carry_20 : decode cX2_carry 20 = .ok (.getfield 9, 3) := by decide +kernel
theorem dX2_carry_23 : decode cX2_carry 23 = .ok (.iload_n 2, 1) := by decide +kernel
theorem dX2_carry_24 : decode cX2_carry 24 = .ok (.iaload, 1) := by decide +kernel
theorem dX2_carry_25 : decode cX2_carry 25 = .ok (.aload_n 0, 1) := by decide +kernel
theorem dX2_carry_26 : decode cX2_carry 26 = .ok (.getfield 9, 3) := by decide +kernel
theorem dX2_carry_29 : decode cX2_carry 29 = .ok (.iload_n 1, 1) := by decide +kernel
theorem dX2_carry_30 : decode cX2_carry 30 = .ok (.iaload, 1) := by decide +kernel
theorem dX2_carry_31 : decode cX2_carry 31 = .ok (.iconst 1, 1) := by decide +kernel
theorem dX2_carry_32 : decode cX2_carry 32 = .ok (.iadd, 1) := by decide +kernel
theorem dX2_carry_33 : decode cX2_carry 33 = .ok (.invokestatic 19, 3) := by decide +kernel
theorem dX2_carry_36 : decode cX2_carry 36 = .ok (.iastore, 1) := by decide +kernel
theorem dX2_carry_37 : decode cX2_carry 37 = .ok (.return_, 1) := by decide +kernel
set_option maxRecDepth 20000 in
theorem ggX2_isMade_X2_leastOf : GoodIn wsX2_isMade wsX2_leastOf := goodIn_r _ [5, 6, 7] (by decide +kernel) (by decide +kernel)
set_option maxRecDepth 20000 in
theorem gX2_isMade_X2_leastOf : GoodIn wsX2_isMade (wsV RX2 25 RX2 yX2_leastOf wsX2_leastOf) := goodIn_app (goodIn_of _ (by decide +kernel)) ggX2_isMade_X2_leastOf
theorem dX2_isMade_0 : decode cX2_isMade 0 = .ok (.aload_n 0, 1) := by decide +kernel
theorem dX2_isMade_1 : decode cX2_isMade 1 = .ok (.iload_n 1, 1) := by decide +kernel
theorem dX2_isMade_2 : decode cX2_isMade 2 = .ok (.invokevirtual 25, 3) := by decide +kernel
theorem dX2_isMade_5 : decode cX2_isMade 5 = .ok (.sipush 301, 3) := by decide +kernel
theorem dX2_isMade_8 : decode cX2_isMade 8 = .ok (.if_icmp .ge 7, 3) := by decide +kernel
theorem dX2_isMade_11 : decode cX2_isMade 11 = .ok (.iconst 1, 1) := by decide +kernel
theorem dX2_isMade_12 : decode cX2_isMade 12 = .ok (.goto 4, 3) := by decide +kernel
theorem dX2_isMade_15 : decode cX2_isMade 15 = .ok (.iconst 0, 1) := by decide +kernel
theorem dX2_isMade_16 : decode cX2_isMade 16 = .ok (.ireturn, 1) := by decide +kernel
theorem dX2_leastOf_0 : decode cX2_leastOf 0 = .ok (.iload_n 1, 1) := by decide +kernel
theorem dX2_leastOf_1 : decode cX2_leastOf 1 = .ok (.invokestatic 15, 3) := by decide +kernel
theorem dX2_leastOf_4 : decode cX2_leastOf 4 = .ok (.ifCond .eq 12, 3) := by decide +kernel
theorem dX2_leastOf_7 : decode cX2_leastOf 7 = .ok (.aload_n 0, 1) := by decide +kernel
theorem dX2_leastOf_8 : decode cX2_leastOf 8 = .ok (.getfield 9, 3) := by decide +kernel
theorem dX2_leastOf_11 : decode cX2_leastOf 11 = .ok (.iload_n 1, 1) := by decide +kernel
theorem dX2_leastOf_12 : decode cX2_leastOf 12 = .ok (.iaload, 1) := by decide +kernel
theorem dX2_leastOf_13 : decode cX2_leastOf 13 = .ok (.goto 6, 3) := by decide +kernel
theorem dX2_leastOf_16 : decode cX2_leastOf 16 = .ok (.sipush 301, 3) := by decide +kernel
theorem dX2_leastOf_19 : decode cX2_leastOf 19 = .ok (.ireturn, 1) := by decide +kernel
theorem dX3_init_0 : decode cX3_init 0 = .ok (.aload_n 0, 1) := by decide +kernel
theorem dX3_init_1 : decode cX3_init 1 = .ok (.invokespecial 3, 3) := by decide +kernel
theorem dX3_init_4 : decode cX3_init 4 = .ok (.aload_n 0, 1) := by decide +kernel
theorem dX3_init_5 : decode cX3_init 5 = .ok (.bipush 20, 2) := by decide +kernel
theorem dX3_init_7 : decode cX3_init 7 = .ok (.newarray .int, 2) := by decide +kernel
theorem dX3_init_9 : decode cX3_init 9 = .ok (.putfield 9, 3) := by decide +kernel
theorem dX3_init_12 : decode cX3_init 12 = .ok (.return_, 1) := by decide +kernel
theorem dX3_hasPlace_0 : decode cX3_hasPlace 0 = .ok (.iload_n 1, 1) := by decide +kernel
theorem dX3_hasPlace_1 : decode cX3_hasPlace 1 = .ok (.ifCond .lt 21, 3) := by decide +kernel
theorem dX3_hasPlace_4 : decode cX3_hasPlace 4 = .ok (.iload_n 1, 1) := by decide +kernel
theorem dX3_hasPlace_5 : decode cX3_hasPlace 5 = .ok (.aload_n 0, 1) := by decide +kernel
theorem dX3_hasPlace_6 : decode cX3_hasPlace 6 = .ok (.getfield 15, 3) := by decide +kernel
theorem dX3_hasPlace_9 : decode cX3_hasPlace 9 = .ok (.if_icmp .ge 13, 3) := by decide +kernel
theorem dX3_hasPlace_12 : decode cX3_hasPlace 12 = .ok (.iload_n 1, 1) := by decide +kernel
theorem dX3_hasPlace_13 : decode cX3_hasPlace 13 = .ok (.bipush 20, 2) := by decide +kernel
theorem dX3_hasPlace_15 : decode cX3_hasPlace 15 = .ok (.if_icmp .ge 7, 3) := by decide +kernel
theorem dX3_hasPlace_18 : decode cX3_hasPlace 18 = .ok (.iconst 1, 1) := by decide +kernel
theorem dX3_hasPlace_19 : decode cX3_hasPlace 19 = .ok (.goto 4, 3) := by decide +kernel
theorem dX3_hasPlace_22 : decode cX3_hasPlace 22 = .ok (.iconst 0, 1) := by decide +kernel
theorem dX3_hasPlace_23 : decode cX3_hasPlace 23 = .ok (.ireturn, 1) := by decide +kernel
set_option maxRecDepth 20000 in
theorem ggX3_numberAt_X3_hasPlace : GoodIn wsX3_numberAt wsX3_hasPlace := goodIn_r _ [6, 7, 8, 9] (by decide +kernel) (by decide +kernel)
set_option maxRecDepth 20000 in
theorem gX3_numberAt_X3_hasPlace : GoodIn wsX3_numberAt (wsV RX3 19 RX3 yX3_hasPlace wsX3_hasPlace) := goodIn_app (goodIn_of _ (by decide +kernel)) ggX3_numberAt_X3_hasPlace
theorem dX3_numberAt_0 : decode cX3_numberAt 0 = .ok (.aload_n 0, 1) := by decide +kernel
theorem dX3_numberAt_1 : decode cX3_numberAt 1 = .ok (.iload_n 1, 1) := by decide +kernel
theorem dX3_numberAt_2 : decode cX3_numberAt 2 = .ok (.invokevirtual 19, 3) := by decide +kernel
theorem dX3_numberAt_5 : decode cX3_numberAt 5 = .ok (.ifCond .eq 12, 3) := by decide +kernel
theorem dX3_numberAt_8 : decode cX3_numberAt 8 = .ok (.aload_n 0, 1) := by decide +kernel
theorem dX3_numberAt_9 : decode cX3_numberAt 9 = .ok (.getfield 9, 3) := by decide +kernel
theorem dX3_numberAt_12 : decode cX3_numberAt 12 = .ok (.iload_n 1, 1) := by decide +kernel
theorem dX3_numberAt_13 : decode cX3_numberAt 13 = .ok (.iaload, 1) := by decide +kernel
theorem dX3_numberAt_14 : decode cX3_numberAt 14 = .ok (.goto 4, 3) := by decide +kernel
theorem dX3_numberAt_17 : decode cX3_numberAt 17 = .ok (.iconst 0, 1) := by decide +kernel
theorem dX3_numberAt_18 : decode cX3_numberAt 18 = .ok (.ireturn, 1) := by decide +kernel
set_option maxRecDepth 20000 in
theorem ggX3_sumAt_X3_numberAt : GoodIn wsX3_sumAt wsX3_numberAt := goodIn_r _ [6, 7, 8, 9, 10, 5, 11, 1, 12, 13] (by decide +kernel) (by decide +kernel)
set_option maxRecDepth 20000 in
theorem gX3_sumAt_X3_numberAt : GoodIn wsX3_sumAt (wsV RX3 23 RX3 yX3_numberAt wsX3_numberAt) := goodIn_app (goodIn_of _ (by decide +kernel)) ggX3_sumAt_X3_numberAt
theorem dX3_sumAt_0 : decode cX3_sumAt 0 = .ok (.iconst 0, 1) := by decide +kernel
theorem dX3_sumAt_1 : decode cX3_sumAt 1 = .ok (.istore_n 2, 1) := by decide +kernel
theorem dX3_sumAt_2 : decode cX3_sumAt 2 = .ok (.iconst 0, 1) := by decide +kernel
theorem dX3_sumAt_3 : decode cX3_sumAt 3 = .ok (.istore_n 3, 1) := by decide +kernel
theorem dX3_sumAt_4 : decode cX3_sumAt 4 = .ok (.iload_n 3, 1) := by decide +kernel
theorem dX3_sumAt_5 : decode cX3_sumAt 5 = .ok (.aload_n 0, 1) := by decide +kernel
theorem dX3_sumAt_6 : decode cX3_sumAt 6 = .ok (.getfield 15, 3) := by decide +kernel
theorem dX3_sumAt_9 : decode cX3_sumAt 9 = .ok (.if_icmp .ge 25, 3) := by decide +kernel
theorem dX3_sumAt_12 : decode cX3_sumAt 12 = .ok (.iload_n 1, 1) := by decide +kernel
theorem dX3_sumAt_13 : decode cX3_sumAt 13 = .ok (.iload_n 3, 1) := by decide +kernel
theorem dX3_sumAt_14 : decode cX3_sumAt 14 = .ok (.ishr, 1) := by decide +kernel
theorem dX3_sumAt_15 : decode cX3_sumAt 15 = .ok (.iconst 1, 1) := by decide +kernel
theorem dX3_sumAt_16 : decode cX3_sumAt 16 = .ok (.iand, 1) := by decide +kernel
theorem dX3_sumAt_17 : decode cX3_sumAt 17 = .ok (.ifCond .eq 11, 3) := by decide +kernel
theorem dX3_sumAt_20 : decode cX3_sumAt 20 = .ok (.iload_n 2, 1) := by decide +kernel
theorem dX3_sumAt_21 : decode cX3_sumAt 21 = .ok (.aload_n 0, 1) := by decide +kernel
theorem dX3_sumAt_22 : decode cX3_sumAt 22 = .ok (.iload_n 3, 1) := by decide +kernel
theorem dX3_sumAt_23 : decode cX3_sumAt 23 = .ok (.invokevirtual 23, 3) := by decide +kernel
theorem dX3_sumAt_26 : decode cX3_sumAt 26 = .ok (.iadd, 1) := by decide +kernel
theorem dX3_sumAt_27 : decode cX3_sumAt 27 = .ok (.istore_n 2, 1) := by decide +kernel
theorem dX3_sumAt_28 : decode cX3_sumAt 28 = .ok (.iinc 3 1, 3) := by decide +kernel
theorem dX3_sumAt_31 : decode cX3_sumAt 31 = .ok (.goto (-27), 3) := by decide +kernel
theorem dX3_sumAt_34 : decode cX3_sumAt 34 = .ok (.iload_n 2, 1) := by decide +kernel
theorem dX3_sumAt_35 : decode cX3_sumAt 35 = .ok (.ireturn, 1) := by decide +kernel
set_option maxRecDepth 20000 in
theorem ggX3_sumOfAll_X3_sumAt : GoodIn wsX3_sumOfAll wsX3_sumAt := goodIn_r _ [5, 6, 7, 8, 9, 4, 10, 11, 12, 13, 14, 15, 16, 17] (by decide +kernel) (by decide +kernel)
set_option maxRecDepth 20000 in
theorem gX3_sumOfAll_X3_sumAt : GoodIn wsX3_sumOfAll (wsV RX3 27 RX3 yX3_sumAt wsX3_sumAt) := goodIn_app (goodIn_of _ (by decide +kernel)) ggX3_sumOfAll_X3_sumAt
theorem dX3_sumOfAll_0 : decode cX3_sumOfAll 0 = .ok (.aload_n 0, 1) := by decide +kernel
theorem dX3_sumOfAll_1 : decode cX3_sumOfAll 1 = .ok (.iconst (-1), 1) := by decide +kernel
theorem dX3_sumOfAll_2 : decode cX3_sumOfAll 2 = .ok (.invokevirtual 27, 3) := by decide +kernel
theorem dX3_sumOfAll_5 : decode cX3_sumOfAll 5 = .ok (.ireturn, 1) := by decide +kernel
theorem dX3_empty_0 : decode cX3_empty 0 = .ok (.aload_n 0, 1) := by decide +kernel
theorem dX3_empty_1 : decode cX3_empty 1 = .ok (.iconst 0, 1) := by decide +kernel
theorem dX3_empty_2 : decode cX3_empty 2 = .ok (.putfield 15, 3) := by decide +kernel
theorem dX3_empty_5 : decode cX3_empty 5 = .ok (.return_, 1) := by decide +kernel
theorem dX3_putIn_0 : decode cX3_putIn 0 = .ok (.aload_n 0, 1) := by decide +kernel
theorem dX3_putIn_1 : decode cX3_putIn 1 = .ok (.getfield 15, 3) := by decide +kernel
theorem dX3_putIn_4 : decode cX3_putIn 4 = .ok (.bipush 20, 2) := by decide +kernel
theorem dX3_putIn_6 : decode cX3_putIn 6 = .ok (.if_icmp .ge 15, 3) := by decide +kernel
theorem dX3_putIn_9 : decode cX3_putIn 9 = .ok (.iload_n 1, 1) := by decide +kernel
theorem dX3_putIn_10 : decode cX3_putIn 10 = .ok (.ifCond .lt 11, 3) := by decide +kernel
theorem dX3_putIn_13 : decode cX3_putIn 13 = .ok (.iload_n 1, 1) := by decide +kernel
theorem dX3_putIn_14 : decode cX3_putIn 14 = .ok (.aload_n 0, 1) := by decide +kernel
theorem dX3_putIn_15 : decode cX3_putIn 15 = .ok (.getfield 15, 3) := by decide +kernel
theorem dX3_putIn_18 : decode cX3_putIn 18 = .ok (.if_icmp .le 4, 3) := by decide +kernel
theorem dX3_putIn_21 : decode cX3_putIn 21 = .ok (.return_, 1) := by decide +kernel
theorem dX3_putIn_22 : decode cX3_putIn 22 = .ok (.aload_n 0, 1) := by decide +kernel
theorem dX3_putIn_23 : decode cX3_putIn 23 = .ok (.getfield 15, 3) := by decide +kernel
theorem dX3_putIn_26 : decode cX3_putIn 26 = .ok (.istore_n 3, 1) := by decide +kernel
theorem dX3_putIn_27 : decode cX3_putIn 27 = .ok (.iload_n 3, 1) := by decide +kernel
theorem dX3_putIn_28 : decode cX3_putIn 28 = .ok (.iload_n 1, 1) := by decide +kernel
theorem dX3_putIn_29 : decode cX3_putIn 29 = .ok (.if_icmp .le 23, 3) := by decide +kernel
theorem dX3_putIn_32 : decode cX3_putIn 32 = .ok (.aload_n 0, 1) := by decide +kernel
theorem dX3_putIn_33 : decode cX3_putIn 33 = .ok (.getfield 9, 3) := by decide +kernel
theorem dX3_putIn_36 : decode cX3_putIn 36 = .ok (.iload_n 3, 1) := by decide +kernel
theorem dX3_putIn_37 : decode cX3_putIn 37 = .ok (.aload_n 0, 1) := by decide +kernel
theorem dX3_putIn_38 : decode cX3_putIn 38 = .ok (.getfield 9, 3) := by decide +kernel
theorem dX3_putIn_41 : decode cX3_putIn 41 = .ok (.iload_n 3, 1) := by decide +kernel
theorem dX3_putIn_42 : decode cX3_putIn 42 = .ok (.iconst 1, 1) := by decide +kernel
theorem dX3_putIn_43 : decode cX3_putIn 43 = .ok (.isub, 1) := by decide +kernel
theorem dX3_putIn_44 : decode cX3_putIn 44 = .ok (.iaload, 1) := by decide +kernel
theorem dX3_putIn_45 : decode cX3_putIn 45 = .ok (.iastore, 1) := by decide +kernel
theorem dX3_putIn_46 : decode cX3_putIn 46 = .ok (.iinc 3 (-1), 3) := by decide +kernel
theorem dX3_putIn_49 : decode cX3_putIn 49 = .ok (.goto (-22), 3) := by decide +kernel
theorem dX3_putIn_52 : decode cX3_putIn 52 = .ok (.aload_n 0, 1) := by decide +kernel
theorem dX3_putIn_53 : decode cX3_putIn 53 = .ok (.getfield 9, 3) := by decide +kernel
theorem dX3_putIn_56 : decode cX3_putIn 56 = .ok (.iload_n 1, 1) := by decide +kernel
theorem dX3_putIn_57 : decode cX3_putIn 57 = .ok (.iload_n 2, 1) := by decide +kernel
theorem dX3_putIn_58 : decode cX3_putIn 58 = .ok (.iastore, 1) := by decide +kernel
theorem dX3_putIn_59 : decode cX3_putIn 59 = .ok (.aload_n 0, 1) := by decide +kernel
theorem dX3_putIn_60 : decode cX3_putIn 60 = .ok (.dup, 1) := by decide +kernel
theorem dX3_putIn_61 : decode cX3_putIn 61 = .ok (.getfield 15, 3) := by decide +kernel
theorem dX3_putIn_64 : decode cX3_putIn 64 = .ok (.iconst 1, 1) := by decide +kernel
theorem dX3_putIn_65 : decode cX3_putIn 65 = .ok (.iadd, 1) := by decide +kernel
theorem dX3_putIn_66 : decode cX3_putIn 66 = .ok (.putfield 15, 3) := by decide +kernel
theorem dX3_putIn_69 : decode cX3_putIn 69 = .ok (.return_, 1) := by decide +kernel
set_option maxRecDepth 20000 in
theorem ggX3_putOver_X3_hasPlace : GoodIn wsX3_putOver wsX3_hasPlace := goodIn_r _ [6, 7, 8, 9] (by decide +kernel) (by decide +kernel)
set_option maxRecDepth 20000 in
theorem gX3_putOver_X3_hasPlace : GoodIn wsX3_putOver (wsV RX3 19 RX3 yX3_hasPlace wsX3_hasPlace) := goodIn_app (goodIn_of _ (by decide +kernel)) ggX3_putOver_X3_hasPlace
theorem dX3_putOver_0 : decode cX3_putOver 0 = .ok (.aload_n 0, 1) := by decide +kernel
theorem dX3_putOver_1 : decode cX3_putOver 1 = .ok (.iload_n 1, 1) := by decide +kernel
theorem dX3_putOver_2 : decode cX3_putOver 2 = .ok (.invokevirtual 19, 3) := by decide +kernel
theorem dX3_putOver_5 : decode cX3_putOver 5 = .ok (.ifCond .eq 10, 3) := by decide +kernel
theorem dX3_putOver_8 : decode cX3_putOver 8 = .ok (.aload_n 0, 1) := by decide +kernel
theorem dX3_putOver_9 : decode cX3_putOver 9 = .ok (.getfield 9, 3) := by decide +kernel
theorem dX3_putOver_12 : decode cX3_putOver 12 = .ok (.iload_n 1, 1) := by decide +kernel
theorem dX3_putOver_13 : decode cX3_putOver 13 = .ok (.iload_n 2, 1) := by decide +kernel
theorem dX3_putOver_14 : decode cX3_putOver 14 = .ok (.iastore, 1) := by decide +kernel
theorem dX3_putOver_15 : decode cX3_putOver 15 = .ok (.return_, 1) := by decide +kernel
set_option maxRecDepth 20000 in
theorem ggX3_takeAway_X3_hasPlace : GoodIn wsX3_takeAway wsX3_hasPlace := goodIn_r _ [7, 2, 12, 13] (by decide +kernel) (by decide +kernel)
set_option maxRecDepth 20000 in
theorem gX3_takeAway_X3_hasPlace : GoodIn wsX3_takeAway (wsV RX3 19 RX3 yX3_hasPlace wsX3_hasPlace) := goodIn_app (goodIn_of _ (by decide +kernel)) ggX3_takeAway_X3_hasPlace
set_option maxRecDepth 20000 in
theorem ggX3_takeAway_X3_numberAt : GoodIn wsX3_takeAway wsX3_numberAt := goodIn_r _ [11, 1, 3, 4, 5, 6, 7, 2, 12, 13] (by decide +kernel) (by decide +kernel)
set_option maxRecDepth 20000 in
theorem gX3_takeAway_X3_numberAt : GoodIn wsX3_takeAway (wsV RX3 23 RX3 yX3_numberAt wsX3_numberAt) := goodIn_app (goodIn_of _ (by decide +kernel)) ggX3_takeAway_X3_numberAt
theorem dX3_takeAway_0 : decode cX3_takeAway 0 = .ok (.aload_n 0, 1) := by decide +kernel
theorem dX3_takeAway_1 : decode cX3_takeAway 1 = .ok (.iload_n 1, 1) := by decide +kernel
theorem dX3_takeAway_2 : decode cX3_takeAway 2 = .ok (.invokevirtual 19, 3) := by decide +kernel
theorem dX3_takeAway_5 : decode cX3_takeAway 5 = .ok (.ifCond .ne 5, 3) := by decide +kernel
theorem dX3_takeAway_8 : decode cX3_takeAway 8 = .ok (.iconst 0, 1) := by decide +kernel
theorem dX3_takeAway_9 : decode cX3_takeAway 9 = .ok (.ireturn, 1) := by decide +kernel
theorem dX3_takeAway_10 : decode cX3_takeAway 10 = .ok (.aload_n 0, 1) := by decide +kernel
theorem dX3_takeAway_11 : decode cX3_takeAway 11 = .ok (.getfield 9, 3) := by decide +kernel
theorem dX3_takeAway_14 : decode cX3_takeAway 14 = .ok (.iload_n 1, 1) := by decide +kernel
theorem dX3_takeAway_15 : decode cX3_takeAway 15 = .ok (.iaload, 1) := by decide +kernel
theorem dX3_takeAway_16 : decode cX3_takeAway 16 = .ok (.istore_n 2, 1) := by decide +kernel
theorem dX3_takeAway_17 : decode cX3_takeAway 17 = .ok (.iload_n 1, 1) := by decide +kernel
theorem dX3_takeAway_18 : decode cX3_takeAway 18 = .ok (.istore_n 3, 1) := by decide +kernel
theorem dX3_takeAway_19 : decode cX3_takeAway 19 = .ok (.iload_n 3, 1) := by decide +kernel
theorem dX3_takeAway_20 : decode cX3_takeAway 20 = .ok (.iconst 1, 1) := by decide +kernel
theorem dX3_takeAway_21 : decode cX3_takeAway 21 = .ok (.iadd, 1) := by decide +kernel
theorem dX3_takeAway_22 : decode cX3_takeAway 22 = .ok (.aload_n 0, 1) := by decide +kernel
theorem dX3_takeAway_23 : decode cX3_takeAway 23 = .ok (.getfield 15, 3) := by decide +kernel
theorem dX3_takeAway_26 : decode cX3_takeAway 26 = .ok (.if_icmp .ge 22, 3) := by decide +kernel
theorem dX3_takeAway_29 : decode cX3_takeAway 29 = .ok (.aload_n 0, 1) := by decide +kernel
theorem dX3_takeAway_30 : decode cX3_takeAway 30 = .ok (.getfield 9, 3) := by decide +kernel
theorem dX3_takeAway_33 : decode cX3_takeAway 33 = .ok (.iload_n 3, 1) := by decide +kernel
theorem dX3_takeAway_34 : decode cX3_takeAway 34 = .ok (.aload_n 0, 1) := by decide +kernel
theorem dX3_takeAway_35 : decode cX3_takeAway 35 = .ok (.iload_n 3, 1) := by decide +kernel
theorem dX3_takeAway_36 : decode cX3_takeAway 36 = .ok (.iconst 1, 1) := by decide +kernel
theorem dX3_takeAway_37 : decode cX3_takeAway 37 = .ok (.iadd, 1) := by decide +kernel
theorem dX3_takeAway_38 : decode cX3_takeAway 38 = .ok (.invokevirtual 23, 3) := by decide +kernel
theorem dX3_takeAway_41 : decode cX3_takeAway 41 = .ok (.iastore, 1) := by decide +kernel
theorem dX3_takeAway_42 : decode cX3_takeAway 42 = .ok (.iinc 3 1, 3) := by decide +kernel
theorem dX3_takeAway_45 : decode cX3_takeAway 45 = .ok (.goto (-26), 3) := by decide +kernel
theorem dX3_takeAway_48 : decode cX3_takeAway 48 = .ok (.aload_n 0, 1) := by decide +kernel
theorem dX3_takeAway_49 : decode cX3_takeAway 49 = .ok (.dup, 1) := by decide +kernel
theorem dX3_takeAway_50 : decode cX3_takeAway 50 = .ok (.getfield 15, 3) := by decide +kernel
theorem dX3_takeAway_53 : decode cX3_takeAway 53 = .ok (.iconst 1, 1) := by decide +kernel
theorem dX3_takeAway_54 : decode cX3_takeAway 54 = .ok (.isub, 1) := by decide +kernel
theorem dX3_takeAway_55 : decode cX3_takeAway 55 = .ok (.putfield 15, 3) := by decide +kernel
theorem dX3_takeAway_58 : decode cX3_takeAway 58 = .ok (.iload_n 2, 1) := by decide +kernel
theorem dX3_takeAway_59 : decode cX3_takeAway 59 = .ok (.ireturn, 1) := by decide +kernel
set_option maxRecDepth 20000 in
theorem ggX3_putInOrder_X3_takeAway : GoodIn wsX3_putInOrder wsX3_takeAway := goodIn_r _ [6, 7, 1, 8, 9, 10, 5, 11, 12, 13, 14, 15, 20, 21] (by decide +kernel) (by decide +kernel)
set_option maxRecDepth 20000 in
theorem gX3_putInOrder_X3_takeAway : GoodIn wsX3_putInOrder (wsV RX3 30 RX3 yX3_takeAway wsX3_takeAway) := goodIn_app (goodIn_of _ (by decide +kernel)) ggX3_putInOrder_X3_takeAway
set_option maxRecDepth 20000 in
theorem ggX3_putInOrder_X3_numberAt : GoodIn wsX3_putInOrder wsX3_numberAt := goodIn_r _ [15, 7, 8, 9, 10, 5, 11, 1, 20, 21] (by decide +kernel) (by decide +kernel)
set_option maxRecDepth 20000 in
theorem gX3_putInOrder_X3_numberAt : GoodIn wsX3_putInOrder (wsV RX3 23 RX3 yX3_numberAt wsX3_numberAt) := goodIn_app (goodIn_of _ (by decide +kernel)) ggX3_putInOrder_X3_numberAt
set_option maxRecDepth 20000 in
theorem ggX3_putInOrder_X3_putIn : GoodIn wsX3_putInOrder wsX3_putIn := goodIn_r _ [19, 1, 7, 20, 21] (by decide +kernel) (by decide +kernel)
set_option maxRecDepth 20000 in
theorem gX3_putInOrder_X3_putIn : GoodIn wsX3_putInOrder (wsV RX3 33 RX3 yX3_putIn wsX3_putIn) := goodIn_app (goodIn_of _ (by decide +kernel)) ggX3_putInOrder_X3_putIn
theorem dX3_putInOrder_0 : decode cX3_putInOrder 0 = .ok (.iconst 1, 1) := by decide +kernel
theorem dX3_putInOrder_1 : decode cX3_putInOrder 1 = .ok (.istore_n 1, 1) := by decide +kernel
theorem dX3_putInOrder_2 : decode cX3_putInOrder 2 = .ok (.iload_n 1, 1) := by decide +kernel
theorem dX3_putInOrder_3 : decode cX3_putInOrder 3 = .ok (.aload_n 0, 1) := by decide +kernel
theorem dX3_putInOrder_4 : decode cX3_putInOrder 4 = .ok (.getfield 15, 3) := by decide +kernel
theorem dX3_putInOrder_7 : decode cX3_putInOrder 7 = .ok (.if_icmp .ge 44, 3) := by decide +kernel
theorem dX3_putInOrder_10 : decode cX3_putInOrder 10 = .ok (.aload_n 0, 1) := by decide +kernel
theorem dX3_putInOrder_11 : decode cX3_putInOrder 11 = .ok (.iload_n 1, 1) := by decide +kernel
theorem dX3_putInOrder_12 : decode cX3_putInOrder 12 = .ok (.invokevirtual 30, 3) := by decide +kernel
theorem dX3_putInOrder_15 : decode cX3_putInOrder 15 = .ok (.istore_n 2, 1) := by decide +kernel
theorem dX3_putInOrder_16 : decode cX3_putInOrder 16 = .ok (.iload_n 1, 1) := by decide +kernel
theorem dX3_putInOrder_17 : decode cX3_putInOrder 17 = .ok (.istore_n 3, 1) := by decide +kernel
theorem dX3_putInOrder_18 : decode cX3_putInOrder 18 = .ok (.iload_n 3, 1) := by decide +kernel
theorem dX3_putInOrder_19 : decode cX3_putInOrder 19 = .ok (.ifCond .le 20, 3) := by decide +kernel
theorem dX3_putInOrder_22 : decode cX3_putInOrder 22 = .ok (.aload_n 0, 1) := by decide +kernel
theorem dX3_putInOrder_23 : decode cX3_putInOrder 23 = .ok (.iload_n 3, 1) := by decide +kernel
theorem dX3_putInOrder_24 : decode cX3_putInOrder 24 = .ok (.iconst 1, 1) := by decide +kernel
theorem dX3_putInOrder_25 : decode cX3_putInOrder 25 = .ok (.isub, 1) := by decide +kernel
theorem dX3_putInOrder_26 : decode cX3_putInOrder 26 = .ok (.invokevirtual 23, 3) := by decide +kernel
theorem dX3_putInOrder_29 : decode cX3_putInOrder 29 = .ok (.iload_n 2, 1) := by decide +kernel
theorem dX3_putInOrder_30 : decode cX3_putInOrder 30 = .ok (.if_icmp .le 9, 3) := by decide +kernel
theorem dX3_putInOrder_33 : decode cX3_putInOrder 33 = .ok (.iinc 3 (-1), 3) := by decide +kernel
theorem dX3_putInOrder_36 : decode cX3_putInOrder 36 = .ok (.goto (-18), 3) := by decide +kernel
theorem dX3_putInOrder_39 : decode cX3_putInOrder 39 = .ok (.aload_n 0, 1) := by decide +kernel
theorem dX3_putInOrder_40 : decode cX3_putInOrder 40 = .ok (.iload_n 3, 1) := by decide +kernel
theorem dX3_putInOrder_41 : decode cX3_putInOrder 41 = .ok (.iload_n 2, 1) := by decide +kernel
theorem dX3_putInOrder_42 : decode cX3_putInOrder 42 = .ok (.invokevirtual 33, 3) := by decide +kernel
theorem dX3_putInOrder_45 : decode cX3_putInOrder 45 = .ok (.iinc 1 1, 3) := by decide +kernel
theorem dX3_putInOrder_48 : decode cX3_putInOrder 48 = .ok (.goto (-46), 3) := by decide +kernel
theorem dX3_putInOrder_51 : decode cX3_putInOrder 51 = .ok (.return_, 1) := by decide +kernel
set_option maxRecDepth 20000 in
theorem ggX3_pick_X3_empty : GoodIn wsX3_pick wsX3_empty := goodIn_r _ [6, 1, 20, 21] (by decide +kernel) (by decide +kernel)
set_option maxRecDepth 20000 in
theorem gX3_pick_X3_empty : GoodIn wsX3_pick (wsV RX3 37 RX3 yX3_empty wsX3_empty) := goodIn_app (goodIn_of _ (by decide +kernel)) ggX3_pick_X3_empty
set_option maxRecDepth 20000 in
theorem ggX3_pick_X3_numberAt : GoodIn wsX3_pick wsX3_numberAt := goodIn_r _ [10, 11, 12, 13, 14, 5, 15, 1, 20, 21] (by decide +kernel) (by decide +kernel)
set_option maxRecDepth 20000 in
theorem gX3_pick_X3_numberAt : GoodIn wsX3_pick (wsV RX3 23 RX3 yX3_numberAt wsX3_numberAt) := goodIn_app (goodIn_of _ (by decide +kernel)) ggX3_pick_X3_numberAt
set_option maxRecDepth 20000 in
theorem ggX3_pick_X3_putIn : GoodIn wsX3_pick wsX3_putIn := goodIn_r _ [19, 1, 11, 20, 21] (by decide +kernel) (by decide +kernel)
set_option maxRecDepth 20000 in
theorem gX3_pick_X3_putIn : GoodIn wsX3_pick (wsV RX3 33 RX3 yX3_putIn wsX3_putIn) := goodIn_app (goodIn_of _ (by decide +kernel)) ggX3_pick_X3_putIn
theorem dX3_pick_0 : decode cX3_pick 0 = .ok (.aload_n 0, 1) := by decide +kernel
theorem dX3_pick_1 : decode cX3_pick 1 = .ok (.invokevirtual 37, 3) := by decide +kernel
theorem dX3_pick_4 : decode cX3_pick 4 = .ok (.iconst 0, 1) := by decide +kernel
theorem dX3_pick_5 : decode cX3_pick 5 = .ok (.istore_n 3, 1) := by decide +kernel
theorem dX3_pick_6 : decode cX3_pick 6 = .ok (.iload_n 3, 1) := by decide +kernel
theorem dX3_pick_7 : decode cX3_pick 7 = .ok (.aload_n 1, 1) := by decide +kernel
theorem dX3_pick_8 : decode cX3_pick 8 = .ok (.getfield 15, 3) := by decide +kernel
theorem dX3_pick_11 : decode cX3_pick 11 = .ok (.if_icmp .ge 30, 3) := by decide +kernel
theorem dX3_pick_14 : decode cX3_pick 14 = .ok (.iload_n 2, 1) := by decide +kernel
theorem dX3_pick_15 : decode cX3_pick 15 = .ok (.iload_n 3, 1) := by decide +kernel
theorem dX3_pick_16 : decode cX3_pick 16 = .ok (.ishr, 1) := by decide +kernel
theorem dX3_pick_17 : decode cX3_pick 17 = .ok (.iconst 1, 1) := by decide +kernel
theorem dX3_pick_18 : decode cX3_pick 18 = .ok (.iand, 1) := by decide +kernel
theorem dX3_pick_19 : decode cX3_pick 19 = .ok (.ifCond .eq 16, 3) := by decide +kernel
theorem dX3_pick_22 : decode cX3_pick 22 = .ok (.aload_n 0, 1) := by decide +kernel
theorem dX3_pick_23 : decode cX3_pick 23 = .ok (.aload_n 0, 1) := by decide +kernel
theorem dX3_pick_24 : decode cX3_pick 24 = .ok (.getfield 15, 3) := by decide +kernel
theorem dX3_pick_27 : decode cX3_pick 27 = .ok (.aload_n 1, 1) := by decide +kernel
theorem dX3_pick_28 : decode cX3_pick 28 = .ok (.iload_n 3, 1) := by decide +kernel
theorem dX3_pick_29 : decode cX3_pick 29 = .ok (.invokevirtual 23, 3) := by decide +kernel
theorem dX3_pick_32 : decode cX3_pick 32 = .ok (.invokevirtual 33, 3) := by decide +kernel
theorem dX3_pick_35 : decode cX3_pick 35 = .ok (.iinc 3 1, 3) := by decide +kernel
theorem dX3_pick_38 : decode cX3_pick 38 = .ok (.goto (-32), 3) := by decide +kernel
theorem dX3_pick_41 : decode cX3_pick 41 = .ok (.return_, 1) := by decide +kernel
set_option maxRecDepth 20000 in
theorem ggX3_copyFrom_X3_pick : GoodIn wsX3_copyFrom wsX3_pick := goodIn_r _ [5, 6, 7, 8, 9, 4, 10, 11, 12, 13, 14, 15, 16, 17, 18, 19, 20, 21, 22, 23, 24, 25] (by decide +kernel) (by decide +kernel)
set_option maxRecDepth 20000 in
theorem gX3_copyFrom_X3_pick : GoodIn wsX3_copyFrom (wsV RX3 40 RX3 yX3_pick wsX3_pick) := goodIn_app (goodIn_of _ (by decide +kernel)) ggX3_copyFrom_X3_pick
theorem dX3_copyFrom_0 : decode cX3_copyFrom 0 = .ok (.aload_n 0, 1) := by decide +kernel
theorem dX3_copyFrom_1 : decode cX3_copyFrom 1 = .ok (.aload_n 1, 1) := by decide +kernel
theorem dX3_copyFrom_2 : decode cX3_copyFrom 2 = .ok (.iconst (-1), 1) := by decide +kernel
theorem dX3_copyFrom_3 : decode cX3_copyFrom 3 = .ok (.invokevirtual 40, 3) := by decide +kernel
theorem dX3_copyFrom_6 : decode cX3_copyFrom 6 = .ok (.return_, 1) := by decide +kernel
set_option maxRecDepth 20000 in
theorem ggX3_copyTurned_X3_empty : GoodIn wsX3_copyTurned wsX3_empty := goodIn_r _ [6, 1, 20, 21] (by decide +kernel) (by decide +kernel)
set_option maxRecDepth 20000 in
theorem gX3_copyTurned_X3_empty : GoodIn wsX3_copyTurned (wsV RX3 37 RX3 yX3_empty wsX3_empty) := goodIn_app (goodIn_of _ (by decide +kernel)) ggX3_copyTurned_X3_empty
set_option maxRecDepth 20000 in
theorem ggX3_copyTurned_X3_numberAt : GoodIn wsX3_copyTurned wsX3_numberAt := goodIn_r _ [10, 11, 12, 13, 14, 5, 15, 1, 20, 21] (by decide +kernel) (by decide +kernel)
set_option maxRecDepth 20000 in
theorem gX3_copyTurned_X3_numberAt : GoodIn wsX3_copyTurned (wsV RX3 23 RX3 yX3_numberAt wsX3_numberAt) := goodIn_app (goodIn_of _ (by decide +kernel)) ggX3_copyTurned_X3_numberAt
set_option maxRecDepth 20000 in
theorem ggX3_copyTurned_X3_putIn : GoodIn wsX3_copyTurned wsX3_putIn := goodIn_r _ [19, 1, 11, 20, 21] (by decide +kernel) (by decide +kernel)
set_option maxRecDepth 20000 in
theorem gX3_copyTurned_X3_putIn : GoodIn wsX3_copyTurned (wsV RX3 33 RX3 yX3_putIn wsX3_putIn) := goodIn_app (goodIn_of _ (by decide +kernel)) ggX3_copyTurned_X3_putIn
theorem dX3_copyTurned_0 : decode cX3_copyTurned 0 = .ok (.aload_n 0, 1) := by decide +kernel
theorem dX3_copyTurned_1 : decode cX3_copyTurned 1 = .ok (.invokevirtual 37, 3) := by decide +kernel
theorem dX3_copyTurned_4 : decode cX3_copyTurned 4 = .ok (.aload_n 1, 1) := by decide +kernel
theorem dX3_copyTurned_5 : decode cX3_copyTurned 5 = .ok (.getfield 15, 3) := by decide +kernel
theorem dX3_copyTurned_8 : decode cX3_copyTurned 8 = .ok (.iconst 1, 1) := by decide +kernel
theorem dX3_copyTurned_9 : decode cX3_copyTurned 9 = .ok (.isub, 1) := by decide +kernel
theorem dX3_copyTurned_10 : decode cX3_copyTurned 10 = .ok (.istore_n 2, 1) := by decide +kernel
theorem dX3_copyTurned_11 : decode cX3_copyTurned 11 = .ok (.iload_n 2, 1) := by decide +kernel
theorem dX3_copyTurned_12 : decode cX3_copyTurned 12 = .ok (.ifCond .lt 22, 3) := by decide +kernel
theorem dX3_copyTurned_15 : decode cX3_copyTurned 15 = .ok (.aload_n 0, 1) := by decide +kernel
theorem dX3_copyTurned_16 : decode cX3_copyTurned 16 = .ok (.aload_n 0, 1) := by decide +kernel
theorem dX3_copyTurned_17 : decode cX3_copyTurned 17 = .ok (.getfield 15, 3) := by decide +kernel
theorem dX3_copyTurned_20 : decode cX3_copyTurned 20 = .ok (.aload_n 1, 1) := by decide +kernel
theorem dX3_copyTurned_21 : decode cX3_copyTurned 21 = .ok (.iload_n 2, 1) := by decide +kernel
theorem dX3_copyTurned_22 : decode cX3_copyTurned 22 = .ok (.invokevirtual 23, 3) := by decide +kernel
theorem dX3_copyTurned_25 : decode cX3_copyTurned 25 = .ok (.invokevirtual 33, 3) := by decide +kernel
theorem dX3_copyTurned_28 : decode cX3_copyTurned 28 = .ok (.iinc 2 (-1), 3) := by decide +kernel
theorem dX3_copyTurned_31 : decode cX3_copyTurned 31 = .ok (.goto (-20), 3) := by decide +kernel
theorem dX3_copyTurned_34 : decode cX3_copyTurned 34 = .ok (.return_, 1) := by decide +kernel
set_option maxRecDepth 20000 in
theorem ggX3_putBehind_X3_numberAt : GoodIn wsX3_putBehind wsX3_numberAt := goodIn_r _ [6, 7, 8, 9, 10, 5, 11, 1, 16, 17] (by decide +kernel) (by decide +kernel)
set_option maxRecDepth 20000 in
theorem gX3_putBehind_X3_numberAt : GoodIn wsX3_putBehind (wsV RX3 23 RX3 yX3_numberAt wsX3_numberAt) := goodIn_app (goodIn_of _ (by decide +kernel)) ggX3_putBehind_X3_numberAt
set_option maxRecDepth 20000 in
theorem ggX3_putBehind_X3_putIn : GoodIn wsX3_putBehind wsX3_putIn := goodIn_r _ [15, 1, 7, 16, 17] (by decide +kernel) (by decide +kernel)
set_option maxRecDepth 20000 in
theorem gX3_putBehind_X3_putIn : GoodIn wsX3_putBehind (wsV RX3 33 RX3 yX3_putIn wsX3_putIn) := goodIn_app (goodIn_of _ (by decide +kernel)) ggX3_putBehind_X3_putIn
theorem dX3_putBehind_0 : decode cX3_putBehind 0 = .ok (.iconst 0, 1) := by decide +kernel
theorem dX3_putBehind_1 : decode cX3_putBehind 1 = .ok (.istore_n 2, 1) := by decide +kernel
theorem dX3_putBehind_2 : decode cX3_putBehind 2 = .ok (.iload_n 2, 1) := by decide +kernel
theorem dX3_putBehind_3 : decode cX3_putBehind 3 = .ok (.aload_n 1, 1) := by decide +kernel
theorem dX3_putBehind_4 : decode cX3_putBehind 4 = .ok (.getfield 15, 3) := by decide +kernel
theorem dX3_putBehind_7 : decode cX3_putBehind 7 = .ok (.if_icmp .ge 22, 3) := by decide +kernel
theorem dX3_putBehind_10 : decode cX3_putBehind 10 = .ok (.aload_n 0, 1) := by decide +kernel
theorem dX3_putBehind_11 : decode cX3_putBehind 11 = .ok (.aload_n 0, 1) := by decide +kernel
theorem dX3_putBehind_12 : decode cX3_putBehind 12 = .ok (.getfield 15, 3) := by decide +kernel
theorem dX3_putBehind_15 : decode cX3_putBehind 15 = .ok (.aload_n 1, 1) := by decide +kernel
theorem dX3_putBehind_16 : decode cX3_putBehind 16 = .ok (.iload_n 2, 1) := by decide +kernel
theorem dX3_putBehind_17 : decode cX3_putBehind 17 = .ok (.invokevirtual 23, 3) := by decide +kernel
theorem dX3_putBehind_20 : decode cX3_putBehind 20 = .ok (.invokevirtual 33, 3) := by decide +kernel
theorem dX3_putBehind_23 : decode cX3_putBehind 23 = .ok (.iinc 2 1, 3) := by decide +kernel
theorem dX3_putBehind_26 : decode cX3_putBehind 26 = .ok (.goto (-24), 3) := by decide +kernel
theorem dX3_putBehind_29 : decode cX3_putBehind 29 = .ok (.return_, 1) := by decide +kernel
set_option maxRecDepth 20000 in
theorem ggX4_init_X7_init : GoodIn wsX4_init wsX7_init := goodIn_r _ [5, 6, 7, 8] (by decide +kernel) (by decide +kernel)
set_option maxRecDepth 20000 in
theorem gX4_init_X7_init_n3 : GoodIn wsX4_init (wsX7_init) := ggX4_init_X7_init
theorem dX4_init_0 : decode cX4_init 0 = .ok (.aload_n 0, 1) := by decide +kernel
theorem dX4_init_1 : decode cX4_init 1 = .ok (.invokespecial 3, 3) := by decide +kernel
theorem dX4_init_4 : decode cX4_init 4 = .ok (.aload_n 0, 1) := by decide +kernel
theorem dX4_init_5 : decode cX4_init 5 = .ok (.sipush 301, 3) := by decide +kernel
theorem dX4_init_8 : decode cX4_init 8 = .ok (.newarray .int, 2) := by decide +kernel
theorem dX4_init_10 : decode cX4_init 10 = .ok (.putfield 9, 3) := by decide +kernel
theorem dX4_init_13 : decode cX4_init 13 = .ok (.return_, 1) := by decide +kernel
theorem dX4_begin_0 : decode cX4_begin 0 = .ok (.iconst 0, 1) := by decide +kernel
theorem dX4_begin_1 : decode cX4_begin 1 = .ok (.istore_n 1, 1) := by decide +kernel
theorem dX4_begin_2 : decode cX4_begin 2 = .ok (.iload_n 1, 1) := by decide +kernel
theorem dX4_begin_3 : decode cX4_begin 3 = .ok (.sipush 300, 3) := by decide +kernel
theorem dX4_begin_6 : decode cX4_begin 6 = .ok (.if_icmp .gt 24, 3) := by decide +kernel
theorem dX4_begin_9 : decode cX4_begin 9 = .ok (.aload_n 0, 1) := by decide +kernel
theorem dX4_begin_10 : decode cX4_begin 10 = .ok (.getfield 9, 3) := by decide +kernel
theorem dX4_begin_13 : decode cX4_begin 13 = .ok (.iload_n 1, 1) := by decide +kernel
theorem dX4_begin_14 : decode cX4_begin 14 = .ok (.iload_n 1, 1) := by decide +kernel
theorem dX4_begin_15 : decode cX4_begin 15 = .ok (.ifCond .ne 7, 3) := by decide +kernel
theorem dX4_begin_18 : decode cX4_begin 18 = .ok (.iconst 1, 1) := by decide +kernel
theorem dX4_begin_19 : decode cX4_begin 19 = .ok (.goto 4, 3) := by decide +kernel
theorem dX4_begin_22 : decode cX4_begin 22 = .ok (.iconst 0, 1) := by decide +kernel
theorem dX4_begin_23 : decode cX4_begin 23 = .ok (.iastore, 1) := by decide +kernel
theorem dX4_begin_24 : decode cX4_begin 24 = .ok (.iinc 1 1, 3) := by decide +kernel
theorem dX4_begin_27 : decode cX4_begin 27 = .ok (.goto (-25), 3) := by decide +kernel
theorem dX4_begin_30 : decode cX4_begin 30 = .ok (.return_, 1) := by decide +kernel
theorem dX4_carry_0 : decode cX4_carry 0 = .ok (.iload_n 1, 1) := by decide +kernel
theorem dX4_carry_1 : decode cX4_carry 1 = .ok (.invokestatic 15, 3) := by decide +kernel
theorem dX4_carry_4 : decode cX4_carry 4 = .ok (.ifCond .eq 27, 3) := by decide +kernel
theorem dX4_carry_7 : decode cX4_carry 7 = .ok (.iload_n 2, 1) := by decide +kernel
theorem dX4_carry_8 : decode cX4_carry 8 = .ok (.invokestatic 15, 3) := by decide +kernel
theorem dX4_carry_11 : decode cX4_carry 11 = .ok (.ifCond .eq 20, 3) := by decide +kernel
theorem dX4_carry_14 : decode cX4_carry 14 = .ok (.aload_n 0, 1) := by decide +kernel
theorem dX4_carry_15 : decode cX4_carry 15 = .ok (.getfield 9, 3) := by decide +kernel
theorem dX4_carry_18 : decode cX4_carry 18 = .ok (.iload_n 2, 1) := by decide +kernel
theorem dX4_carry_19 : decode cX4_carry 19 = .ok (.dup2, 1) := by decide +kernel
theorem dX4_carry_20 : decode cX4_carry 20 = .ok (.iaload, 1) := by decide +kernel
theorem dX4_carry_21 : decode cX4_carry 21 = .ok (.aload_n 0, 1) := by decide +kernel
theorem dX4_carry_22 : decode cX4_carry 22 = .ok (.getfield 9, 3) := by decide +kernel
theorem dX4_carry_25 : decode cX4_carry 25 = .ok (.iload_n 1, 1) := by decide +kernel
theorem dX4_carry_26 : decode cX4_carry 26 = .ok (.iaload, 1) := by decide +kernel
theorem dX4_carry_27 : decode cX4_carry 27 = .ok (.iconst 1, 1) := by decide +kernel
theorem dX4_carry_28 : decode cX4_carry 28 = .ok (.ishl, 1) := by decide +kernel
theorem dX4_carry_29 : decode cX4_carry 29 = .ok (.ior, 1) := by decide +kernel
theorem dX4_carry_30 : decode cX4_carry 30 = .ok (.iastore, 1) := by decide +kernel
theorem dX4_carry_31 : decode cX4_carry 31 = .ok (.return_, 1) := by decide +kernel
theorem dX4_isMadeWith_0 : decode cX4_isMadeWith 0 = .ok (.iload_n 2, 1) := by decide +kernel
theorem dX4_isMadeWith_1 : decode cX4_isMadeWith 1 = .ok (.invokestatic 15, 3) := by decide +kernel
theorem dX4_isMadeWith_4 : decode cX4_isMadeWith 4 = .ok (.ifCond .eq 20, 3) := by decide +kernel
theorem dX4_isMadeWith_7 : decode cX4_isMadeWith 7 = .ok (.aload_n 0, 1) := by decide +kernel
theorem dX4_isMadeWith_8 : decode cX4_isMadeWith 8 = .ok (.getfield 9, 3) := by decide +kernel
theorem dX4_isMadeWith_11 : decode cX4_isMadeWith 11 = .ok (.iload_n 2, 1) := by decide +kernel
theorem dX4_isMadeWith_12 : decode cX4_isMadeWith 12 = .ok (.iaload, 1) := by decide +kernel
theorem dX4_isMadeWith_13 : decode cX4_isMadeWith 13 = .ok (.iload_n 1, 1) := by decide +kernel
theorem dX4_isMadeWith_14 : decode cX4_isMadeWith 14 = .ok (.ishr, 1) := by decide +kernel
theorem dX4_isMadeWith_15 : decode cX4_isMadeWith 15 = .ok (.iconst 1, 1) := by decide +kernel
theorem dX4_isMadeWith_16 : decode cX4_isMadeWith 16 = .ok (.iand, 1) := by decide +kernel
theorem dX4_isMadeWith_17 : decode cX4_isMadeWith 17 = .ok (.ifCond .eq 7, 3) := by decide +kernel
theorem dX4_isMadeWith_20 : decode cX4_isMadeWith 20 = .ok (.iconst 1, 1) := by decide +kernel
theorem dX4_isMadeWith_21 : decode cX4_isMadeWith 21 = .ok (.goto 4, 3) := by decide +kernel
theorem dX4_isMadeWith_24 : decode cX4_isMadeWith 24 = .ok (.iconst 0, 1) := by decide +kernel
theorem dX4_isMadeWith_25 : decode cX4_isMadeWith 25 = .ok (.ireturn, 1) := by decide +kernel
set_option maxRecDepth 20000 in
theorem ggX5_init_X7_init : GoodIn wsX5_init wsX7_init := goodIn_r _ [5, 6, 7, 8] (by decide +kernel) (by decide +kernel)
set_option maxRecDepth 20000 in
theorem gX5_init_X7_init_n3 : GoodIn wsX5_init (wsX7_init) := ggX5_init_X7_init
theorem dX5_init_0 : decode cX5_init 0 = .ok (.aload_n 0, 1) := by decide +kernel
theorem dX5_init_1 : decode cX5_init 1 = .ok (.invokespecial 3, 3) := by decide +kernel
theorem dX5_init_4 : decode cX5_init 4 = .ok (.aload_n 0, 1) := by decide +kernel
theorem dX5_init_5 : decode cX5_init 5 = .ok (.sipush 301, 3) := by decide +kernel
theorem dX5_init_8 : decode cX5_init 8 = .ok (.newarray .boolean, 2) := by decide +kernel
theorem dX5_init_10 : decode cX5_init 10 = .ok (.putfield 9, 3) := by decide +kernel
theorem dX5_init_13 : decode cX5_init 13 = .ok (.return_, 1) := by decide +kernel
theorem dX5_begin_0 : decode cX5_begin 0 = .ok (.iconst 0, 1) := by decide +kernel
theorem dX5_begin_1 : decode cX5_begin 1 = .ok (.istore_n 1, 1) := by decide +kernel
theorem dX5_begin_2 : decode cX5_begin 2 = .ok (.iload_n 1, 1) := by decide +kernel
theorem dX5_begin_3 : decode cX5_begin 3 = .ok (.sipush 300, 3) := by decide +kernel
theorem dX5_begin_6 : decode cX5_begin 6 = .ok (.if_icmp .gt 24, 3) := by decide +kernel
theorem dX5_begin_9 : decode cX5_begin 9 = .ok (.aload_n 0, 1) := by decide +kernel
theorem dX5_begin_10 : decode cX5_begin 10 = .ok (.getfield 9, 3) := by decide +kernel
theorem dX5_begin_13 : decode cX5_begin 13 = .ok (.iload_n 1, 1) := by decide +kernel
theorem dX5_begin_14 : decode cX5_begin 14 = .ok (.iload_n 1, 1) := by decide +kernel
theorem dX5_begin_15 : decode cX5_begin 15 = .ok (.ifCond .ne 7, 3) := by decide +kernel
theorem dX5_begin_18 : decode cX5_begin 18 = .ok (.iconst 1, 1) := by decide +kernel
theorem dX5_begin_19 : decode cX5_begin 19 = .ok (.goto 4, 3) := by decide +kernel
theorem dX5_begin_22 : decode cX5_begin 22 = .ok (.iconst 0, 1) := by decide +kernel
theorem dX5_begin_23 : decode cX5_begin 23 = .ok (.bastore, 1) := by decide +kernel
theorem dX5_begin_24 : decode cX5_begin 24 = .ok (.iinc 1 1, 3) := by decide +kernel
theorem dX5_begin_27 : decode cX5_begin 27 = .ok (.goto (-25), 3) := by decide +kernel
theorem dX5_begin_30 : decode cX5_begin 30 = .ok (.return_, 1) := by decide +kernel
theorem dX5_carry_0 : decode cX5_carry 0 = .ok (.iload_n 1, 1) := by decide +kernel
theorem dX5_carry_1 : decode cX5_carry 1 = .ok (.invokestatic 15, 3) := by decide +kernel
theorem dX5_carry_4 : decode cX5_carry 4 = .ok (.ifCond .eq 25, 3) := by decide +kernel
theorem dX5_carry_7 : decode cX5_carry 7 = .ok (.iload_n 2, 1) := by decide +kernel
theorem dX5_carry_8 : decode cX5_carry 8 = .ok (.invokestatic 15, 3) := by decide +kernel
theorem dX5_carry_11 : decode cX5_carry 11 = .ok (.ifCond .eq 18, 3) := by decide +kernel
theorem dX5_carry_14 : decode cX5_carry 14 = .ok (.aload_n 0, 1) := by decide +kernel
theorem dX5_carry_15 : decode cX5_carry 15 = .ok (.getfield 9, 3) := by decide +kernel
theorem dX5_carry_18 : decode cX5_carry 18 = .ok (.iload_n 2, 1) := by decide +kernel
theorem dX5_carry_19 : decode cX5_carry 19 = .ok (.dup2, 1) := by decide +kernel
theorem dX5_carry_20 : decode cX5_carry 20 = .ok (.baload, 1) := by decide +kernel
theorem dX5_carry_21 : decode cX5_carry 21 = .ok (.aload_n 0, 1) := by decide +kernel
theorem dX5_carry_22 : decode cX5_carry 22 = .ok (.getfield 9, 3) := by decide +kernel
theorem dX5_carry_25 : decode cX5_carry 25 = .ok (.iload_n 1, 1) := by decide +kernel
theorem dX5_carry_26 : decode cX5_carry 26 = .ok (.baload, 1) := by decide +kernel
theorem dX5_carry_27 : decode cX5_carry 27 = .ok (.ior, 1) := by decide +kernel
theorem dX5_carry_28 : decode cX5_carry 28 = .ok (.bastore, 1) := by decide +kernel
theorem dX5_carry_29 : decode cX5_carry 29 = .ok (.return_, 1) := by decide +kernel
theorem dX5_isSet_0 : decode cX5_isSet 0 = .ok (.iload_n 1, 1) := by decide +kernel
theorem dX5_isSet_1 : decode cX5_isSet 1 = .ok (.invokestatic 15, 3) := by decide +kernel
theorem dX5_isSet_4 : decode cX5_isSet 4 = .ok (.ifCond .eq 16, 3) := by decide +kernel
theorem dX5_isSet_7 : decode cX5_isSet 7 = .ok (.aload_n 0, 1) := by decide +kernel
theorem dX5_isSet_8 : decode cX5_isSet 8 = .ok (.getfield 9, 3) := by decide +kernel
theorem dX5_isSet_11 : decode cX5_isSet 11 = .ok (.iload_n 1, 1) := by decide +kernel
theorem dX5_isSet_12 : decode cX5_isSet 12 = .ok (.baload, 1) := by decide +kernel
theorem dX5_isSet_13 : decode cX5_isSet 13 = .ok (.ifCond .eq 7, 3) := by decide +kernel
theorem dX5_isSet_16 : decode cX5_isSet 16 = .ok (.iconst 1, 1) := by decide +kernel
theorem dX5_isSet_17 : decode cX5_isSet 17 = .ok (.goto 4, 3) := by decide +kernel
theorem dX5_isSet_20 : decode cX5_isSet 20 = .ok (.iconst 0, 1) := by decide +kernel
theorem dX5_isSet_21 : decode cX5_isSet 21 = .ok (.ireturn, 1) := by decide +kernel
theorem dX5_countSet_0 : decode cX5_countSet 0 = .ok (.iconst 0, 1) := by decide +kernel
theorem dX5_countSet_1 : decode cX5_countSet 1 = .ok (.istore_n 1, 1) := by decide +kernel
theorem dX5_countSet_2 : decode cX5_countSet 2 = .ok (.iconst 0, 1) := by decide +kernel
theorem dX5_countSet_3 : decode cX5_countSet 3 = .ok (.istore_n 2, 1) := by decide +kernel
theorem dX5_countSet_4 : decode cX5_countSet 4 = .ok (.iload_n 2, 1) := by decide +kernel
theorem dX5_countSet_5 : decode cX5_countSet 5 = .ok (.sipush 300, 3) := by decide +kernel
theorem dX5_countSet_8 : decode cX5_countSet 8 = .ok (.if_icmp .gt 21, 3) := by decide +kernel
theorem dX5_countSet_11 : decode cX5_countSet 11 = .ok (.aload_n 0, 1) := by decide +kernel
theorem dX5_countSet_12 : decode cX5_countSet 12 = .ok (.getfield 9, 3) := by decide +kernel
theorem dX5_countSet_15 : decode cX5_countSet 15 = .ok (.iload_n 2, 1) := by decide +kernel
theorem dX5_countSet_16 : decode cX5_countSet 16 = .ok (.baload, 1) := by decide +kernel
theorem dX5_countSet_17 : decode cX5_countSet 17 = .ok (.ifCond .eq 6, 3) := by decide +kernel
theorem dX5_countSet_20 : decode cX5_countSet 20 = .ok (.iinc 1 1, 3) := by decide +kernel
theorem dX5_countSet_23 : decode cX5_countSet 23 = .ok (.iinc 2 1, 3) := by decide +kernel
theorem dX5_countSet_26 : decode cX5_countSet 26 = .ok (.goto (-22), 3) := by decide +kernel
theorem dX5_countSet_29 : decode cX5_countSet 29 = .ok (.iload_n 1, 1) := by decide +kernel
theorem dX5_countSet_30 : decode cX5_countSet 30 = .ok (.ireturn, 1) := by decide +kernel
set_option maxRecDepth 20000 in
theorem ggX5_endOfSet_X5_isSet : GoodIn wsX5_endOfSet wsX5_isSet := goodIn_r _ [5, 6, 7] (by decide +kernel) (by decide +kernel)
set_option maxRecDepth 20000 in
theorem gX5_endOfSet_X5_isSet : GoodIn wsX5_endOfSet (wsV RX5 19 RX5 yX5_isSet wsX5_isSet) := goodIn_app (goodIn_of _ (by decide +kernel)) ggX5_endOfSet_X5_isSet
theorem dX5_endOfSet_0 : decode cX5_endOfSet 0 = .ok (.sipush 301, 3) := by decide +kernel
theorem dX5_endOfSet_3 : decode cX5_endOfSet 3 = .ok (.istore_n 1, 1) := by decide +kernel
theorem dX5_endOfSet_4 : decode cX5_endOfSet 4 = .ok (.iload_n 1, 1) := by decide +kernel
theorem dX5_endOfSet_5 : decode cX5_endOfSet 5 = .ok (.ifCond .le 19, 3) := by decide +kernel
theorem dX5_endOfSet_8 : decode cX5_endOfSet 8 = .ok (.aload_n 0, 1) := by decide +kernel
theorem dX5_endOfSet_9 : decode cX5_endOfSet 9 = .ok (.iload_n 1, 1) := by decide +kernel
theorem dX5_endOfSet_10 : decode cX5_endOfSet 10 = .ok (.iconst 1, 1) := by decide +kernel
theorem dX5_endOfSet_11 : decode cX5_endOfSet 11 = .ok (.isub, 1) := by decide +kernel
theorem dX5_endOfSet_12 : decode cX5_endOfSet 12 = .ok (.invokevirtual 19, 3) := by decide +kernel
theorem dX5_endOfSet_15 : decode cX5_endOfSet 15 = .ok (.ifCond .ne 9, 3) := by decide +kernel
theorem dX5_endOfSet_18 : decode cX5_endOfSet 18 = .ok (.iinc 1 (-1), 3) := by decide +kernel
theorem dX5_endOfSet_21 : decode cX5_endOfSet 21 = .ok (.goto (-17), 3) := by decide +kernel
theorem dX5_endOfSet_24 : decode cX5_endOfSet 24 = .ok (.iload_n 1, 1) := by decide +kernel
theorem dX5_endOfSet_25 : decode cX5_endOfSet 25 = .ok (.ireturn, 1) := by decide +kernel
set_option maxRecDepth 20000 in
theorem ggX6_init_X0_init : GoodIn wsX6_init wsX0_init := goodIn_r _ [11, 12, 2, 3, 13, 14, 15, 21, 22] (by decide +kernel) (by decide +kernel)
set_option maxRecDepth 20000 in
theorem gX6_init_X0_init : GoodIn wsX6_init (wsX0_init) := ggX6_init_X0_init
set_option maxRecDepth 20000 in
theorem ggX6_init_X0_setBelow : GoodIn wsX6_init wsX0_setBelow := goodIn_r _ [19, 14, 20, 21, 22] (by decide +kernel) (by decide +kernel)
set_option maxRecDepth 20000 in
theorem gX6_init_X0_setBelow : GoodIn wsX6_init (wsV RX6 23 RX0 yX0_setBelow wsX0_setBelow) := goodIn_app (goodIn_of _ (by decide +kernel)) ggX6_init_X0_setBelow
theorem dX6_init_0 : decode cX6_init 0 = .ok (.aload_n 0, 1) := by decide +kernel
theorem dX6_init_1 : decode cX6_init 1 = .ok (.invokespecial 3, 3) := by decide +kernel
theorem dX6_init_4 : decode cX6_init 4 = .ok (.aload_n 0, 1) := by decide +kernel
theorem dX6_init_5 : decode cX6_init 5 = .ok (.new 9, 3) := by decide +kernel
theorem dX6_init_8 : decode cX6_init 8 = .ok (.dup, 1) := by decide +kernel
theorem dX6_init_9 : decode cX6_init 9 = .ok (.iconst 5, 1) := by decide +kernel
theorem dX6_init_10 : decode cX6_init 10 = .ok (.invokespecial 11, 3) := by decide +kernel
theorem dX6_init_13 : decode cX6_init 13 = .ok (.putfield 14, 3) := by decide +kernel
theorem dX6_init_16 : decode cX6_init 16 = .ok (.aload_n 0, 1) := by decide +kernel
theorem dX6_init_17 : decode cX6_init 17 = .ok (.new 9, 3) := by decide +kernel
theorem dX6_init_20 : decode cX6_init 20 = .ok (.dup, 1) := by decide +kernel
theorem dX6_init_21 : decode cX6_init 21 = .ok (.iconst 5, 1) := by decide +kernel
theorem dX6_init_22 : decode cX6_init 22 = .ok (.invokespecial 11, 3) := by decide +kernel
theorem dX6_init_25 : decode cX6_init 25 = .ok (.putfield 20, 3) := by decide +kernel
theorem dX6_init_28 : decode cX6_init 28 = .ok (.aload_n 0, 1) := by decide +kernel
theorem dX6_init_29 : decode cX6_init 29 = .ok (.getfield 20, 3) := by decide +kernel
theorem dX6_init_32 : decode cX6_init 32 = .ok (.sipush 301, 3) := by decide +kernel
theorem dX6_init_35 : decode cX6_init 35 = .ok (.invokevirtual 23, 3) := by decide +kernel
theorem dX6_init_38 : decode cX6_init 38 = .ok (.return_, 1) := by decide +kernel
set_option maxRecDepth 20000 in
theorem ggX6_fillOnce_X0_become : GoodIn wsX6_fillOnce wsX0_become := goodIn_r _ [6, 7, 36, 37] (by decide +kernel) (by decide +kernel)
set_option maxRecDepth 20000 in
theorem gX6_fillOnce_X0_become : GoodIn wsX6_fillOnce (wsV RX6 26 RX0 yX0_become wsX0_become) := goodIn_app (goodIn_of _ (by decide +kernel)) ggX6_fillOnce_X0_become
set_option maxRecDepth 20000 in
theorem ggX6_fillOnce_X3_numberAt : GoodIn wsX6_fillOnce wsX3_numberAt := goodIn_r _ [12, 13, 14, 15, 16, 11, 17, 18, 34, 35] (by decide +kernel) (by decide +kernel)
set_option maxRecDepth 20000 in
theorem gX6_fillOnce_X3_numberAt : GoodIn wsX6_fillOnce (wsV RX6 35 RX3 yX3_numberAt wsX3_numberAt) := goodIn_app (goodIn_of _ (by decide +kernel)) ggX6_fillOnce_X3_numberAt
set_option maxRecDepth 20000 in
theorem ggX6_fillOnce_X0_or : GoodIn wsX6_fillOnce wsX0_or := goodIn_r _ [22, 7, 23, 24, 25, 26, 5, 27, 28, 29, 30, 31, 36, 37] (by decide +kernel) (by decide +kernel)
set_option maxRecDepth 20000 in
theorem gX6_fillOnce_X0_or : GoodIn wsX6_fillOnce (wsV RX6 39 RX0 yX0_or wsX0_or) := goodIn_app (goodIn_of _ (by decide +kernel)) ggX6_fillOnce_X0_or
theorem dX6_fillOnce_0 : decode cX6_fillOnce 0 = .ok (.aload_n 0, 1) := by decide +kernel
theorem dX6_fillOnce_1 : decode cX6_fillOnce 1 = .ok (.getfield 14, 3) := by decide +kernel
theorem dX6_fillOnce_4 : decode cX6_fillOnce 4 = .ok (.iconst 1, 1) := by decide +kernel
theorem dX6_fillOnce_5 : decode cX6_fillOnce 5 = .ok (.invokevirtual 26, 3) := by decide +kernel
theorem dX6_fillOnce_8 : decode cX6_fillOnce 8 = .ok (.iconst 0, 1) := by decide +kernel
theorem dX6_fillOnce_9 : decode cX6_fillOnce 9 = .ok (.istore_n 2, 1) := by decide +kernel
theorem dX6_fillOnce_10 : decode cX6_fillOnce 10 = .ok (.iload_n 2, 1) := by decide +kernel
theorem dX6_fillOnce_11 : decode cX6_fillOnce 11 = .ok (.aload_n 1, 1) := by decide +kernel
theorem dX6_fillOnce_12 : decode cX6_fillOnce 12 = .ok (.getfield 29, 3) := by decide +kernel
theorem dX6_fillOnce_15 : decode cX6_fillOnce 15 = .ok (.if_icmp .ge 25, 3) := by decide +kernel
theorem dX6_fillOnce_18 : decode cX6_fillOnce 18 = .ok (.aload_n 0, 1) := by decide +kernel
theorem dX6_fillOnce_19 : decode cX6_fillOnce 19 = .ok (.getfield 14, 3) := by decide +kernel
theorem dX6_fillOnce_22 : decode cX6_fillOnce 22 = .ok (.aload_n 0, 1) := by decide +kernel
theorem dX6_fillOnce_23 : decode cX6_fillOnce 23 = .ok (.getfield 14, 3) := by decide +kernel
theorem dX6_fillOnce_26 : decode cX6_fillOnce 26 = .ok (.aload_n 1, 1) := by decide +kernel
theorem dX6_fillOnce_27 : decode cX6_fillOnce 27 = .ok (.iload_n 2, 1) := by decide +kernel
theorem dX6_fillOnce_28 : decode cX6_fillOnce 28 = .ok (.invokevirtual 35, 3) := by decide +kernel
theorem dX6_fillOnce_31 : decode cX6_fillOnce 31 = .ok (.invokevirtual 39, 3) := by decide +kernel
theorem dX6_fillOnce_34 : decode cX6_fillOnce 34 = .ok (.iinc 2 1, 3) := by decide +kernel
theorem dX6_fillOnce_37 : decode cX6_fillOnce 37 = .ok (.goto (-27), 3) := by decide +kernel
theorem dX6_fillOnce_40 : decode cX6_fillOnce 40 = .ok (.return_, 1) := by decide +kernel
set_option maxRecDepth 20000 in
theorem ggX6_fillOften_X0_become : GoodIn wsX6_fillOften wsX0_become := goodIn_r _ [7, 8, 41, 42] (by decide +kernel) (by decide +kernel)
set_option maxRecDepth 20000 in
theorem gX6_fillOften_X0_become : GoodIn wsX6_fillOften (wsV RX6 26 RX0 yX0_become wsX0_become) := goodIn_app (goodIn_of _ (by decide +kernel)) ggX6_fillOften_X0_become
set_option maxRecDepth 20000 in
theorem ggX6_fillOften_X3_numberAt : GoodIn wsX6_fillOften wsX3_numberAt := goodIn_r _ [13, 14, 15, 16, 17, 12, 18, 19, 39, 40] (by decide +kernel) (by decide +kernel)
set_option maxRecDepth 20000 in
theorem gX6_fillOften_X3_numberAt : GoodIn wsX6_fillOften (wsV RX6 35 RX3 yX3_numberAt wsX3_numberAt) := goodIn_app (goodIn_of _ (by decide +kernel)) ggX6_fillOften_X3_numberAt
set_option maxRecDepth 20000 in
theorem ggX6_fillOften_X0_or : GoodIn wsX6_fillOften wsX0_or := goodIn_r _ [23, 8, 24, 25, 26, 27, 6, 28, 29, 30, 31, 32, 41, 42] (by decide +kernel) (by decide +kernel)
set_option maxRecDepth 20000 in
theorem gX6_fillOften_X0_or : GoodIn wsX6_fillOften (wsV RX6 39 RX0 yX0_or wsX0_or) := goodIn_app (goodIn_of _ (by decide +kernel)) ggX6_fillOften_X0_or
set_option maxRecDepth 20000 in
theorem ggX6_fillOften_X0_and : GoodIn wsX6_fillOften wsX0_and := goodIn_r _ [36, 8, 24, 25, 26, 27, 6, 28, 29, 30, 31, 32, 41, 42] (by decide +kernel) (by decide +kernel)
set_option maxRecDepth 20000 in
theorem gX6_fillOften_X0_and : GoodIn wsX6_fillOften (wsV RX6 43 RX0 yX0_and wsX0_and) := goodIn_app (goodIn_of _ (by decide +kernel)) ggX6_fillOften_X0_and
theorem dX6_fillOften_0 : decode cX6_fillOften 0 = .ok (.aload_n 0, 1) := by decide +kernel
theorem dX6_fillOften_1 : decode cX6_fillOften 1 = .ok (.getfield 14, 3) := by decide +kernel
theorem dX6_fillOften_4 : decode cX6_fillOften 4 = .ok (.iconst 1, 1) := by decide +kernel
theorem dX6_fillOften_5 : decode cX6_fillOften 5 = .ok (.invokevirtual 26, 3) := by decide +kernel
theorem dX6_fillOften_8 : decode cX6_fillOften 8 = .ok (.iconst 0, 1) := by decide +kernel
theorem dX6_fillOften_9 : decode cX6_fillOften 9 = .ok (.istore_n 2, 1) := by decide +kernel
theorem dX6_fillOften_10 : decode cX6_fillOften 10 = .ok (.iload_n 2, 1) := by decide +kernel
theorem dX6_fillOften_11 : decode cX6_fillOften 11 = .ok (.aload_n 1, 1) := by decide +kernel
theorem dX6_fillOften_12 : decode cX6_fillOften 12 = .ok (.getfield 29, 3) := by decide +kernel
theorem dX6_fillOften_15 : decode cX6_fillOften 15 = .ok (.if_icmp .ge 57, 3) := by decide +kernel
theorem dX6_fillOften_18 : decode cX6_fillOften 18 = .ok (.aload_n 1, 1) := by decide +kernel
theorem dX6_fillOften_19 : decode cX6_fillOften 19 = .ok (.iload_n 2, 1) := by decide +kernel
theorem dX6_fillOften_20 : decode cX6_fillOften 20 = .ok (.invokevirtual 35, 3) := by decide +kernel
theorem dX6_fillOften_23 : decode cX6_fillOften 23 = .ok (.istore_n 3, 1) := by decide +kernel
theorem dX6_fillOften_24 : decode cX6_fillOften 24 = .ok (.iload_n 3, 1) := by decide +kernel
theorem dX6_fillOften_25 : decode cX6_fillOften 25 = .ok (.ifCond .le 41, 3) := by decide +kernel
theorem dX6_fillOften_28 : decode cX6_fillOften 28 = .ok (.iload_n 3, 1) := by decide +kernel
theorem dX6_fillOften_29 : decode cX6_fillOften 29 = .ok (.sipush 300, 3) := by decide +kernel
theorem dX6_fillOften_32 : decode cX6_fillOften 32 = .ok (.if_icmp .gt 34, 3) := by decide +kernel
theorem dX6_fillOften_35 : decode cX6_fillOften 35 = .ok (.aload_n 0, 1) := by decide +kernel
theorem dX6_fillOften_36 : decode cX6_fillOften 36 = .ok (.getfield 14, 3) := by decide +kernel
theorem dX6_fillOften_39 : decode cX6_fillOften 39 = .ok (.aload_n 0, 1) := by decide +kernel
theorem dX6_fillOften_40 : decode cX6_fillOften 40 = .ok (.getfield 14, 3) := by decide +kernel
theorem dX6_fillOften_43 : decode cX6_fillOften 43 = .ok (.iload_n 3, 1) := by decide +kernel
theorem dX6_fillOften_44 : decode cX6_fillOften 44 = .ok (.invokevirtual 39, 3) := by decide +kernel
theorem dX6_fillOften_47 : decode cX6_fillOften 47 = .ok (.aload_n 0, 1) := by decide +kernel
theorem dX6_fillOften_48 : decode cX6_fillOften 48 = .ok (.getfield 14, 3) := by decide +kernel
theorem dX6_fillOften_51 : decode cX6_fillOften 51 = .ok (.aload_n 0, 1) := by decide +kernel
theorem dX6_fillOften_52 : decode cX6_fillOften 52 = .ok (.getfield 20, 3) := by decide +kernel
theorem dX6_fillOften_55 : decode cX6_fillOften 55 = .ok (.iconst 0, 1) := by decide +kernel
theorem dX6_fillOften_56 : decode cX6_fillOften 56 = .ok (.invokevirtual 43, 3) := by decide +kernel
theorem dX6_fillOften_59 : decode cX6_fillOften 59 = .ok (.iload_n 3, 1) := by decide +kernel
theorem dX6_fillOften_60 : decode cX6_fillOften 60 = .ok (.iload_n 3, 1) := by decide +kernel
theorem dX6_fillOften_61 : decode cX6_fillOften 61 = .ok (.iadd, 1) := by decide +kernel
theorem dX6_fillOften_62 : decode cX6_fillOften 62 = .ok (.istore_n 3, 1) := by decide +kernel
theorem dX6_fillOften_63 : decode cX6_fillOften 63 = .ok (.goto (-39), 3) := by decide +kernel
theorem dX6_fillOften_66 : decode cX6_fillOften 66 = .ok (.iinc 2 1, 3) := by decide +kernel
theorem dX6_fillOften_69 : decode cX6_fillOften 69 = .ok (.goto (-59), 3) := by decide +kernel
theorem dX6_fillOften_72 : decode cX6_fillOften 72 = .ok (.return_, 1) := by decide +kernel
theorem dX7_init_0 : decode cX7_init 0 = .ok (.aload_n 0, 1) := by decide +kernel
theorem dX7_init_1 : decode cX7_init 1 = .ok (.invokespecial 3, 3) := by decide +kernel
theorem dX7_init_4 : decode cX7_init 4 = .ok (.return_, 1) := by decide +kernel
set_option maxRecDepth 20000 in
theorem ggX7_fill_X2_begin : GoodIn wsX7_fill wsX2_begin := goodIn_r _ [6, 7, 63] (by decide +kernel) (by decide +kernel)
set_option maxRecDepth 20000 in
theorem gX7_fill_X2_begin_u9X2 : GoodIn wsX7_fill (va_wsU RX7 9 RX2 "Sumhoard$SumRow" ⟨"Sumhoard$SumRow", "begin", "()V"⟩ yX2_begin wsX2_begin) := goodIn_app (goodIn_of _ (by decide +kernel)) ggX7_fill_X2_begin
set_option maxRecDepth 20000 in
theorem ggX7_fill_X4_begin : GoodIn wsX7_fill wsX4_begin := goodIn_r _ [11, 12, 64] (by decide +kernel) (by decide +kernel)
set_option maxRecDepth 20000 in
theorem gX7_fill_X4_begin_u9X4 : GoodIn wsX7_fill (va_wsU RX7 9 RX4 "Sumhoard$SumRow" ⟨"Sumhoard$SumRow", "begin", "()V"⟩ yX4_begin wsX4_begin) := goodIn_app (goodIn_of _ (by decide +kernel)) ggX7_fill_X4_begin
set_option maxRecDepth 20000 in
theorem ggX7_fill_X5_begin : GoodIn wsX7_fill wsX5_begin := goodIn_r _ [16, 17, 65] (by decide +kernel) (by decide +kernel)
set_option maxRecDepth 20000 in
theorem gX7_fill_X5_begin_u9X5 : GoodIn wsX7_fill (va_wsU RX7 9 RX5 "Sumhoard$SumRow" ⟨"Sumhoard$SumRow", "begin", "()V"⟩ yX5_begin wsX5_begin) := goodIn_app (goodIn_of _ (by decide +kernel)) ggX7_fill_X5_begin
set_option maxRecDepth 20000 in
theorem ggX7_fill_X9_begin : GoodIn wsX7_fill wsX9_begin := goodIn_r _ [21, 22, 66] (by decide +kernel) (by decide +kernel)
set_option maxRecDepth 20000 in
theorem gX7_fill_X9_begin_u9X9 : GoodIn wsX7_fill (va_wsU RX7 9 RX9 "Sumhoard$SumRow" ⟨"Sumhoard$SumRow", "begin", "()V"⟩ yX9_begin wsX9_begin) := goodIn_app (goodIn_of _ (by decide +kernel)) ggX7_fill_X9_begin
set_option maxRecDepth 20000 in
theorem ggX7_fill_X3_numberAt : GoodIn wsX7_fill wsX3_numberAt := goodIn_r _ [27, 28, 29, 30, 31, 26, 32, 33, 61, 62] (by decide +kernel) (by decide +kernel)
set_option maxRecDepth 20000 in
theorem gX7_fill_X3_numberAt : GoodIn wsX7_fill (wsV RX7 20 RX3 yX3_numberAt wsX3_numberAt) := goodIn_app (goodIn_of _ (by decide +kernel)) ggX7_fill_X3_numberAt
set_option maxRecDepth 20000 in
theorem ggX7_fill_X7_take : GoodIn wsX7_fill wsX7_take := goodIn_r _ [39, 40, 41, 42, 43, 5, 44, 7, 45, 46, 47, 48, 49, 50, 10, 51, 12, 52, 53, 15, 54, 17, 55, 56, 20, 57, 22, 63, 64, 65, 66] (by decide +kernel) (by decide +kernel)
set_option maxRecDepth 20000 in
theorem gX7_fill_X7_take_u24X2 : GoodIn wsX7_fill (va_wsU RX7 24 RX2 "Sumhoard$SumRow" ⟨"Sumhoard$SumRow", "take", "(IZ)V"⟩ yX7_take wsX7_take) := goodIn_app (goodIn_of _ (by decide +kernel)) ggX7_fill_X7_take
set_option maxRecDepth 20000 in
theorem gX7_fill_X7_take_u24X4 : GoodIn wsX7_fill (va_wsU RX7 24 RX4 "Sumhoard$SumRow" ⟨"Sumhoard$SumRow", "take", "(IZ)V"⟩ yX7_take wsX7_take) := goodIn_app (goodIn_of _ (by decide +kernel)) ggX7_fill_X7_take
set_option maxRecDepth 20000 in
theorem gX7_fill_X7_take_u24X5 : GoodIn wsX7_fill (va_wsU RX7 24 RX5 "Sumhoard$SumRow" ⟨"Sumhoard$SumRow", "take", "(IZ)V"⟩ yX7_take wsX7_take) := goodIn_app (goodIn_of _ (by decide +kernel)) ggX7_fill_X7_take
set_option maxRecDepth 20000 in
theorem gX7_fill_X7_take_u24X9 : GoodIn wsX7_fill (va_wsU RX7 24 RX9 "Sumhoard$SumRow" ⟨"Sumhoard$SumRow", "take", "(IZ)V"⟩ yX7_take wsX7_take) := goodIn_app (goodIn_of _ (by decide +kernel)) ggX7_fill_X7_take
theorem dX7_fill_0 : decode cX7_fill 0 = .ok (.aload_n 0, 1) := by decide +kernel
theorem dX7_fill_1 : decode cX7_fill 1 = .ok (.invokevirtual 9, 3) := by decide +kernel
theorem dX7_fill_4 : decode cX7_fill 4 = .ok (.iconst 0, 1) := by decide +kernel
theorem dX7_fill_5 : decode cX7_fill 5 = .ok (.istore_n 3, 1) := by decide +kernel
theorem dX7_fill_6 : decode cX7_fill 6 = .ok (.iload_n 3, 1) := by decide +kernel
theorem dX7_fill_7 : decode cX7_fill 7 = .ok (.aload_n 1, 1) := by decide +kernel
theorem dX7_fill_8 : decode cX7_fill 8 = .ok (.getfield 14, 3) := by decide +kernel
theorem dX7_fill_11 : decode cX7_fill 11 = .ok (.if_icmp .ge 19, 3) := by decide +kernel
theorem dX7_fill_14 : decode cX7_fill 14 = .ok (.aload_n 0, 1) := by decide +kernel
theorem dX7_fill_15 : decode cX7_fill 15 = .ok (.aload_n 1, 1) := by decide +kernel
theorem dX7_fill_16 : decode cX7_fill 16 = .ok (.iload_n 3, 1) := by decide +kernel
theorem dX7_fill_17 : decode cX7_fill 17 = .ok (.invokevirtual 20, 3) := by decide +kernel
theorem dX7_fill_20 : decode cX7_fill 20 = .ok (.iload_n 2, 1) := by decide +kernel
theorem dX7_fill_21 : decode cX7_fill 21 = .ok (.invokevirtual 24, 3) := by decide +kernel
theorem dX7_fill_24 : decode cX7_fill 24 = .ok (.iinc 3 1, 3) := by decide +kernel
theorem dX7_fill_27 : decode cX7_fill 27 = .ok (.goto (-21), 3) := by decide +kernel
theorem dX7_fill_30 : decode cX7_fill 30 = .ok (.return_, 1) := by decide +kernel
set_option maxRecDepth 20000 in
theorem ggX7_take_X2_carry : GoodIn wsX7_take wsX2_carry := goodIn_r _ [6, 7, 8, 9, 10, 11, 27] (by decide +kernel) (by decide +kernel)
set_option maxRecDepth 20000 in
theorem gX7_take_X2_carry_u28X2 : GoodIn wsX7_take (va_wsU RX7 28 RX2 "Sumhoard$SumRow" ⟨"Sumhoard$SumRow", "carry", "(II)V"⟩ yX2_carry wsX2_carry) := goodIn_app (goodIn_of _ (by decide +kernel)) ggX7_take_X2_carry
set_option maxRecDepth 20000 in
theorem ggX7_take_X4_carry : GoodIn wsX7_take wsX4_carry := goodIn_r _ [15, 16, 28] (by decide +kernel) (by decide +kernel)
set_option maxRecDepth 20000 in
theorem gX7_take_X4_carry_u28X4 : GoodIn wsX7_take (va_wsU RX7 28 RX4 "Sumhoard$SumRow" ⟨"Sumhoard$SumRow", "carry", "(II)V"⟩ yX4_carry wsX4_carry) := goodIn_app (goodIn_of _ (by decide +kernel)) ggX7_take_X4_carry
set_option maxRecDepth 20000 in
theorem ggX7_take_X5_carry : GoodIn wsX7_take wsX5_carry := goodIn_r _ [20, 21, 29] (by decide +kernel) (by decide +kernel)
set_option maxRecDepth 20000 in
theorem gX7_take_X5_carry_u28X5 : GoodIn wsX7_take (va_wsU RX7 28 RX5 "Sumhoard$SumRow" ⟨"Sumhoard$SumRow", "carry", "(II)V"⟩ yX5_carry wsX5_carry) := goodIn_app (goodIn_of _ (by decide +kernel)) ggX7_take_X5_carry
set_option maxRecDepth 20000 in
theorem ggX7_take_X9_carry : GoodIn wsX7_take wsX9_carry := goodIn_r _ [25, 26, 30] (by decide +kernel) (by decide +kernel)
set_option maxRecDepth 20000 in
theorem gX7_take_X9_carry_u28X9 : GoodIn wsX7_take (va_wsU RX7 28 RX9 "Sumhoard$SumRow" ⟨"Sumhoard$SumRow", "carry", "(II)V"⟩ yX9_carry wsX9_carry) := goodIn_app (goodIn_of _ (by decide +kernel)) ggX7_take_X9_carry
theorem dX7_take_0 : decode cX7_take 0 = .ok (.iload_n 1, 1) := by decide +kernel
theorem dX7_take_1 : decode cX7_take 1 = .ok (.iconst 1, 1) := by decide +kernel
theorem dX7_take_2 : decode cX7_take 2 = .ok (.if_icmp .lt 10, 3) := by decide +kernel
theorem dX7_take_5 : decode cX7_take 5 = .ok (.iload_n 1, 1) := by decide +kernel
theorem dX7_take_6 : decode cX7_take 6 = .ok (.sipush 300, 3) := by decide +kernel
theorem dX7_take_9 : decode cX7_take 9 = .ok (.if_icmp .le 4, 3) := by decide +kernel
theorem dX7_take_12 : decode cX7_take 12 = .ok (.return_, 1) := by decide +kernel
theorem dX7_take_13 : decode cX7_take 13 = .ok (.iload_n 2, 1) := by decide +kernel
theorem dX7_take_14 : decode cX7_take 14 = .ok (.ifCond .eq 29, 3) := by decide +kernel
theorem dX7_take_17 : decode cX7_take 17 = .ok (.iload_n 1, 1) := by decide +kernel
theorem dX7_take_18 : decode cX7_take 18 = .ok (.istore_n 3, 1) := by decide +kernel
theorem dX7_take_19 : decode cX7_take 19 = .ok (.iload_n 3, 1) := by decide +kernel
theorem dX7_take_20 : decode cX7_take 20 = .ok (.sipush 300, 3) := by decide +kernel
theorem dX7_take_23 : decode cX7_take 23 = .ok (.if_icmp .gt 17, 3) := by decide +kernel
theorem dX7_take_26 : decode cX7_take 26 = .ok (.aload_n 0, 1) := by decide +kernel
theorem dX7_take_27 : decode cX7_take 27 = .ok (.iload_n 3, 1) := by decide +kernel
theorem dX7_take_28 : decode cX7_take 28 = .ok (.iload_n 1, 1) := by decide +kernel
theorem dX7_take_29 : decode cX7_take 29 = .ok (.isub, 1) := by decide +kernel
theorem dX7_take_30 : decode cX7_take 30 = .ok (.iload_n 3, 1) := by decide +kernel
theorem dX7_take_31 : decode cX7_take 31 = .ok (.invokevirtual 28, 3) := by decide +kernel
theorem dX7_take_34 : decode cX7_take 34 = .ok (.iinc 3 1, 3) := by decide +kernel
theorem dX7_take_37 : decode cX7_take 37 = .ok (.goto (-18), 3) := by decide +kernel
theorem dX7_take_40 : decode cX7_take 40 = .ok (.goto 26, 3) := by decide +kernel
theorem dX7_take_43 : decode cX7_take 43 = .ok (.sipush 300, 3) := by decide +kernel
theorem dX7_take_46 : decode cX7_take 46 = .ok (.istore_n 3, 1) := by decide +kernel
theorem dX7_take_47 : decode cX7_take 47 = .ok (.iload_n 3, 1) := by decide +kernel
theorem dX7_take_48 : decode cX7_take 48 = .ok (.iload_n 1, 1) := by decide +kernel
theorem dX7_take_49 : decode cX7_take 49 = .ok (.if_icmp .lt 17, 3) := by decide +kernel
theorem dX7_take_52 : decode cX7_take 52 = .ok (.aload_n 0, 1) := by decide +kernel
theorem dX7_take_53 : decode cX7_take 53 = .ok (.iload_n 3, 1) := by decide +kernel
theorem dX7_take_54 : decode cX7_take 54 = .ok (.iload_n 1, 1) := by decide +kernel
theorem dX7_take_55 : decode cX7_take 55 = .ok (.isub, 1) := by decide +kernel
theorem dX7_take_56 : decode cX7_take 56 = .ok (.iload_n 3, 1) := by decide +kernel
theorem dX7_take_57 : decode cX7_take 57 = .ok (.invokevirtual 28, 3) := by decide +kernel
theorem dX7_take_60 : decode cX7_take 60 = .ok (.iinc 3 (-1), 3) := by decide +kernel
theorem dX7_take_63 : decode cX7_take 63 = .ok (.goto (-16), 3) := by decide +kernel
theorem dX7_take_66 : decode cX7_take 66 = .ok (.return_, 1) := by decide +kernel
theorem dX7_isCell_0 : decode cX7_isCell 0 = .ok (.iload_n 0, 1) := by decide +kernel
theorem dX7_isCell_1 : decode cX7_isCell 1 = .ok (.ifCond .lt 14, 3) := by decide +kernel
theorem dX7_isCell_4 : decode cX7_isCell 4 = .ok (.iload_n 0, 1) := by decide +kernel
theorem dX7_isCell_5 : decode cX7_isCell 5 = .ok (.sipush 300, 3) := by decide +kernel
theorem dX7_isCell_8 : decode cX7_isCell 8 = .ok (.if_icmp .gt 7, 3) := by decide +kernel
theorem dX7_isCell_11 : decode cX7_isCell 11 = .ok (.iconst 1, 1) := by decide +kernel
theorem dX7_isCell_12 : decode cX7_isCell 12 = .ok (.goto 4, 3) := by decide +kernel
theorem dX7_isCell_15 : decode cX7_isCell 15 = .ok (.iconst 0, 1) := by decide +kernel
theorem dX7_isCell_16 : decode cX7_isCell 16 = .ok (.ireturn, 1) := by decide +kernel
