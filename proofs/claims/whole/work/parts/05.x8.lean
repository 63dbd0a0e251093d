set_option maxRecDepth 20000 in
theorem ggX8_init_X3_init : GoodIn wsX8_init wsX3_init := goodIn_r _ [35, 36, 2, 3, 37, 38, 76, 77] (by decide +kernel) (by decide +kernel)
set_option maxRecDepth 20000 in
theorem gX8_init_X3_init_n11 : GoodIn wsX8_init (wsX3_init) := ggX8_init_X3_init
set_option maxRecDepth 20000 in
theorem ggX8_init_X6_init : GoodIn wsX8_init wsX6_init := goodIn_r _ [41, 42, 2, 3, 43, 29, 30, 44, 45, 46, 47, 48, 49, 32, 50, 51, 52, 53, 54, 55, 56, 95, 96, 89, 90] (by decide +kernel) (by decide +kernel)
set_option maxRecDepth 20000 in
theorem gX8_init_X6_init : GoodIn wsX8_init (wsX6_init) := ggX8_init_X6_init
set_option maxRecDepth 20000 in
theorem ggX8_init_X5_init : GoodIn wsX8_init wsX5_init := goodIn_r _ [58, 59, 60, 61, 62, 63, 64, 2, 3, 91] (by decide +kernel) (by decide +kernel)
set_option maxRecDepth 20000 in
theorem gX8_init_X5_init_n33 : GoodIn wsX8_init (wsX5_init) := ggX8_init_X5_init
set_option maxRecDepth 20000 in
theorem ggX8_init_X9_init : GoodIn wsX8_init wsX9_init := goodIn_r _ [66, 32, 67, 61, 62, 63, 64, 2, 3, 92] (by decide +kernel) (by decide +kernel)
set_option maxRecDepth 20000 in
theorem gX8_init_X9_init_n40 : GoodIn wsX8_init (wsX9_init) := ggX8_init_X9_init
set_option maxRecDepth 20000 in
theorem ggX8_init_X1_init : GoodIn wsX8_init wsX1_init := goodIn_r _ [69, 70, 2, 3, 71, 29, 30, 72, 32, 73, 74, 47, 48, 49, 50, 51, 95, 96, 93, 94] (by decide +kernel) (by decide +kernel)
set_option maxRecDepth 20000 in
theorem gX8_init_X1_init_n47 : GoodIn wsX8_init (wsX1_init) := ggX8_init_X1_init
set_option maxRecDepth 20000 in
theorem ggX8_init_X0_init : GoodIn wsX8_init wsX0_init := goodIn_r _ [48, 49, 2, 3, 32, 50, 51, 95, 96] (by decide +kernel) (by decide +kernel)
set_option maxRecDepth 20000 in
theorem gX8_init_X0_init : GoodIn wsX8_init (wsX0_init) := ggX8_init_X0_init
theorem dX8_init_0 : decode cX8_init 0 = .ok (.aload_n 0, 1) := by decide +kernel
theorem dX8_init_1 : decode cX8_init 1 = .ok (.invokespecial 3, 3) := by decide +kernel
theorem dX8_init_4 : decode cX8_init 4 = .ok (.aload_n 0, 1) := by decide +kernel
theorem dX8_init_5 : decode cX8_init 5 = .ok (.new 9, 3) := by decide +kernel
theorem dX8_init_8 : decode cX8_init 8 = .ok (.dup, 1) := by decide +kernel
theorem dX8_init_9 : decode cX8_init 9 = .ok (.invokespecial 11, 3) := by decide +kernel
theorem dX8_init_12 : decode cX8_init 12 = .ok (.putfield 12, 3) := by decide +kernel
theorem dX8_init_15 : decode cX8_init 15 = .ok (.aload_n 0, 1) := by decide +kernel
theorem dX8_init_16 : decode cX8_init 16 = .ok (.new 9, 3) := by decide +kernel
theorem dX8_init_19 : decode cX8_init 19 = .ok (.dup, 1) := by decide +kernel
theorem dX8_init_20 : decode cX8_init 20 = .ok (.invokespecial 11, 3) := by decide +kernel
theorem dX8_init_23 : decode cX8_init 23 = .ok (.putfield 18, 3) := by decide +kernel
theorem dX8_init_26 : decode cX8_init 26 = .ok (.aload_n 0, 1) := by decide +kernel
theorem dX8_init_27 : decode cX8_init 27 = .ok (.new 21, 3) := by decide +kernel
theorem dX8_init_30 : decode cX8_init 30 = .ok (.dup, 1) := by decide +kernel
theorem dX8_init_31 : decode cX8_init 31 = .ok (.invokespecial 23, 3) := by decide +kernel
theorem dX8_init_34 : decode cX8_init 34 = .ok (.putfield 24, 3) := by decide +kernel
theorem dX8_init_37 : decode cX8_init 37 = .ok (.aload_n 0, 1) := by decide +kernel
theorem dX8_init_38 : decode cX8_init 38 = .ok (.new 21, 3) := by decide +kernel
theorem dX8_init_41 : decode cX8_init 41 = .ok (.dup, 1) := by decide +kernel
theorem dX8_init_42 : decode cX8_init 42 = .ok (.invokespecial 23, 3) := by decide +kernel
theorem dX8_init_45 : decode cX8_init 45 = .ok (.putfield 28, 3) := by decide +kernel
theorem dX8_init_48 : decode cX8_init 48 = .ok (.aload_n 0, 1) := by decide +kernel
theorem dX8_init_49 : decode cX8_init 49 = .ok (.new 31, 3) := by decide +kernel
theorem dX8_init_52 : decode cX8_init 52 = .ok (.dup, 1) := by decide +kernel
theorem dX8_init_53 : decode cX8_init 53 = .ok (.invokespecial 33, 3) := by decide +kernel
theorem dX8_init_56 : decode cX8_init 56 = .ok (.putfield 34, 3) := by decide +kernel
theorem dX8_init_59 : decode cX8_init 59 = .ok (.aload_n 0, 1) := by decide +kernel
theorem dX8_init_60 : decode cX8_init 60 = .ok (.new 38, 3) := by decide +kernel
theorem dX8_init_63 : decode cX8_init 63 = .ok (.dup, 1) := by decide +kernel
theorem dX8_init_64 : decode cX8_init 64 = .ok (.invokespecial 40, 3) := by decide +kernel
theorem dX8_init_67 : decode cX8_init 67 = .ok (.putfield 41, 3) := by decide +kernel
theorem dX8_init_70 : decode cX8_init 70 = .ok (.aload_n 0, 1) := by decide +kernel
theorem dX8_init_71 : decode cX8_init 71 = .ok (.new 45, 3) := by decide +kernel
theorem dX8_init_74 : decode cX8_init 74 = .ok (.dup, 1) := by decide +kernel
theorem dX8_init_75 : decode cX8_init 75 = .ok (.invokespecial 47, 3) := by decide +kernel
theorem dX8_init_78 : decode cX8_init 78 = .ok (.putfield 48, 3) := by decide +kernel
theorem dX8_init_81 : decode cX8_init 81 = .ok (.aload_n 0, 1) := by decide +kernel
theorem dX8_init_82 : decode cX8_init 82 = .ok (.new 45, 3) := by decide +kernel
theorem dX8_init_85 : decode cX8_init 85 = .ok (.dup, 1) := by decide +kernel
theorem dX8_init_86 : decode cX8_init 86 = .ok (.invokespecial 47, 3) := by decide +kernel
theorem dX8_init_89 : decode cX8_init 89 = .ok (.putfield 52, 3) := by decide +kernel
theorem dX8_init_92 : decode cX8_init 92 = .ok (.aload_n 0, 1) := by decide +kernel
theorem dX8_init_93 : decode cX8_init 93 = .ok (.new 45, 3) := by decide +kernel
theorem dX8_init_96 : decode cX8_init 96 = .ok (.dup, 1) := by decide +kernel
theorem dX8_init_97 : decode cX8_init 97 = .ok (.invokespecial 47, 3) := by decide +kernel
theorem dX8_init_100 : decode cX8_init 100 = .ok (.putfield 55, 3) := by decide +kernel
theorem dX8_init_103 : decode cX8_init 103 = .ok (.aload_n 0, 1) := by decide +kernel
theorem dX8_init_104 : decode cX8_init 104 = .ok (.new 58, 3) := by decide +kernel
theorem dX8_init_107 : decode cX8_init 107 = .ok (.dup, 1) := by decide +kernel
theorem dX8_init_108 : decode cX8_init 108 = .ok (.iconst 5, 1) := by decide +kernel
theorem dX8_init_109 : decode cX8_init 109 = .ok (.invokespecial 60, 3) := by decide +kernel
theorem dX8_init_112 : decode cX8_init 112 = .ok (.putfield 63, 3) := by decide +kernel
theorem dX8_init_115 : decode cX8_init 115 = .ok (.aload_n 0, 1) := by decide +kernel
theorem dX8_init_116 : decode cX8_init 116 = .ok (.sipush 301, 3) := by decide +kernel
theorem dX8_init_119 : decode cX8_init 119 = .ok (.newarray .long, 2) := by decide +kernel
theorem dX8_init_121 : decode cX8_init 121 = .ok (.putfield 67, 3) := by decide +kernel
theorem dX8_init_124 : decode cX8_init 124 = .ok (.return_, 1) := by decide +kernel
set_option maxRecDepth 20000 in
theorem ggX8_playOrders_X7_fill : GoodIn wsX8_playOrders wsX7_fill := goodIn_r _ [9, 10, 11, 12, 13, 14, 15, 16, 17, 18, 19, 20, 21, 22, 23, 24, 25, 26, 27, 28, 29, 30, 31, 32, 33, 34, 35, 36, 37, 38, 39, 40, 41, 42, 43, 44, 45, 46, 8, 47, 48, 49, 50, 51, 52, 53, 54, 55, 56, 57, 58, 59, 60, 61, 62, 63, 64, 65, 66, 67, 68, 206, 207, 208, 209, 210, 211] (by decide +kernel) (by decide +kernel)
set_option maxRecDepth 20000 in
theorem gX8_playOrders_X7_fill_u71X9 : GoodIn wsX8_playOrders (va_wsU RX8 71 RX9 "Sumhoard$SumRow" ⟨"Sumhoard$WaysRow", "fill", "(LSumhoard$Hoard;Z)V"⟩ yX7_fill wsX7_fill) := goodIn_app (goodIn_of _ (by decide +kernel)) ggX8_playOrders_X7_fill
set_option maxRecDepth 20000 in
theorem ggX8_playOrders_X9_waysOf : GoodIn wsX8_playOrders wsX9_waysOf := goodIn_r _ [72, 31, 211] (by decide +kernel) (by decide +kernel)
set_option maxRecDepth 20000 in
theorem gX8_playOrders_X9_waysOf : GoodIn wsX8_playOrders (wsV RX8 75 RX9 yX9_waysOf wsX9_waysOf) := goodIn_app (goodIn_of _ (by decide +kernel)) ggX8_playOrders_X9_waysOf
set_option maxRecDepth 20000 in
theorem ggX8_playOrders_X3_copyTurned : GoodIn wsX8_playOrders wsX3_copyTurned := goodIn_r _ [76, 42, 77, 78, 79, 35, 80, 81, 33, 34, 36, 37, 38, 39, 40, 41, 82, 83, 84, 85, 206, 207] (by decide +kernel) (by decide +kernel)
set_option maxRecDepth 20000 in
theorem gX8_playOrders_X3_copyTurned : GoodIn wsX8_playOrders (wsV RX8 79 RX3 yX3_copyTurned wsX3_copyTurned) := goodIn_app (goodIn_of _ (by decide +kernel)) ggX8_playOrders_X3_copyTurned
set_option maxRecDepth 20000 in
theorem ggX8_playOrders_X8_areRowsAsFound : GoodIn wsX8_playOrders wsX8_areRowsAsFound := goodIn_r _ [90, 91, 92, 93, 2, 94, 95, 96, 97, 98, 99, 100, 101, 102, 103, 104, 105, 106, 33, 34, 35, 36, 37, 38, 39, 40, 41, 42, 107, 108, 109, 110, 111, 112, 113, 114, 115, 116, 117, 118, 119, 120, 121, 122, 7, 8, 9, 10, 11, 12, 13, 14, 15, 16, 17, 18, 19, 20, 21, 22, 23, 24, 25, 26, 27, 28, 29, 30, 31, 32, 43, 44, 45, 46, 47, 48, 49, 50, 51, 52, 53, 54, 55, 56, 57, 58, 59, 60, 61, 62, 63, 64, 65, 66, 67, 68, 123, 124, 125, 126, 127, 128, 129, 130, 131, 132, 133, 134, 135, 136, 137, 138, 139, 140, 141, 142, 143, 144, 145, 146, 147, 148, 149, 150, 151, 152, 153, 154, 155, 156, 89, 157, 158, 159, 160, 161, 162, 163, 164, 165, 166, 167, 168, 169, 170, 171, 172, 173, 174, 175, 176, 177, 178, 179, 180, 181, 182, 195, 196, 197, 198, 199, 200, 201, 202, 203, 204, 205, 212, 213, 206, 207, 214, 215, 208, 209, 210, 211, 216, 217] (by decide +kernel) (by decide +kernel)
set_option maxRecDepth 20000 in
theorem gX8_playOrders_X8_areRowsAsFound : GoodIn wsX8_playOrders (wsV RX8 83 RX8 yX8_areRowsAsFound wsX8_areRowsAsFound) := goodIn_app (goodIn_of _ (by decide +kernel)) ggX8_playOrders_X8_areRowsAsFound
set_option maxRecDepth 20000 in
theorem ggX8_playOrders_X3_sumOfAll : GoodIn wsX8_playOrders wsX3_sumOfAll := goodIn_r _ [186, 187, 188, 189, 35, 190, 42, 81, 33, 34, 36, 37, 38, 39, 40, 41, 206, 207] (by decide +kernel) (by decide +kernel)
set_option maxRecDepth 20000 in
theorem gX8_playOrders_X3_sumOfAll : GoodIn wsX8_playOrders (wsV RX8 87 RX3 yX3_sumOfAll wsX3_sumOfAll) := goodIn_app (goodIn_of _ (by decide +kernel)) ggX8_playOrders_X3_sumOfAll
set_option maxRecDepth 20000 in
theorem ggX8_playOrders_X8_isMirrored : GoodIn wsX8_playOrders wsX8_isMirrored := goodIn_r _ [194, 91, 142, 143, 144, 103, 145, 116, 117, 118, 119, 105, 195, 196, 197, 198, 199, 200, 201, 202, 203, 204, 205, 212, 213, 214, 215] (by decide +kernel) (by decide +kernel)
set_option maxRecDepth 20000 in
theorem gX8_playOrders_X8_isMirrored : GoodIn wsX8_playOrders (wsV RX8 91 RX8 yX8_isMirrored wsX8_isMirrored) := goodIn_app (goodIn_of _ (by decide +kernel)) ggX8_playOrders_X8_isMirrored
theorem dX8_playOrders_0 : decode cX8_playOrders 0 = .ok (.aload_n 0, 1) := by decide +kernel
theorem dX8_playOrders_1 : decode cX8_playOrders 1 = .ok (.getfield 41, 3) := by decide +kernel
theorem dX8_playOrders_4 : decode cX8_playOrders 4 = .ok (.aload_n 1, 1) := by decide +kernel
theorem dX8_playOrders_5 : decode cX8_playOrders 5 = .ok (.iconst 0, 1) := by decide +kernel
theorem dX8_playOrders_6 : decode cX8_playOrders 6 = .ok (.invokevirtual 71, 3) := by decide +kernel
theorem dX8_playOrders_9 : decode cX8_playOrders 9 = .ok (.iconst 0, 1) := by decide +kernel
theorem dX8_playOrders_10 : decode cX8_playOrders 10 = .ok (.istore_n 2, 1) := by decide +kernel
theorem dX8_playOrders_11 : decode cX8_playOrders 11 = .ok (.iload_n 2, 1) := by decide +kernel
theorem dX8_playOrders_12 : decode cX8_playOrders 12 = .ok (.sipush 300, 3) := by decide +kernel
theorem dX8_playOrders_15 : decode cX8_playOrders 15 = .ok (.if_icmp .gt 23, 3) := by decide +kernel
theorem dX8_playOrders_18 : decode cX8_playOrders 18 = .ok (.aload_n 0, 1) := by decide +kernel
theorem dX8_playOrders_19 : decode cX8_playOrders 19 = .ok (.getfield 67, 3) := by decide +kernel
theorem dX8_playOrders_22 : decode cX8_playOrders 22 = .ok (.iload_n 2, 1) := by decide +kernel
theorem dX8_playOrders_23 : decode cX8_playOrders 23 = .ok (.aload_n 0, 1) := by decide +kernel
theorem dX8_playOrders_24 : decode cX8_playOrders 24 = .ok (.getfield 41, 3) := by decide +kernel
theorem dX8_playOrders_27 : decode cX8_playOrders 27 = .ok (.iload_n 2, 1) := by decide +kernel
theorem dX8_playOrders_28 : decode cX8_playOrders 28 = .ok (.invokevirtual 75, 3) := by decide +kernel
theorem dX8_playOrders_31 : decode cX8_playOrders 31 = .ok (.lastore, 1) := by decide +kernel
theorem dX8_playOrders_32 : decode cX8_playOrders 32 = .ok (.iinc 2 1, 3) := by decide +kernel
theorem dX8_playOrders_35 : decode cX8_playOrders 35 = .ok (.goto (-24), 3) := by decide +kernel
theorem dX8_playOrders_38 : decode cX8_playOrders 38 = .ok (.aload_n 0, 1) := by decide +kernel
theorem dX8_playOrders_39 : decode cX8_playOrders 39 = .ok (.getfield 12, 3) := by decide +kernel
theorem dX8_playOrders_42 : decode cX8_playOrders 42 = .ok (.aload_n 1, 1) := by decide +kernel
theorem dX8_playOrders_43 : decode cX8_playOrders 43 = .ok (.invokevirtual 79, 3) := by decide +kernel
theorem dX8_playOrders_46 : decode cX8_playOrders 46 = .ok (.aload_n 0, 1) := by decide +kernel
theorem dX8_playOrders_47 : decode cX8_playOrders 47 = .ok (.aload_n 0, 1) := by decide +kernel
theorem dX8_playOrders_48 : decode cX8_playOrders 48 = .ok (.getfield 12, 3) := by decide +kernel
theorem dX8_playOrders_51 : decode cX8_playOrders 51 = .ok (.invokevirtual 83, 3) := by decide +kernel
theorem dX8_playOrders_54 : decode cX8_playOrders 54 = .ok (.ifCond .eq 26, 3) := by decide +kernel
theorem dX8_playOrders_57 : decode cX8_playOrders 57 = .ok (.aload_n 0, 1) := by decide +kernel
theorem dX8_playOrders_58 : decode cX8_playOrders 58 = .ok (.aload_n 1, 1) := by decide +kernel
theorem dX8_playOrders_59 : decode cX8_playOrders 59 = .ok (.invokevirtual 83, 3) := by decide +kernel
theorem dX8_playOrders_62 : decode cX8_playOrders 62 = .ok (.ifCond .eq 18, 3) := by decide +kernel
theorem dX8_playOrders_65 : decode cX8_playOrders 65 = .ok (.aload_n 0, 1) := by decide +kernel
theorem dX8_playOrders_66 : decode cX8_playOrders 66 = .ok (.aload_n 1, 1) := by decide +kernel
theorem dX8_playOrders_67 : decode cX8_playOrders 67 = .ok (.invokevirtual 87, 3) := by decide +kernel
theorem dX8_playOrders_70 : decode cX8_playOrders 70 = .ok (.invokevirtual 91, 3) := by decide +kernel
theorem dX8_playOrders_73 : decode cX8_playOrders 73 = .ok (.ifCond .eq 7, 3) := by decide +kernel
theorem dX8_playOrders_76 : decode cX8_playOrders 76 = .ok (.iconst 1, 1) := by decide +kernel
theorem dX8_playOrders_77 : decode cX8_playOrders 77 = .ok (.goto 4, 3) := by decide +kernel
theorem dX8_playOrders_80 : decode cX8_playOrders 80 = .ok (.iconst 0, 1) := by decide +kernel
theorem dX8_playOrders_81 : decode cX8_playOrders 81 = .ok (.ireturn, 1) := by decide +kernel
set_option maxRecDepth 20000 in
theorem ggX8_playOneByOne_X3_pick : GoodIn wsX8_playOneByOne wsX3_pick := goodIn_r _ [7, 8, 9, 10, 11, 6, 12, 13, 14, 15, 16, 17, 18, 19, 20, 21, 22, 23, 24, 25, 190, 191] (by decide +kernel) (by decide +kernel)
set_option maxRecDepth 20000 in
theorem gX8_playOneByOne_X3_pick : GoodIn wsX8_playOneByOne (wsV RX8 95 RX3 yX3_pick wsX3_pick) := goodIn_app (goodIn_of _ (by decide +kernel)) ggX8_playOneByOne_X3_pick
set_option maxRecDepth 20000 in
theorem ggX8_playOneByOne_X3_sumAt : GoodIn wsX8_playOneByOne wsX3_sumAt := goodIn_r _ [29, 8, 13, 14, 15, 6, 16, 17, 18, 19, 20, 21, 190, 191] (by decide +kernel) (by decide +kernel)
set_option maxRecDepth 20000 in
theorem gX8_playOneByOne_X3_sumAt : GoodIn wsX8_playOneByOne (wsV RX8 103 RX3 yX3_sumAt wsX3_sumAt) := goodIn_app (goodIn_of _ (by decide +kernel)) ggX8_playOneByOne_X3_sumAt
set_option maxRecDepth 20000 in
theorem ggX8_playOneByOne_X8_areRowsAsFound : GoodIn wsX8_playOneByOne wsX8_areRowsAsFound := goodIn_r _ [34, 35, 36, 37, 2, 38, 39, 40, 41, 42, 43, 44, 45, 46, 47, 48, 49, 50, 14, 15, 6, 16, 17, 18, 19, 20, 21, 8, 51, 52, 53, 54, 55, 56, 57, 58, 59, 60, 61, 62, 63, 64, 65, 66, 67, 68, 69, 70, 71, 72, 73, 74, 75, 76, 77, 78, 79, 80, 81, 82, 83, 84, 85, 86, 87, 88, 89, 90, 91, 92, 93, 94, 95, 96, 97, 98, 99, 100, 101, 102, 103, 104, 105, 106, 107, 108, 109, 110, 111, 112, 113, 114, 115, 116, 117, 118, 119, 120, 121, 122, 123, 124, 125, 126, 127, 128, 129, 130, 131, 132, 133, 134, 135, 136, 137, 138, 139, 140, 141, 142, 143, 144, 145, 146, 147, 148, 149, 150, 151, 152, 33, 153, 154, 155, 156, 157, 158, 159, 160, 161, 162, 163, 164, 165, 166, 167, 168, 169, 170, 171, 172, 173, 174, 175, 176, 177, 178, 179, 180, 181, 182, 183, 184, 185, 186, 187, 188, 189, 192, 193, 190, 191, 194, 195, 196, 197, 198, 199, 200, 201] (by decide +kernel) (by decide +kernel)
set_option maxRecDepth 20000 in
theorem gX8_playOneByOne_X8_areRowsAsFound : GoodIn wsX8_playOneByOne (wsV RX8 83 RX8 yX8_areRowsAsFound wsX8_areRowsAsFound) := goodIn_app (goodIn_of _ (by decide +kernel)) ggX8_playOneByOne_X8_areRowsAsFound
theorem dX8_playOneByOne_0 : decode cX8_playOneByOne 0 = .ok (.aload_n 0, 1) := by decide +kernel
theorem dX8_playOneByOne_1 : decode cX8_playOneByOne 1 = .ok (.getfield 12, 3) := by decide +kernel
theorem dX8_playOneByOne_4 : decode cX8_playOneByOne 4 = .ok (.aload_n 1, 1) := by decide +kernel
theorem dX8_playOneByOne_5 : decode cX8_playOneByOne 5 = .ok (.iload_n 2, 1) := by decide +kernel
theorem dX8_playOneByOne_6 : decode cX8_playOneByOne 6 = .ok (.invokevirtual 95, 3) := by decide +kernel
theorem dX8_playOneByOne_9 : decode cX8_playOneByOne 9 = .ok (.iconst 0, 1) := by decide +kernel
theorem dX8_playOneByOne_10 : decode cX8_playOneByOne 10 = .ok (.istore_n 3, 1) := by decide +kernel
theorem dX8_playOneByOne_11 : decode cX8_playOneByOne 11 = .ok (.iload_n 3, 1) := by decide +kernel
theorem dX8_playOneByOne_12 : decode cX8_playOneByOne 12 = .ok (.sipush 300, 3) := by decide +kernel
theorem dX8_playOneByOne_15 : decode cX8_playOneByOne 15 = .ok (.if_icmp .gt 16, 3) := by decide +kernel
theorem dX8_playOneByOne_18 : decode cX8_playOneByOne 18 = .ok (.aload_n 0, 1) := by decide +kernel
theorem dX8_playOneByOne_19 : decode cX8_playOneByOne 19 = .ok (.getfield 67, 3) := by decide +kernel
theorem dX8_playOneByOne_22 : decode cX8_playOneByOne 22 = .ok (.iload_n 3, 1) := by decide +kernel
theorem dX8_playOneByOne_23 : decode cX8_playOneByOne 23 = .ok (.lconst 0, 1) := by decide +kernel
theorem dX8_playOneByOne_24 : decode cX8_playOneByOne 24 = .ok (.lastore, 1) := by decide +kernel
theorem dX8_playOneByOne_25 : decode cX8_playOneByOne 25 = .ok (.iinc 3 1, 3) := by decide +kernel
theorem dX8_playOneByOne_28 : decode cX8_playOneByOne 28 = .ok (.goto (-17), 3) := by decide +kernel
theorem dX8_playOneByOne_31 : decode cX8_playOneByOne 31 = .ok (.iconst 1, 1) := by decide +kernel
theorem dX8_playOneByOne_32 : decode cX8_playOneByOne 32 = .ok (.aload_n 0, 1) := by decide +kernel
theorem dX8_playOneByOne_33 : decode cX8_playOneByOne 33 = .ok (.getfield 12, 3) := by decide +kernel
theorem dX8_playOneByOne_36 : decode cX8_playOneByOne 36 = .ok (.getfield 99, 3) := by decide +kernel
theorem dX8_playOneByOne_39 : decode cX8_playOneByOne 39 = .ok (.ishl, 1) := by decide +kernel
theorem dX8_playOneByOne_40 : decode cX8_playOneByOne 40 = .ok (.istore_n 3, 1) := by decide +kernel
theorem dX8_playOneByOne_41 : decode cX8_playOneByOne 41 = .ok (.iconst 0, 1) := by decide +kernel
theorem dX8_playOneByOne_42 : decode cX8_playOneByOne 42 = .ok (.istore 4, 2) := by decide +kernel
theorem dX8_playOneByOne_44 : decode cX8_playOneByOne 44 = .ok (.iload 4, 2) := by decide +kernel
theorem dX8_playOneByOne_46 : decode cX8_playOneByOne 46 = .ok (.iload_n 3, 1) := by decide +kernel
theorem dX8_playOneByOne_47 : decode cX8_playOneByOne 47 = .ok (.if_icmp .ge 44, 3) := by decide +kernel
theorem dX8_playOneByOne_50 : decode cX8_playOneByOne 50 = .ok (.aload_n 0, 1) := by decide +kernel
theorem dX8_playOneByOne_51 : decode cX8_playOneByOne 51 = .ok (.getfield 12, 3) := by decide +kernel
theorem dX8_playOneByOne_54 : decode cX8_playOneByOne 54 = .ok (.iload 4, 2) := by decide +kernel
theorem dX8_playOneByOne_56 : decode cX8_playOneByOne 56 = .ok (.invokevirtual 103, 3) := by decide +kernel
theorem dX8_playOneByOne_59 : decode cX8_playOneByOne 59 = .ok (.istore 5, 2) := by decide +kernel
theorem dX8_playOneByOne_61 : decode cX8_playOneByOne 61 = .ok (.iload 5, 2) := by decide +kernel
theorem dX8_playOneByOne_63 : decode cX8_playOneByOne 63 = .ok (.ifCond .lt 22, 3) := by decide +kernel
theorem dX8_playOneByOne_66 : decode cX8_playOneByOne 66 = .ok (.iload 5, 2) := by decide +kernel
theorem dX8_playOneByOne_68 : decode cX8_playOneByOne 68 = .ok (.sipush 300, 3) := by decide +kernel
theorem dX8_playOneByOne_71 : decode cX8_playOneByOne 71 = .ok (.if_icmp .gt 14, 3) := by decide +kernel
theorem dX8_playOneByOne_74 : decode cX8_playOneByOne 74 = .ok (.aload_n 0, 1) := by decide +kernel
theorem dX8_playOneByOne_75 : decode cX8_playOneByOne 75 = .ok (.getfield 67, 3) := by decide +kernel
theorem dX8_playOneByOne_78 : decode cX8_playOneByOne 78 = .ok (.iload 5, 2) := by decide +kernel
theorem dX8_playOneByOne_80 : decode cX8_playOneByOne 80 = .ok (.dup2, 1) := by decide +kernel
theorem dX8_playOneByOne_81 : decode cX8_playOneByOne 81 = .ok (.laload, 1) := by decide +kernel
theorem dX8_playOneByOne_82 : decode cX8_playOneByOne 82 = .ok (.lconst 1, 1) := by decide +kernel
theorem dX8_playOneByOne_83 : decode cX8_playOneByOne 83 = .ok (.ladd, 1) := by decide +kernel
theorem dX8_playOneByOne_84 : decode cX8_playOneByOne 84 = .ok (.lastore, 1) := by decide +kernel
theorem dX8_playOneByOne_85 : decode cX8_playOneByOne 85 = .ok (.iinc 4 1, 3) := by decide +kernel
theorem dX8_playOneByOne_88 : decode cX8_playOneByOne 88 = .ok (.goto (-44), 3) := by decide +kernel
theorem dX8_playOneByOne_91 : decode cX8_playOneByOne 91 = .ok (.aload_n 0, 1) := by decide +kernel
theorem dX8_playOneByOne_92 : decode cX8_playOneByOne 92 = .ok (.aload_n 0, 1) := by decide +kernel
theorem dX8_playOneByOne_93 : decode cX8_playOneByOne 93 = .ok (.getfield 12, 3) := by decide +kernel
theorem dX8_playOneByOne_96 : decode cX8_playOneByOne 96 = .ok (.invokevirtual 83, 3) := by decide +kernel
theorem dX8_playOneByOne_99 : decode cX8_playOneByOne 99 = .ok (.ireturn, 1) := by decide +kernel
set_option maxRecDepth 20000 in
theorem ggX8_playOften_X6_fillOften : GoodIn wsX8_playOften wsX6_fillOften := goodIn_r _ [8, 9, 10, 11, 12, 13, 14, 15, 16, 17, 18, 19, 20, 21, 22, 23, 24, 25, 26, 27, 28, 29, 30, 31, 32, 33, 34, 35, 36, 37, 38, 39, 40, 41, 42, 43, 44, 154, 155, 156, 157, 158, 159] (by decide +kernel) (by decide +kernel)
set_option maxRecDepth 20000 in
theorem gX8_playOften_X6_fillOften : GoodIn wsX8_playOften (wsV RX8 107 RX6 yX6_fillOften wsX6_fillOften) := goodIn_app (goodIn_of _ (by decide +kernel)) ggX8_playOften_X6_fillOften
set_option maxRecDepth 20000 in
theorem ggX8_playOften_X7_fill : GoodIn wsX8_playOften wsX7_fill := goodIn_r _ [50, 51, 52, 53, 54, 55, 56, 57, 58, 59, 60, 61, 62, 63, 64, 65, 66, 67, 68, 69, 70, 71, 72, 73, 18, 19, 20, 21, 22, 23, 24, 25, 26, 27, 74, 75, 76, 77, 49, 78, 79, 80, 81, 82, 83, 84, 85, 86, 87, 88, 89, 90, 91, 92, 93, 94, 95, 96, 97, 98, 99, 156, 157, 160, 161, 162, 163] (by decide +kernel) (by decide +kernel)
set_option maxRecDepth 20000 in
theorem gX8_playOften_X7_fill_u110X5 : GoodIn wsX8_playOften (va_wsU RX8 110 RX5 "Sumhoard$SumRow" ⟨"Sumhoard$SetRow", "fill", "(LSumhoard$Hoard;Z)V"⟩ yX7_fill wsX7_fill) := goodIn_app (goodIn_of _ (by decide +kernel)) ggX8_playOften_X7_fill
set_option maxRecDepth 20000 in
theorem ggX8_playOften_X8_isFoundBelow : GoodIn wsX8_playOften wsX8_isFoundBelow := goodIn_r _ [104, 3, 105, 18, 19, 20, 21, 22, 23, 24, 25, 26, 27, 156, 157, 143, 144, 145, 146, 147, 148, 149, 150, 151, 152, 153] (by decide +kernel) (by decide +kernel)
set_option maxRecDepth 20000 in
theorem gX8_playOften_X8_isFoundBelow : GoodIn wsX8_playOften (wsV RX8 111 RX8 yX8_isFoundBelow wsX8_isFoundBelow) := goodIn_app (goodIn_of _ (by decide +kernel)) ggX8_playOften_X8_isFoundBelow
set_option maxRecDepth 20000 in
theorem ggX8_playOften_X0_isSet : GoodIn wsX8_playOften wsX0_isSet := goodIn_r _ [109, 37, 38, 39, 14, 40, 16, 158, 159] (by decide +kernel) (by decide +kernel)
set_option maxRecDepth 20000 in
theorem gX8_playOften_X0_isSet : GoodIn wsX8_playOften (wsV RX8 118 RX0 yX0_isSet wsX0_isSet) := goodIn_app (goodIn_of _ (by decide +kernel)) ggX8_playOften_X0_isSet
set_option maxRecDepth 20000 in
theorem ggX8_playOften_X5_isSet : GoodIn wsX8_playOften wsX5_isSet := goodIn_r _ [113, 67, 162] (by decide +kernel) (by decide +kernel)
set_option maxRecDepth 20000 in
theorem gX8_playOften_X5_isSet : GoodIn wsX8_playOften (wsV RX8 121 RX5 yX5_isSet wsX5_isSet) := goodIn_app (goodIn_of _ (by decide +kernel)) ggX8_playOften_X5_isSet
set_option maxRecDepth 20000 in
theorem ggX8_playOften_X8_areSetsTold : GoodIn wsX8_playOften wsX8_areSetsTold := goodIn_r _ [117, 1, 2, 118, 119, 120, 14, 121, 16, 122, 123, 124, 125, 126, 127, 128, 129, 130, 131, 65, 132, 67, 133, 134, 135, 136, 137, 107, 108, 109, 37, 38, 39, 40, 138, 139, 140, 141, 142, 111, 112, 113, 143, 144, 145, 146, 147, 148, 149, 150, 151, 152, 153, 154, 155, 158, 159, 162] (by decide +kernel) (by decide +kernel)
set_option maxRecDepth 20000 in
theorem gX8_playOften_X8_areSetsTold : GoodIn wsX8_playOften (wsV RX8 122 RX8 yX8_areSetsTold wsX8_areSetsTold) := goodIn_app (goodIn_of _ (by decide +kernel)) ggX8_playOften_X8_areSetsTold
theorem dX8_playOften_0 : decode cX8_playOften 0 = .ok (.aload_n 0, 1) := by decide +kernel
theorem dX8_playOften_1 : decode cX8_playOften 1 = .ok (.getfield 24, 3) := by decide +kernel
theorem dX8_playOften_4 : decode cX8_playOften 4 = .ok (.aload_n 1, 1) := by decide +kernel
theorem dX8_playOften_5 : decode cX8_playOften 5 = .ok (.invokevirtual 107, 3) := by decide +kernel
theorem dX8_playOften_8 : decode cX8_playOften 8 = .ok (.aload_n 0, 1) := by decide +kernel
theorem dX8_playOften_9 : decode cX8_playOften 9 = .ok (.getfield 34, 3) := by decide +kernel
theorem dX8_playOften_12 : decode cX8_playOften 12 = .ok (.aload_n 1, 1) := by decide +kernel
theorem dX8_playOften_13 : decode cX8_playOften 13 = .ok (.iconst 1, 1) := by decide +kernel
theorem dX8_playOften_14 : decode cX8_playOften 14 = .ok (.invokevirtual 110, 3) := by decide +kernel
theorem dX8_playOften_17 : decode cX8_playOften 17 = .ok (.iconst 0, 1) := by decide +kernel
theorem dX8_playOften_18 : decode cX8_playOften 18 = .ok (.istore_n 2, 1) := by decide +kernel
theorem dX8_playOften_19 : decode cX8_playOften 19 = .ok (.iload_n 2, 1) := by decide +kernel
theorem dX8_playOften_20 : decode cX8_playOften 20 = .ok (.sipush 300, 3) := by decide +kernel
theorem dX8_playOften_23 : decode cX8_playOften 23 = .ok (.if_icmp .gt 79, 3) := by decide +kernel
theorem dX8_playOften_26 : decode cX8_playOften 26 = .ok (.aload_n 0, 1) := by decide +kernel
theorem dX8_playOften_27 : decode cX8_playOften 27 = .ok (.getfield 67, 3) := by decide +kernel
theorem dX8_playOften_30 : decode cX8_playOften 30 = .ok (.iload_n 2, 1) := by decide +kernel
theorem dX8_playOften_31 : decode cX8_playOften 31 = .ok (.iload_n 2, 1) := by decide +kernel
theorem dX8_playOften_32 : decode cX8_playOften 32 = .ok (.ifCond .eq 12, 3) := by decide +kernel
theorem dX8_playOften_35 : decode cX8_playOften 35 = .ok (.aload_n 0, 1) := by decide +kernel
theorem dX8_playOften_36 : decode cX8_playOften 36 = .ok (.iload_n 2, 1) := by decide +kernel
theorem dX8_playOften_37 : decode cX8_playOften 37 = .ok (.aload_n 1, 1) := by decide +kernel
theorem dX8_playOften_38 : decode cX8_playOften 38 = .ok (.invokevirtual 111, 3) := by decide +kernel
theorem dX8_playOften_41 : decode cX8_playOften 41 = .ok (.ifCond .eq 7, 3) := by decide +kernel
theorem dX8_playOften_44 : decode cX8_playOften 44 = .ok (.lconst 1, 1) := by decide +kernel
theorem dX8_playOften_45 : decode cX8_playOften 45 = .ok (.goto 4, 3) := by decide +kernel
theorem dX8_playOften_48 : decode cX8_playOften 48 = .ok (.lconst 0, 1) := by decide +kernel
theorem dX8_playOften_49 : decode cX8_playOften 49 = .ok (.lastore, 1) := by decide +kernel
theorem dX8_playOften_50 : decode cX8_playOften 50 = .ok (.aload_n 0, 1) := by decide +kernel
theorem dX8_playOften_51 : decode cX8_playOften 51 = .ok (.getfield 67, 3) := by decide +kernel
theorem dX8_playOften_54 : decode cX8_playOften 54 = .ok (.iload_n 2, 1) := by decide +kernel
theorem dX8_playOften_55 : decode cX8_playOften 55 = .ok (.laload, 1) := by decide +kernel
theorem dX8_playOften_56 : decode cX8_playOften 56 = .ok (.lconst 0, 1) := by decide +kernel
theorem dX8_playOften_57 : decode cX8_playOften 57 = .ok (.lcmp, 1) := by decide +kernel
theorem dX8_playOften_58 : decode cX8_playOften 58 = .ok (.ifCond .eq 7, 3) := by decide +kernel
theorem dX8_playOften_61 : decode cX8_playOften 61 = .ok (.iconst 1, 1) := by decide +kernel
theorem dX8_playOften_62 : decode cX8_playOften 62 = .ok (.goto 4, 3) := by decide +kernel
theorem dX8_playOften_65 : decode cX8_playOften 65 = .ok (.iconst 0, 1) := by decide +kernel
theorem dX8_playOften_66 : decode cX8_playOften 66 = .ok (.istore_n 3, 1) := by decide +kernel
theorem dX8_playOften_67 : decode cX8_playOften 67 = .ok (.aload_n 0, 1) := by decide +kernel
theorem dX8_playOften_68 : decode cX8_playOften 68 = .ok (.getfield 24, 3) := by decide +kernel
theorem dX8_playOften_71 : decode cX8_playOften 71 = .ok (.getfield 115, 3) := by decide +kernel
theorem dX8_playOften_74 : decode cX8_playOften 74 = .ok (.iload_n 2, 1) := by decide +kernel
theorem dX8_playOften_75 : decode cX8_playOften 75 = .ok (.invokevirtual 118, 3) := by decide +kernel
theorem dX8_playOften_78 : decode cX8_playOften 78 = .ok (.iload_n 3, 1) := by decide +kernel
theorem dX8_playOften_79 : decode cX8_playOften 79 = .ok (.if_icmp .ne 15, 3) := by decide +kernel
theorem dX8_playOften_82 : decode cX8_playOften 82 = .ok (.aload_n 0, 1) := by decide +kernel
theorem dX8_playOften_83 : decode cX8_playOften 83 = .ok (.getfield 34, 3) := by decide +kernel
theorem dX8_playOften_86 : decode cX8_playOften 86 = .ok (.iload_n 2, 1) := by decide +kernel
theorem dX8_playOften_87 : decode cX8_playOften 87 = .ok (.invokevirtual 121, 3) := by decide +kernel
theorem dX8_playOften_90 : decode cX8_playOften 90 = .ok (.iload_n 3, 1) := by decide +kernel
theorem dX8_playOften_91 : decode cX8_playOften 91 = .ok (.if_icmp .eq 5, 3) := by decide +kernel
theorem dX8_playOften_94 : decode cX8_playOften 94 = .ok (.iconst 0, 1) := by decide +kernel
theorem dX8_playOften_95 : decode cX8_playOften 95 = .ok (.ireturn, 1) := by decide +kernel
theorem dX8_playOften_96 : decode cX8_playOften 96 = .ok (.iinc 2 1, 3) := by decide +kernel
theorem dX8_playOften_99 : decode cX8_playOften 99 = .ok (.goto (-80), 3) := by decide +kernel
theorem dX8_playOften_102 : decode cX8_playOften 102 = .ok (.aload_n 0, 1) := by decide +kernel
theorem dX8_playOften_103 : decode cX8_playOften 103 = .ok (.invokevirtual 122, 3) := by decide +kernel
theorem dX8_playOften_106 : decode cX8_playOften 106 = .ok (.ireturn, 1) := by decide +kernel
set_option maxRecDepth 20000 in
theorem ggX8_playLeftOut_X3_numberAt : GoodIn wsX8_playLeftOut wsX3_numberAt := goodIn_r _ [10, 11, 12, 13, 14, 9, 15, 16, 96, 97] (by decide +kernel) (by decide +kernel)
set_option maxRecDepth 20000 in
theorem gX8_playLeftOut_X3_numberAt : GoodIn wsX8_playLeftOut (wsV RX8 126 RX3 yX3_numberAt wsX3_numberAt) := goodIn_app (goodIn_of _ (by decide +kernel)) ggX8_playLeftOut_X3_numberAt
set_option maxRecDepth 20000 in
theorem ggX8_playLeftOut_X3_pick : GoodIn wsX8_playLeftOut wsX3_pick := goodIn_r _ [20, 16, 21, 22, 23, 9, 24, 25, 7, 8, 10, 11, 12, 13, 14, 15, 26, 27, 28, 29, 96, 97] (by decide +kernel) (by decide +kernel)
set_option maxRecDepth 20000 in
theorem gX8_playLeftOut_X3_pick : GoodIn wsX8_playLeftOut (wsV RX8 95 RX3 yX3_pick wsX3_pick) := goodIn_app (goodIn_of _ (by decide +kernel)) ggX8_playLeftOut_X3_pick
set_option maxRecDepth 20000 in
theorem ggX8_playLeftOut_X1_fill : GoodIn wsX8_playLeftOut wsX1_fill := goodIn_r _ [34, 35, 36, 37, 38, 39, 40, 41, 42, 43, 44, 7, 8, 9, 10, 11, 12, 13, 14, 15, 16, 45, 46, 47, 48, 49, 50, 51, 52, 53, 54, 55, 56, 57, 58, 59, 60, 61, 62, 98, 99, 96, 97, 100, 101] (by decide +kernel) (by decide +kernel)
set_option maxRecDepth 20000 in
theorem gX8_playLeftOut_X1_fill : GoodIn wsX8_playLeftOut (wsV RX8 129 RX1 yX1_fill wsX1_fill) := goodIn_app (goodIn_of _ (by decide +kernel)) ggX8_playLeftOut_X1_fill
set_option maxRecDepth 20000 in
theorem ggX8_playLeftOut_X6_fillOnce : GoodIn wsX8_playLeftOut wsX6_fillOnce := goodIn_r _ [67, 68, 69, 39, 40, 41, 42, 43, 70, 7, 8, 9, 10, 11, 12, 13, 14, 15, 16, 71, 72, 73, 74, 49, 51, 52, 53, 54, 55, 56, 57, 58, 94, 95, 96, 97, 100, 101] (by decide +kernel) (by decide +kernel)
set_option maxRecDepth 20000 in
theorem gX8_playLeftOut_X6_fillOnce : GoodIn wsX8_playLeftOut (wsV RX8 131 RX6 yX6_fillOnce wsX6_fillOnce) := goodIn_app (goodIn_of _ (by decide +kernel)) ggX8_playLeftOut_X6_fillOnce
set_option maxRecDepth 20000 in
theorem ggX8_playLeftOut_X1_countOf : GoodIn wsX8_playLeftOut wsX1_countOf := goodIn_r _ [78, 36, 98, 99] (by decide +kernel) (by decide +kernel)
set_option maxRecDepth 20000 in
theorem gX8_playLeftOut_X1_countOf : GoodIn wsX8_playLeftOut (wsV RX8 134 RX1 yX1_countOf wsX1_countOf) := goodIn_app (goodIn_of _ (by decide +kernel)) ggX8_playLeftOut_X1_countOf
set_option maxRecDepth 20000 in
theorem ggX8_playLeftOut_X0_isSet : GoodIn wsX8_playLeftOut wsX0_isSet := goodIn_r _ [82, 55, 56, 57, 41, 58, 43, 100, 101] (by decide +kernel) (by decide +kernel)
set_option maxRecDepth 20000 in
theorem gX8_playLeftOut_X0_isSet : GoodIn wsX8_playLeftOut (wsV RX8 118 RX0 yX0_isSet wsX0_isSet) := goodIn_app (goodIn_of _ (by decide +kernel)) ggX8_playLeftOut_X0_isSet
theorem dX8_playLeftOut_0 : decode cX8_playLeftOut 0 = .ok (.aload_n 1, 1) := by decide +kernel
theorem dX8_playLeftOut_1 : decode cX8_playLeftOut 1 = .ok (.iload_n 2, 1) := by decide +kernel
theorem dX8_playLeftOut_2 : decode cX8_playLeftOut 2 = .ok (.invokevirtual 126, 3) := by decide +kernel
theorem dX8_playLeftOut_5 : decode cX8_playLeftOut 5 = .ok (.istore_n 3, 1) := by decide +kernel
theorem dX8_playLeftOut_6 : decode cX8_playLeftOut 6 = .ok (.aload_n 0, 1) := by decide +kernel
theorem dX8_playLeftOut_7 : decode cX8_playLeftOut 7 = .ok (.getfield 12, 3) := by decide +kernel
theorem dX8_playLeftOut_10 : decode cX8_playLeftOut 10 = .ok (.aload_n 1, 1) := by decide +kernel
theorem dX8_playLeftOut_11 : decode cX8_playLeftOut 11 = .ok (.iconst 1, 1) := by decide +kernel
theorem dX8_playLeftOut_12 : decode cX8_playLeftOut 12 = .ok (.iload_n 2, 1) := by decide +kernel
theorem dX8_playLeftOut_13 : decode cX8_playLeftOut 13 = .ok (.ishl, 1) := by decide +kernel
theorem dX8_playLeftOut_14 : decode cX8_playLeftOut 14 = .ok (.iconst (-1), 1) := by decide +kernel
theorem dX8_playLeftOut_15 : decode cX8_playLeftOut 15 = .ok (.ixor, 1) := by decide +kernel
theorem dX8_playLeftOut_16 : decode cX8_playLeftOut 16 = .ok (.invokevirtual 95, 3) := by decide +kernel
theorem dX8_playLeftOut_19 : decode cX8_playLeftOut 19 = .ok (.aload_n 0, 1) := by decide +kernel
theorem dX8_playLeftOut_20 : decode cX8_playLeftOut 20 = .ok (.getfield 48, 3) := by decide +kernel
theorem dX8_playLeftOut_23 : decode cX8_playLeftOut 23 = .ok (.aload_n 1, 1) := by decide +kernel
theorem dX8_playLeftOut_24 : decode cX8_playLeftOut 24 = .ok (.invokevirtual 129, 3) := by decide +kernel
theorem dX8_playLeftOut_27 : decode cX8_playLeftOut 27 = .ok (.aload_n 0, 1) := by decide +kernel
theorem dX8_playLeftOut_28 : decode cX8_playLeftOut 28 = .ok (.getfield 52, 3) := by decide +kernel
theorem dX8_playLeftOut_31 : decode cX8_playLeftOut 31 = .ok (.aload_n 0, 1) := by decide +kernel
theorem dX8_playLeftOut_32 : decode cX8_playLeftOut 32 = .ok (.getfield 12, 3) := by decide +kernel
theorem dX8_playLeftOut_35 : decode cX8_playLeftOut 35 = .ok (.invokevirtual 129, 3) := by decide +kernel
theorem dX8_playLeftOut_38 : decode cX8_playLeftOut 38 = .ok (.aload_n 0, 1) := by decide +kernel
theorem dX8_playLeftOut_39 : decode cX8_playLeftOut 39 = .ok (.getfield 28, 3) := by decide +kernel
theorem dX8_playLeftOut_42 : decode cX8_playLeftOut 42 = .ok (.aload_n 0, 1) := by decide +kernel
theorem dX8_playLeftOut_43 : decode cX8_playLeftOut 43 = .ok (.getfield 12, 3) := by decide +kernel
theorem dX8_playLeftOut_46 : decode cX8_playLeftOut 46 = .ok (.invokevirtual 131, 3) := by decide +kernel
theorem dX8_playLeftOut_49 : decode cX8_playLeftOut 49 = .ok (.iconst 0, 1) := by decide +kernel
theorem dX8_playLeftOut_50 : decode cX8_playLeftOut 50 = .ok (.istore 4, 2) := by decide +kernel
theorem dX8_playLeftOut_52 : decode cX8_playLeftOut 52 = .ok (.iload 4, 2) := by decide +kernel
theorem dX8_playLeftOut_54 : decode cX8_playLeftOut 54 = .ok (.sipush 300, 3) := by decide +kernel
theorem dX8_playLeftOut_57 : decode cX8_playLeftOut 57 = .ok (.if_icmp .gt 108, 3) := by decide +kernel
theorem dX8_playLeftOut_60 : decode cX8_playLeftOut 60 = .ok (.iload_n 3, 1) := by decide +kernel
theorem dX8_playLeftOut_61 : decode cX8_playLeftOut 61 = .ok (.ifCond .le 21, 3) := by decide +kernel
theorem dX8_playLeftOut_64 : decode cX8_playLeftOut 64 = .ok (.iload 4, 2) := by decide +kernel
theorem dX8_playLeftOut_66 : decode cX8_playLeftOut 66 = .ok (.iload_n 3, 1) := by decide +kernel
theorem dX8_playLeftOut_67 : decode cX8_playLeftOut 67 = .ok (.if_icmp .lt 15, 3) := by decide +kernel
theorem dX8_playLeftOut_70 : decode cX8_playLeftOut 70 = .ok (.aload_n 0, 1) := by decide +kernel
theorem dX8_playLeftOut_71 : decode cX8_playLeftOut 71 = .ok (.getfield 67, 3) := by decide +kernel
theorem dX8_playLeftOut_74 : decode cX8_playLeftOut 74 = .ok (.iload 4, 2) := by decide +kernel
theorem dX8_playLeftOut_76 : decode cX8_playLeftOut 76 = .ok (.iload_n 3, 1) := by decide +kernel
theorem dX8_playLeftOut_77 : decode cX8_playLeftOut 77 = .ok (.isub, 1) := by decide +kernel
theorem dX8_playLeftOut_78 : decode cX8_playLeftOut 78 = .ok (.laload, 1) := by decide +kernel
theorem dX8_playLeftOut_79 : decode cX8_playLeftOut 79 = .ok (.goto 4, 3) := by decide +kernel
theorem dX8_playLeftOut_82 : decode cX8_playLeftOut 82 = .ok (.lconst 0, 1) := by decide +kernel
theorem dX8_playLeftOut_83 : decode cX8_playLeftOut 83 = .ok (.lstore 5, 2) := by decide +kernel
theorem dX8_playLeftOut_85 : decode cX8_playLeftOut 85 = .ok (.aload_n 0, 1) := by decide +kernel
theorem dX8_playLeftOut_86 : decode cX8_playLeftOut 86 = .ok (.getfield 48, 3) := by decide +kernel
theorem dX8_playLeftOut_89 : decode cX8_playLeftOut 89 = .ok (.iload 4, 2) := by decide +kernel
theorem dX8_playLeftOut_91 : decode cX8_playLeftOut 91 = .ok (.invokevirtual 134, 3) := by decide +kernel
theorem dX8_playLeftOut_94 : decode cX8_playLeftOut 94 = .ok (.lload 5, 2) := by decide +kernel
theorem dX8_playLeftOut_96 : decode cX8_playLeftOut 96 = .ok (.lsub, 1) := by decide +kernel
theorem dX8_playLeftOut_97 : decode cX8_playLeftOut 97 = .ok (.lstore 7, 2) := by decide +kernel
theorem dX8_playLeftOut_99 : decode cX8_playLeftOut 99 = .ok (.aload_n 0, 1) := by decide +kernel
theorem dX8_playLeftOut_100 : decode cX8_playLeftOut 100 = .ok (.getfield 67, 3) := by decide +kernel
theorem dX8_playLeftOut_103 : decode cX8_playLeftOut 103 = .ok (.iload 4, 2) := by decide +kernel
theorem dX8_playLeftOut_105 : decode cX8_playLeftOut 105 = .ok (.lload 7, 2) := by decide +kernel
theorem dX8_playLeftOut_107 : decode cX8_playLeftOut 107 = .ok (.lastore, 1) := by decide +kernel
theorem dX8_playLeftOut_108 : decode cX8_playLeftOut 108 = .ok (.lload 7, 2) := by decide +kernel
theorem dX8_playLeftOut_110 : decode cX8_playLeftOut 110 = .ok (.lconst 0, 1) := by decide +kernel
theorem dX8_playLeftOut_111 : decode cX8_playLeftOut 111 = .ok (.lcmp, 1) := by decide +kernel
theorem dX8_playLeftOut_112 : decode cX8_playLeftOut 112 = .ok (.ifCond .lt 45, 3) := by decide +kernel
theorem dX8_playLeftOut_115 : decode cX8_playLeftOut 115 = .ok (.lload 7, 2) := by decide +kernel
theorem dX8_playLeftOut_117 : decode cX8_playLeftOut 117 = .ok (.aload_n 0, 1) := by decide +kernel
theorem dX8_playLeftOut_118 : decode cX8_playLeftOut 118 = .ok (.getfield 52, 3) := by decide +kernel
theorem dX8_playLeftOut_121 : decode cX8_playLeftOut 121 = .ok (.iload 4, 2) := by decide +kernel
theorem dX8_playLeftOut_123 : decode cX8_playLeftOut 123 = .ok (.invokevirtual 134, 3) := by decide +kernel
theorem dX8_playLeftOut_126 : decode cX8_playLeftOut 126 = .ok (.lcmp, 1) := by decide +kernel
theorem dX8_playLeftOut_127 : decode cX8_playLeftOut 127 = .ok (.ifCond .ne 30, 3) := by decide +kernel
theorem dX8_playLeftOut_130 : decode cX8_playLeftOut 130 = .ok (.aload_n 0, 1) := by decide +kernel
theorem dX8_playLeftOut_131 : decode cX8_playLeftOut 131 = .ok (.getfield 28, 3) := by decide +kernel
theorem dX8_playLeftOut_134 : decode cX8_playLeftOut 134 = .ok (.getfield 115, 3) := by decide +kernel
theorem dX8_playLeftOut_137 : decode cX8_playLeftOut 137 = .ok (.iload 4, 2) := by decide +kernel
theorem dX8_playLeftOut_139 : decode cX8_playLeftOut 139 = .ok (.invokevirtual 118, 3) := by decide +kernel
theorem dX8_playLeftOut_142 : decode cX8_playLeftOut 142 = .ok (.lload 7, 2) := by decide +kernel
theorem dX8_playLeftOut_144 : decode cX8_playLeftOut 144 = .ok (.lconst 0, 1) := by decide +kernel
theorem dX8_playLeftOut_145 : decode cX8_playLeftOut 145 = .ok (.lcmp, 1) := by decide +kernel
theorem dX8_playLeftOut_146 : decode cX8_playLeftOut 146 = .ok (.ifCond .le 7, 3) := by decide +kernel
theorem dX8_playLeftOut_149 : decode cX8_playLeftOut 149 = .ok (.iconst 1, 1) := by decide +kernel
theorem dX8_playLeftOut_150 : decode cX8_playLeftOut 150 = .ok (.goto 4, 3) := by decide +kernel
theorem dX8_playLeftOut_153 : decode cX8_playLeftOut 153 = .ok (.iconst 0, 1) := by decide +kernel
theorem dX8_playLeftOut_154 : decode cX8_playLeftOut 154 = .ok (.if_icmp .eq 5, 3) := by decide +kernel
theorem dX8_playLeftOut_157 : decode cX8_playLeftOut 157 = .ok (.iconst 0, 1) := by decide +kernel
theorem dX8_playLeftOut_158 : decode cX8_playLeftOut 158 = .ok (.ireturn, 1) := by decide +kernel
theorem dX8_playLeftOut_159 : decode cX8_playLeftOut 159 = .ok (.iinc 4 1, 3) := by decide +kernel
theorem dX8_playLeftOut_162 : decode cX8_playLeftOut 162 = .ok (.goto (-110), 3) := by decide +kernel
theorem dX8_playLeftOut_165 : decode cX8_playLeftOut 165 = .ok (.iconst 1, 1) := by decide +kernel
theorem dX8_playLeftOut_166 : decode cX8_playLeftOut 166 = .ok (.ireturn, 1) := by decide +kernel
set_option maxRecDepth 20000 in
theorem ggX8_playParts_X3_pick : GoodIn wsX8_playParts wsX3_pick := goodIn_r _ [7, 8, 9, 10, 11, 6, 12, 13, 14, 15, 16, 17, 18, 19, 20, 21, 22, 23, 24, 25, 183, 184] (by decide +kernel) (by decide +kernel)
set_option maxRecDepth 20000 in
theorem gX8_playParts_X3_pick : GoodIn wsX8_playParts (wsV RX8 95 RX3 yX3_pick wsX3_pick) := goodIn_app (goodIn_of _ (by decide +kernel)) ggX8_playParts_X3_pick
set_option maxRecDepth 20000 in
theorem ggX8_playParts_X8_arePartsJoined : GoodIn wsX8_playParts wsX8_arePartsJoined := goodIn_r _ [30, 31, 32, 1, 33, 2, 34, 35, 36, 37, 38, 39, 40, 41, 42, 43, 44, 45, 46, 47, 14, 15, 6, 16, 17, 18, 19, 20, 21, 8, 48, 49, 50, 51, 52, 53, 54, 55, 56, 57, 58, 59, 60, 61, 62, 63, 64, 65, 66, 67, 68, 69, 70, 71, 72, 73, 74, 75, 76, 77, 78, 79, 80, 81, 82, 83, 84, 85, 86, 87, 88, 89, 90, 91, 92, 93, 94, 95, 96, 97, 98, 99, 100, 101, 102, 103, 104, 105, 106, 107, 108, 109, 110, 111, 112, 113, 114, 115, 116, 117, 118, 119, 120, 121, 122, 123, 124, 125, 172, 173, 174, 175, 176, 177, 178, 179, 180, 181, 182, 185, 186, 183, 184, 187, 188, 189, 190, 191, 192] (by decide +kernel) (by decide +kernel)
set_option maxRecDepth 20000 in
theorem gX8_playParts_X8_arePartsJoined : GoodIn wsX8_playParts (wsV RX8 137 RX8 yX8_arePartsJoined wsX8_arePartsJoined) := goodIn_app (goodIn_of _ (by decide +kernel)) ggX8_playParts_X8_arePartsJoined
set_option maxRecDepth 20000 in
theorem ggX8_playParts_X8_arePartsCounted : GoodIn wsX8_playParts wsX8_arePartsCounted := goodIn_r _ [129, 130, 131, 1, 132, 2, 133, 134, 135, 136, 137, 138, 139, 140, 141, 42, 43, 44, 45, 46, 142, 14, 15, 6, 16, 17, 18, 19, 20, 21, 8, 143, 144, 145, 146, 52, 147, 53, 54, 55, 56, 57, 58, 59, 60, 148, 149, 150, 151, 152, 153, 154, 29, 155, 156, 101, 102, 103, 157, 158, 159, 160, 161, 162, 163, 164, 165, 166, 167, 13, 168, 169, 170, 171, 172, 173, 174, 175, 176, 177, 178, 179, 180, 181, 182, 193, 194, 183, 184, 187, 188] (by decide +kernel) (by decide +kernel)
set_option maxRecDepth 20000 in
theorem gX8_playParts_X8_arePartsCounted : GoodIn wsX8_playParts (wsV RX8 140 RX8 yX8_arePartsCounted wsX8_arePartsCounted) := goodIn_app (goodIn_of _ (by decide +kernel)) ggX8_playParts_X8_arePartsCounted
theorem dX8_playParts_0 : decode cX8_playParts 0 = .ok (.aload_n 0, 1) := by decide +kernel
theorem dX8_playParts_1 : decode cX8_playParts 1 = .ok (.getfield 12, 3) := by decide +kernel
theorem dX8_playParts_4 : decode cX8_playParts 4 = .ok (.aload_n 1, 1) := by decide +kernel
theorem dX8_playParts_5 : decode cX8_playParts 5 = .ok (.iload_n 2, 1) := by decide +kernel
theorem dX8_playParts_6 : decode cX8_playParts 6 = .ok (.invokevirtual 95, 3) := by decide +kernel
theorem dX8_playParts_9 : decode cX8_playParts 9 = .ok (.aload_n 0, 1) := by decide +kernel
theorem dX8_playParts_10 : decode cX8_playParts 10 = .ok (.getfield 18, 3) := by decide +kernel
theorem dX8_playParts_13 : decode cX8_playParts 13 = .ok (.aload_n 1, 1) := by decide +kernel
theorem dX8_playParts_14 : decode cX8_playParts 14 = .ok (.iload_n 2, 1) := by decide +kernel
theorem dX8_playParts_15 : decode cX8_playParts 15 = .ok (.iconst (-1), 1) := by decide +kernel
theorem dX8_playParts_16 : decode cX8_playParts 16 = .ok (.ixor, 1) := by decide +kernel
theorem dX8_playParts_17 : decode cX8_playParts 17 = .ok (.invokevirtual 95, 3) := by decide +kernel
theorem dX8_playParts_20 : decode cX8_playParts 20 = .ok (.aload_n 0, 1) := by decide +kernel
theorem dX8_playParts_21 : decode cX8_playParts 21 = .ok (.aload_n 1, 1) := by decide +kernel
theorem dX8_playParts_22 : decode cX8_playParts 22 = .ok (.invokevirtual 137, 3) := by decide +kernel
theorem dX8_playParts_25 : decode cX8_playParts 25 = .ok (.ifCond .eq 15, 3) := by decide +kernel
theorem dX8_playParts_28 : decode cX8_playParts 28 = .ok (.aload_n 0, 1) := by decide +kernel
theorem dX8_playParts_29 : decode cX8_playParts 29 = .ok (.aload_n 1, 1) := by decide +kernel
theorem dX8_playParts_30 : decode cX8_playParts 30 = .ok (.invokevirtual 140, 3) := by decide +kernel
theorem dX8_playParts_33 : decode cX8_playParts 33 = .ok (.ifCond .eq 7, 3) := by decide +kernel
theorem dX8_playParts_36 : decode cX8_playParts 36 = .ok (.iconst 1, 1) := by decide +kernel
theorem dX8_playParts_37 : decode cX8_playParts 37 = .ok (.goto 4, 3) := by decide +kernel
theorem dX8_playParts_40 : decode cX8_playParts 40 = .ok (.iconst 0, 1) := by decide +kernel
theorem dX8_playParts_41 : decode cX8_playParts 41 = .ok (.ireturn, 1) := by decide +kernel
set_option maxRecDepth 20000 in
theorem ggX8_arePartsJoined_X6_fillOnce : GoodIn wsX8_arePartsJoined wsX6_fillOnce := goodIn_r _ [11, 12, 13, 14, 15, 16, 17, 18, 19, 20, 21, 22, 23, 24, 25, 26, 27, 28, 29, 30, 31, 32, 33, 34, 35, 36, 37, 38, 39, 40, 41, 42, 119, 120, 121, 122, 123, 124] (by decide +kernel) (by decide +kernel)
set_option maxRecDepth 20000 in
theorem gX8_arePartsJoined_X6_fillOnce : GoodIn wsX8_arePartsJoined (wsV RX8 131 RX6 yX6_fillOnce wsX6_fillOnce) := goodIn_app (goodIn_of _ (by decide +kernel)) ggX8_arePartsJoined_X6_fillOnce
set_option maxRecDepth 20000 in
theorem ggX8_arePartsJoined_X7_fill : GoodIn wsX8_arePartsJoined wsX7_fill := goodIn_r _ [48, 49, 50, 51, 52, 53, 54, 55, 56, 57, 58, 59, 60, 61, 62, 63, 64, 65, 66, 67, 68, 69, 70, 71, 20, 21, 22, 23, 24, 25, 26, 27, 28, 29, 72, 73, 74, 75, 47, 76, 77, 78, 79, 80, 81, 82, 83, 84, 85, 86, 87, 88, 89, 90, 91, 92, 93, 94, 95, 96, 97, 121, 122, 125, 126, 127, 128] (by decide +kernel) (by decide +kernel)
set_option maxRecDepth 20000 in
theorem gX8_arePartsJoined_X7_fill_u110X5 : GoodIn wsX8_arePartsJoined (va_wsU RX8 110 RX5 "Sumhoard$SumRow" ⟨"Sumhoard$SetRow", "fill", "(LSumhoard$Hoard;Z)V"⟩ yX7_fill wsX7_fill) := goodIn_app (goodIn_of _ (by decide +kernel)) ggX8_arePartsJoined_X7_fill
set_option maxRecDepth 20000 in
theorem ggX8_arePartsJoined_X0_become : GoodIn wsX8_arePartsJoined wsX0_become := goodIn_r _ [17, 18, 123, 124] (by decide +kernel) (by decide +kernel)
set_option maxRecDepth 20000 in
theorem gX8_arePartsJoined_X0_become : GoodIn wsX8_arePartsJoined (wsV RX8 143 RX0 yX0_become wsX0_become) := goodIn_app (goodIn_of _ (by decide +kernel)) ggX8_arePartsJoined_X0_become
set_option maxRecDepth 20000 in
theorem ggX8_arePartsJoined_X5_isSet : GoodIn wsX8_arePartsJoined wsX5_isSet := goodIn_r _ [102, 65, 127] (by decide +kernel) (by decide +kernel)
set_option maxRecDepth 20000 in
theorem gX8_arePartsJoined_X5_isSet : GoodIn wsX8_arePartsJoined (wsV RX8 121 RX5 yX5_isSet wsX5_isSet) := goodIn_app (goodIn_of _ (by decide +kernel)) ggX8_arePartsJoined_X5_isSet
set_option maxRecDepth 20000 in
theorem ggX8_arePartsJoined_X0_or : GoodIn wsX8_arePartsJoined wsX0_or := goodIn_r _ [33, 18, 34, 35, 36, 37, 16, 38, 39, 40, 41, 42, 123, 124] (by decide +kernel) (by decide +kernel)
set_option maxRecDepth 20000 in
theorem gX8_arePartsJoined_X0_or : GoodIn wsX8_arePartsJoined (wsV RX8 146 RX0 yX0_or wsX0_or) := goodIn_app (goodIn_of _ (by decide +kernel)) ggX8_arePartsJoined_X0_or
set_option maxRecDepth 20000 in
theorem ggX8_arePartsJoined_X0_hasBitsOf : GoodIn wsX8_arePartsJoined wsX0_hasBitsOf := goodIn_r _ [107, 18, 39, 40, 41, 16, 42, 123, 124] (by decide +kernel) (by decide +kernel)
set_option maxRecDepth 20000 in
theorem gX8_arePartsJoined_X0_hasBitsOf : GoodIn wsX8_arePartsJoined (wsV RX8 150 RX0 yX0_hasBitsOf wsX0_hasBitsOf) := goodIn_app (goodIn_of _ (by decide +kernel)) ggX8_arePartsJoined_X0_hasBitsOf
theorem dX8_arePartsJoined_0 : decode cX8_arePartsJoined 0 = .ok (.aload_n 0, 1) := by decide +kernel
theorem dX8_arePartsJoined_1 : decode cX8_arePartsJoined 1 = .ok (.getfield 24, 3) := by decide +kernel
theorem dX8_arePartsJoined_4 : decode cX8_arePartsJoined 4 = .ok (.aload_n 1, 1) := by decide +kernel
theorem dX8_arePartsJoined_5 : decode cX8_arePartsJoined 5 = .ok (.invokevirtual 131, 3) := by decide +kernel
theorem dX8_arePartsJoined_8 : decode cX8_arePartsJoined 8 = .ok (.aload_n 0, 1) := by decide +kernel
theorem dX8_arePartsJoined_9 : decode cX8_arePartsJoined 9 = .ok (.getfield 28, 3) := by decide +kernel
theorem dX8_arePartsJoined_12 : decode cX8_arePartsJoined 12 = .ok (.aload_n 0, 1) := by decide +kernel
theorem dX8_arePartsJoined_13 : decode cX8_arePartsJoined 13 = .ok (.getfield 12, 3) := by decide +kernel
theorem dX8_arePartsJoined_16 : decode cX8_arePartsJoined 16 = .ok (.invokevirtual 131, 3) := by decide +kernel
theorem dX8_arePartsJoined_19 : decode cX8_arePartsJoined 19 = .ok (.aload_n 0, 1) := by decide +kernel
theorem dX8_arePartsJoined_20 : decode cX8_arePartsJoined 20 = .ok (.getfield 34, 3) := by decide +kernel
theorem dX8_arePartsJoined_23 : decode cX8_arePartsJoined 23 = .ok (.aload_n 0, 1) := by decide +kernel
theorem dX8_arePartsJoined_24 : decode cX8_arePartsJoined 24 = .ok (.getfield 18, 3) := by decide +kernel
theorem dX8_arePartsJoined_27 : decode cX8_arePartsJoined 27 = .ok (.iconst 0, 1) := by decide +kernel
theorem dX8_arePartsJoined_28 : decode cX8_arePartsJoined 28 = .ok (.invokevirtual 110, 3) := by decide +kernel
theorem dX8_arePartsJoined_31 : decode cX8_arePartsJoined 31 = .ok (.aload_n 0, 1) := by decide +kernel
theorem dX8_arePartsJoined_32 : decode cX8_arePartsJoined 32 = .ok (.getfield 63, 3) := by decide +kernel
theorem dX8_arePartsJoined_35 : decode cX8_arePartsJoined 35 = .ok (.iconst 0, 1) := by decide +kernel
theorem dX8_arePartsJoined_36 : decode cX8_arePartsJoined 36 = .ok (.invokevirtual 143, 3) := by decide +kernel
theorem dX8_arePartsJoined_39 : decode cX8_arePartsJoined 39 = .ok (.iconst 0, 1) := by decide +kernel
theorem dX8_arePartsJoined_40 : decode cX8_arePartsJoined 40 = .ok (.istore_n 2, 1) := by decide +kernel
theorem dX8_arePartsJoined_41 : decode cX8_arePartsJoined 41 = .ok (.iload_n 2, 1) := by decide +kernel
theorem dX8_arePartsJoined_42 : decode cX8_arePartsJoined 42 = .ok (.sipush 300, 3) := by decide +kernel
theorem dX8_arePartsJoined_45 : decode cX8_arePartsJoined 45 = .ok (.if_icmp .gt 35, 3) := by decide +kernel
theorem dX8_arePartsJoined_48 : decode cX8_arePartsJoined 48 = .ok (.aload_n 0, 1) := by decide +kernel
theorem dX8_arePartsJoined_49 : decode cX8_arePartsJoined 49 = .ok (.getfield 34, 3) := by decide +kernel
theorem dX8_arePartsJoined_52 : decode cX8_arePartsJoined 52 = .ok (.iload_n 2, 1) := by decide +kernel
theorem dX8_arePartsJoined_53 : decode cX8_arePartsJoined 53 = .ok (.invokevirtual 121, 3) := by decide +kernel
theorem dX8_arePartsJoined_56 : decode cX8_arePartsJoined 56 = .ok (.ifCond .eq 18, 3) := by decide +kernel
theorem dX8_arePartsJoined_59 : decode cX8_arePartsJoined 59 = .ok (.aload_n 0, 1) := by decide +kernel
theorem dX8_arePartsJoined_60 : decode cX8_arePartsJoined 60 = .ok (.getfield 63, 3) := by decide +kernel
theorem dX8_arePartsJoined_63 : decode cX8_arePartsJoined 63 = .ok (.aload_n 0, 1) := by decide +kernel
theorem dX8_arePartsJoined_64 : decode cX8_arePartsJoined 64 = .ok (.getfield 28, 3) := by decide +kernel
theorem dX8_arePartsJoined_67 : decode cX8_arePartsJoined 67 = .ok (.getfield 115, 3) := by decide +kernel
theorem dX8_arePartsJoined_70 : decode cX8_arePartsJoined 70 = .ok (.iload_n 2, 1) := by decide +kernel
theorem dX8_arePartsJoined_71 : decode cX8_arePartsJoined 71 = .ok (.invokevirtual 146, 3) := by decide +kernel
theorem dX8_arePartsJoined_74 : decode cX8_arePartsJoined 74 = .ok (.iinc 2 1, 3) := by decide +kernel
theorem dX8_arePartsJoined_77 : decode cX8_arePartsJoined 77 = .ok (.goto (-36), 3) := by decide +kernel
theorem dX8_arePartsJoined_80 : decode cX8_arePartsJoined 80 = .ok (.aload_n 0, 1) := by decide +kernel
theorem dX8_arePartsJoined_81 : decode cX8_arePartsJoined 81 = .ok (.getfield 63, 3) := by decide +kernel
theorem dX8_arePartsJoined_84 : decode cX8_arePartsJoined 84 = .ok (.aload_n 0, 1) := by decide +kernel
theorem dX8_arePartsJoined_85 : decode cX8_arePartsJoined 85 = .ok (.getfield 24, 3) := by decide +kernel
theorem dX8_arePartsJoined_88 : decode cX8_arePartsJoined 88 = .ok (.getfield 115, 3) := by decide +kernel
theorem dX8_arePartsJoined_91 : decode cX8_arePartsJoined 91 = .ok (.invokevirtual 150, 3) := by decide +kernel
theorem dX8_arePartsJoined_94 : decode cX8_arePartsJoined 94 = .ok (.ireturn, 1) := by decide +kernel
set_option maxRecDepth 20000 in
theorem ggX8_arePartsCounted_X1_fill : GoodIn wsX8_arePartsCounted wsX1_fill := goodIn_r _ [10, 11, 12, 13, 14, 15, 16, 17, 18, 19, 20, 21, 22, 23, 24, 25, 26, 27, 28, 29, 30, 31, 32, 33, 34, 35, 36, 37, 38, 39, 40, 41, 42, 43, 44, 45, 46, 47, 48, 85, 86, 87, 88, 89, 90] (by decide +kernel) (by decide +kernel)
set_option maxRecDepth 20000 in
theorem gX8_arePartsCounted_X1_fill : GoodIn wsX8_arePartsCounted (wsV RX8 129 RX1 yX1_fill wsX1_fill) := goodIn_app (goodIn_of _ (by decide +kernel)) ggX8_arePartsCounted_X1_fill
set_option maxRecDepth 20000 in
theorem ggX8_arePartsCounted_X8_pairsOf : GoodIn wsX8_arePartsCounted wsX8_pairsOf := goodIn_r _ [53, 3, 54, 55, 56, 57, 5, 58, 59, 60, 2, 4, 61, 62, 63, 23, 64, 65, 66, 67, 68, 30, 69, 21, 22, 24, 25, 26, 27, 28, 29, 70, 71, 72, 9, 73, 12, 74, 75, 76, 77, 78, 79, 80, 81, 82, 83, 84, 87, 88, 85, 86] (by decide +kernel) (by decide +kernel)
set_option maxRecDepth 20000 in
theorem gX8_arePartsCounted_X8_pairsOf : GoodIn wsX8_arePartsCounted (wsV RX8 154 RX8 yX8_pairsOf wsX8_pairsOf) := goodIn_app (goodIn_of _ (by decide +kernel)) ggX8_arePartsCounted_X8_pairsOf
set_option maxRecDepth 20000 in
theorem ggX8_arePartsCounted_X1_countOf : GoodIn wsX8_arePartsCounted wsX1_countOf := goodIn_r _ [73, 12, 85, 86] (by decide +kernel) (by decide +kernel)
set_option maxRecDepth 20000 in
theorem gX8_arePartsCounted_X1_countOf : GoodIn wsX8_arePartsCounted (wsV RX8 134 RX1 yX1_countOf wsX1_countOf) := goodIn_app (goodIn_of _ (by decide +kernel)) ggX8_arePartsCounted_X1_countOf
theorem dX8_arePartsCounted_0 : decode cX8_arePartsCounted 0 = .ok (.aload_n 0, 1) := by decide +kernel
theorem dX8_arePartsCounted_1 : decode cX8_arePartsCounted 1 = .ok (.getfield 48, 3) := by decide +kernel
theorem dX8_arePartsCounted_4 : decode cX8_arePartsCounted 4 = .ok (.aload_n 1, 1) := by decide +kernel
theorem dX8_arePartsCounted_5 : decode cX8_arePartsCounted 5 = .ok (.invokevirtual 129, 3) := by decide +kernel
theorem dX8_arePartsCounted_8 : decode cX8_arePartsCounted 8 = .ok (.aload_n 0, 1) := by decide +kernel
theorem dX8_arePartsCounted_9 : decode cX8_arePartsCounted 9 = .ok (.getfield 52, 3) := by decide +kernel
theorem dX8_arePartsCounted_12 : decode cX8_arePartsCounted 12 = .ok (.aload_n 0, 1) := by decide +kernel
theorem dX8_arePartsCounted_13 : decode cX8_arePartsCounted 13 = .ok (.getfield 12, 3) := by decide +kernel
theorem dX8_arePartsCounted_16 : decode cX8_arePartsCounted 16 = .ok (.invokevirtual 129, 3) := by decide +kernel
theorem dX8_arePartsCounted_19 : decode cX8_arePartsCounted 19 = .ok (.aload_n 0, 1) := by decide +kernel
theorem dX8_arePartsCounted_20 : decode cX8_arePartsCounted 20 = .ok (.getfield 55, 3) := by decide +kernel
theorem dX8_arePartsCounted_23 : decode cX8_arePartsCounted 23 = .ok (.aload_n 0, 1) := by decide +kernel
theorem dX8_arePartsCounted_24 : decode cX8_arePartsCounted 24 = .ok (.getfield 18, 3) := by decide +kernel
theorem dX8_arePartsCounted_27 : decode cX8_arePartsCounted 27 = .ok (.invokevirtual 129, 3) := by decide +kernel
theorem dX8_arePartsCounted_30 : decode cX8_arePartsCounted 30 = .ok (.iconst 0, 1) := by decide +kernel
theorem dX8_arePartsCounted_31 : decode cX8_arePartsCounted 31 = .ok (.istore_n 2, 1) := by decide +kernel
theorem dX8_arePartsCounted_32 : decode cX8_arePartsCounted 32 = .ok (.iload_n 2, 1) := by decide +kernel
theorem dX8_arePartsCounted_33 : decode cX8_arePartsCounted 33 = .ok (.sipush 300, 3) := by decide +kernel
theorem dX8_arePartsCounted_36 : decode cX8_arePartsCounted 36 = .ok (.if_icmp .gt 28, 3) := by decide +kernel
theorem dX8_arePartsCounted_39 : decode cX8_arePartsCounted 39 = .ok (.aload_n 0, 1) := by decide +kernel
theorem dX8_arePartsCounted_40 : decode cX8_arePartsCounted 40 = .ok (.iload_n 2, 1) := by decide +kernel
theorem dX8_arePartsCounted_41 : decode cX8_arePartsCounted 41 = .ok (.invokevirtual 154, 3) := by decide +kernel
theorem dX8_arePartsCounted_44 : decode cX8_arePartsCounted 44 = .ok (.aload_n 0, 1) := by decide +kernel
theorem dX8_arePartsCounted_45 : decode cX8_arePartsCounted 45 = .ok (.getfield 48, 3) := by decide +kernel
theorem dX8_arePartsCounted_48 : decode cX8_arePartsCounted 48 = .ok (.iload_n 2, 1) := by decide +kernel
theorem dX8_arePartsCounted_49 : decode cX8_arePartsCounted 49 = .ok (.invokevirtual 134, 3) := by decide +kernel
theorem dX8_arePartsCounted_52 : decode cX8_arePartsCounted 52 = .ok (.lcmp, 1) := by decide +kernel
theorem dX8_arePartsCounted_53 : decode cX8_arePartsCounted 53 = .ok (.ifCond .eq 5, 3) := by decide +kernel
theorem dX8_arePartsCounted_56 : decode cX8_arePartsCounted 56 = .ok (.iconst 0, 1) := by decide +kernel
theorem dX8_arePartsCounted_57 : decode cX8_arePartsCounted 57 = .ok (.ireturn, 1) := by decide +kernel
theorem dX8_arePartsCounted_58 : decode cX8_arePartsCounted 58 = .ok (.iinc 2 1, 3) := by decide +kernel
theorem dX8_arePartsCounted_61 : decode cX8_arePartsCounted 61 = .ok (.goto (-29), 3) := by decide +kernel
theorem dX8_arePartsCounted_64 : decode cX8_arePartsCounted 64 = .ok (.iconst 1, 1) := by decide +kernel
theorem dX8_arePartsCounted_65 : decode cX8_arePartsCounted 65 = .ok (.ireturn, 1) := by decide +kernel
set_option maxRecDepth 20000 in
theorem ggX8_pairsOf_X3_sumOfAll : GoodIn wsX8_pairsOf wsX3_sumOfAll := goodIn_r _ [16, 17, 18, 19, 15, 20, 21, 22, 23, 24, 25, 26, 27, 28, 29, 30, 48, 49] (by decide +kernel) (by decide +kernel)
set_option maxRecDepth 20000 in
theorem gX8_pairsOf_X3_sumOfAll : GoodIn wsX8_pairsOf (wsV RX8 87 RX3 yX3_sumOfAll wsX3_sumOfAll) := goodIn_app (goodIn_of _ (by decide +kernel)) ggX8_pairsOf_X3_sumOfAll
set_option maxRecDepth 20000 in
theorem ggX8_pairsOf_X1_countOf : GoodIn wsX8_pairsOf wsX1_countOf := goodIn_r _ [35, 36, 50, 51] (by decide +kernel) (by decide +kernel)
set_option maxRecDepth 20000 in
theorem gX8_pairsOf_X1_countOf : GoodIn wsX8_pairsOf (wsV RX8 134 RX1 yX1_countOf wsX1_countOf) := goodIn_app (goodIn_of _ (by decide +kernel)) ggX8_pairsOf_X1_countOf
theorem dX8_pairsOf_0 : decode cX8_pairsOf 0 = .ok (.lconst 0, 1) := by decide +kernel
theorem dX8_pairsOf_1 : decode cX8_pairsOf 1 = .ok (.lstore_n 2, 1) := by decide +kernel
theorem dX8_pairsOf_2 : decode cX8_pairsOf 2 = .ok (.iload_n 1, 1) := by decide +kernel
theorem dX8_pairsOf_3 : decode cX8_pairsOf 3 = .ok (.aload_n 0, 1) := by decide +kernel
theorem dX8_pairsOf_4 : decode cX8_pairsOf 4 = .ok (.getfield 12, 3) := by decide +kernel
theorem dX8_pairsOf_7 : decode cX8_pairsOf 7 = .ok (.invokevirtual 87, 3) := by decide +kernel
theorem dX8_pairsOf_10 : decode cX8_pairsOf 10 = .ok (.invokestatic 157, 3) := by decide +kernel
theorem dX8_pairsOf_13 : decode cX8_pairsOf 13 = .ok (.istore 4, 2) := by decide +kernel
theorem dX8_pairsOf_15 : decode cX8_pairsOf 15 = .ok (.iconst 0, 1) := by decide +kernel
theorem dX8_pairsOf_16 : decode cX8_pairsOf 16 = .ok (.iload_n 1, 1) := by decide +kernel
theorem dX8_pairsOf_17 : decode cX8_pairsOf 17 = .ok (.aload_n 0, 1) := by decide +kernel
theorem dX8_pairsOf_18 : decode cX8_pairsOf 18 = .ok (.getfield 18, 3) := by decide +kernel
theorem dX8_pairsOf_21 : decode cX8_pairsOf 21 = .ok (.invokevirtual 87, 3) := by decide +kernel
theorem dX8_pairsOf_24 : decode cX8_pairsOf 24 = .ok (.isub, 1) := by decide +kernel
theorem dX8_pairsOf_25 : decode cX8_pairsOf 25 = .ok (.invokestatic 163, 3) := by decide +kernel
theorem dX8_pairsOf_28 : decode cX8_pairsOf 28 = .ok (.istore 5, 2) := by decide +kernel
theorem dX8_pairsOf_30 : decode cX8_pairsOf 30 = .ok (.iload 5, 2) := by decide +kernel
theorem dX8_pairsOf_32 : decode cX8_pairsOf 32 = .ok (.iload 4, 2) := by decide +kernel
theorem dX8_pairsOf_34 : decode cX8_pairsOf 34 = .ok (.if_icmp .gt 33, 3) := by decide +kernel
theorem dX8_pairsOf_37 : decode cX8_pairsOf 37 = .ok (.lload_n 2, 1) := by decide +kernel
theorem dX8_pairsOf_38 : decode cX8_pairsOf 38 = .ok (.aload_n 0, 1) := by decide +kernel
theorem dX8_pairsOf_39 : decode cX8_pairsOf 39 = .ok (.getfield 52, 3) := by decide +kernel
theorem dX8_pairsOf_42 : decode cX8_pairsOf 42 = .ok (.iload 5, 2) := by decide +kernel
theorem dX8_pairsOf_44 : decode cX8_pairsOf 44 = .ok (.invokevirtual 134, 3) := by decide +kernel
theorem dX8_pairsOf_47 : decode cX8_pairsOf 47 = .ok (.aload_n 0, 1) := by decide +kernel
theorem dX8_pairsOf_48 : decode cX8_pairsOf 48 = .ok (.getfield 55, 3) := by decide +kernel
theorem dX8_pairsOf_51 : decode cX8_pairsOf 51 = .ok (.iload_n 1, 1) := by decide +kernel
theorem dX8_pairsOf_52 : decode cX8_pairsOf 52 = .ok (.iload 5, 2) := by decide +kernel
theorem dX8_pairsOf_54 : decode cX8_pairsOf 54 = .ok (.isub, 1) := by decide +kernel
theorem dX8_pairsOf_55 : decode cX8_pairsOf 55 = .ok (.invokevirtual 134, 3) := by decide +kernel
theorem dX8_pairsOf_58 : decode cX8_pairsOf 58 = .ok (.lmul, 1) := by decide +kernel
theorem dX8_pairsOf_59 : decode cX8_pairsOf 59 = .ok (.ladd, 1) := by decide +kernel
theorem dX8_pairsOf_60 : decode cX8_pairsOf 60 = .ok (.lstore_n 2, 1) := by decide +kernel
theorem dX8_pairsOf_61 : decode cX8_pairsOf 61 = .ok (.iinc 5 1, 3) := by decide +kernel
theorem dX8_pairsOf_64 : decode cX8_pairsOf 64 = .ok (.goto (-34), 3) := by decide +kernel
theorem dX8_pairsOf_67 : decode cX8_pairsOf 67 = .ok (.lload_n 2, 1) := by decide +kernel
theorem dX8_pairsOf_68 : decode cX8_pairsOf 68 = .ok (.lreturn, 1) := by decide +kernel
set_option maxRecDepth 20000 in
theorem ggX8_areRowsAsFound_X6_fillOnce : GoodIn wsX8_areRowsAsFound wsX6_fillOnce := goodIn_r _ [9, 10, 11, 12, 13, 14, 15, 16, 17, 18, 19, 20, 21, 22, 23, 24, 25, 26, 27, 28, 29, 30, 31, 32, 33, 34, 35, 36, 37, 38, 39, 40, 168, 169, 170, 171, 172, 173] (by decide +kernel) (by decide +kernel)
set_option maxRecDepth 20000 in
theorem gX8_areRowsAsFound_X6_fillOnce : GoodIn wsX8_areRowsAsFound (wsV RX8 131 RX6 yX6_fillOnce wsX6_fillOnce) := goodIn_app (goodIn_of _ (by decide +kernel)) ggX8_areRowsAsFound_X6_fillOnce
set_option maxRecDepth 20000 in
theorem ggX8_areRowsAsFound_X7_fill : GoodIn wsX8_areRowsAsFound wsX7_fill := goodIn_r _ [46, 47, 48, 49, 50, 51, 52, 53, 54, 55, 56, 57, 58, 59, 60, 61, 62, 63, 64, 65, 66, 67, 68, 69, 18, 19, 20, 21, 22, 23, 24, 25, 26, 27, 70, 71, 72, 73, 45, 74, 75, 76, 77, 78, 79, 80, 81, 82, 83, 84, 85, 86, 87, 88, 89, 90, 91, 92, 93, 94, 95, 170, 171, 174, 175, 176, 177] (by decide +kernel) (by decide +kernel)
set_option maxRecDepth 20000 in
theorem gX8_areRowsAsFound_X7_fill_u110X5 : GoodIn wsX8_areRowsAsFound (va_wsU RX8 110 RX5 "Sumhoard$SumRow" ⟨"Sumhoard$SetRow", "fill", "(LSumhoard$Hoard;Z)V"⟩ yX7_fill wsX7_fill) := goodIn_app (goodIn_of _ (by decide +kernel)) ggX8_areRowsAsFound_X7_fill
set_option maxRecDepth 20000 in
theorem ggX8_areRowsAsFound_X1_fill : GoodIn wsX8_areRowsAsFound wsX1_fill := goodIn_r _ [100, 101, 102, 103, 104, 12, 13, 14, 15, 16, 105, 18, 19, 20, 21, 22, 23, 24, 25, 26, 27, 106, 107, 108, 109, 32, 110, 33, 34, 35, 36, 37, 38, 39, 40, 111, 112, 113, 114, 178, 179, 170, 171, 172, 173] (by decide +kernel) (by decide +kernel)
set_option maxRecDepth 20000 in
theorem gX8_areRowsAsFound_X1_fill : GoodIn wsX8_areRowsAsFound (wsV RX8 129 RX1 yX1_fill wsX1_fill) := goodIn_app (goodIn_of _ (by decide +kernel)) ggX8_areRowsAsFound_X1_fill
set_option maxRecDepth 20000 in
theorem ggX8_areRowsAsFound_X0_isSet : GoodIn wsX8_areRowsAsFound wsX0_isSet := goodIn_r _ [118, 37, 38, 39, 14, 40, 16, 172, 173] (by decide +kernel) (by decide +kernel)
set_option maxRecDepth 20000 in
theorem gX8_areRowsAsFound_X0_isSet : GoodIn wsX8_areRowsAsFound (wsV RX8 118 RX0 yX0_isSet wsX0_isSet) := goodIn_app (goodIn_of _ (by decide +kernel)) ggX8_areRowsAsFound_X0_isSet
set_option maxRecDepth 20000 in
theorem ggX8_areRowsAsFound_X5_isSet : GoodIn wsX8_areRowsAsFound wsX5_isSet := goodIn_r _ [122, 63, 176] (by decide +kernel) (by decide +kernel)
set_option maxRecDepth 20000 in
theorem gX8_areRowsAsFound_X5_isSet : GoodIn wsX8_areRowsAsFound (wsV RX8 121 RX5 yX5_isSet wsX5_isSet) := goodIn_app (goodIn_of _ (by decide +kernel)) ggX8_areRowsAsFound_X5_isSet
set_option maxRecDepth 20000 in
theorem ggX8_areRowsAsFound_X1_countOf : GoodIn wsX8_areRowsAsFound wsX1_countOf := goodIn_r _ [126, 102, 178, 179] (by decide +kernel) (by decide +kernel)
set_option maxRecDepth 20000 in
theorem gX8_areRowsAsFound_X1_countOf : GoodIn wsX8_areRowsAsFound (wsV RX8 134 RX1 yX1_countOf wsX1_countOf) := goodIn_app (goodIn_of _ (by decide +kernel)) ggX8_areRowsAsFound_X1_countOf
set_option maxRecDepth 20000 in
theorem ggX8_areRowsAsFound_X8_areSetsTold : GoodIn wsX8_areRowsAsFound wsX8_areSetsTold := goodIn_r _ [131, 1, 2, 132, 133, 134, 14, 135, 16, 136, 137, 138, 139, 140, 141, 142, 143, 144, 145, 61, 146, 63, 147, 148, 149, 150, 151, 116, 117, 118, 37, 38, 39, 40, 152, 153, 154, 155, 156, 120, 121, 122, 157, 158, 159, 160, 161, 162, 163, 164, 165, 166, 167, 168, 169, 172, 173, 176] (by decide +kernel) (by decide +kernel)
set_option maxRecDepth 20000 in
theorem gX8_areRowsAsFound_X8_areSetsTold : GoodIn wsX8_areRowsAsFound (wsV RX8 122 RX8 yX8_areSetsTold wsX8_areSetsTold) := goodIn_app (goodIn_of _ (by decide +kernel)) ggX8_areRowsAsFound_X8_areSetsTold
theorem dX8_areRowsAsFound_0 : decode cX8_areRowsAsFound 0 = .ok (.aload_n 0, 1) := by decide +kernel
theorem dX8_areRowsAsFound_1 : decode cX8_areRowsAsFound 1 = .ok (.getfield 24, 3) := by decide +kernel
theorem dX8_areRowsAsFound_4 : decode cX8_areRowsAsFound 4 = .ok (.aload_n 1, 1) := by decide +kernel
theorem dX8_areRowsAsFound_5 : decode cX8_areRowsAsFound 5 = .ok (.invokevirtual 131, 3) := by decide +kernel
theorem dX8_areRowsAsFound_8 : decode cX8_areRowsAsFound 8 = .ok (.aload_n 0, 1) := by decide +kernel
theorem dX8_areRowsAsFound_9 : decode cX8_areRowsAsFound 9 = .ok (.getfield 34, 3) := by decide +kernel
theorem dX8_areRowsAsFound_12 : decode cX8_areRowsAsFound 12 = .ok (.aload_n 1, 1) := by decide +kernel
theorem dX8_areRowsAsFound_13 : decode cX8_areRowsAsFound 13 = .ok (.iconst 0, 1) := by decide +kernel
theorem dX8_areRowsAsFound_14 : decode cX8_areRowsAsFound 14 = .ok (.invokevirtual 110, 3) := by decide +kernel
theorem dX8_areRowsAsFound_17 : decode cX8_areRowsAsFound 17 = .ok (.aload_n 0, 1) := by decide +kernel
theorem dX8_areRowsAsFound_18 : decode cX8_areRowsAsFound 18 = .ok (.getfield 48, 3) := by decide +kernel
theorem dX8_areRowsAsFound_21 : decode cX8_areRowsAsFound 21 = .ok (.aload_n 1, 1) := by decide +kernel
theorem dX8_areRowsAsFound_22 : decode cX8_areRowsAsFound 22 = .ok (.invokevirtual 129, 3) := by decide +kernel
theorem dX8_areRowsAsFound_25 : decode cX8_areRowsAsFound 25 = .ok (.lconst 0, 1) := by decide +kernel
theorem dX8_areRowsAsFound_26 : decode cX8_areRowsAsFound 26 = .ok (.lstore_n 2, 1) := by decide +kernel
theorem dX8_areRowsAsFound_27 : decode cX8_areRowsAsFound 27 = .ok (.iconst 0, 1) := by decide +kernel
theorem dX8_areRowsAsFound_28 : decode cX8_areRowsAsFound 28 = .ok (.istore 4, 2) := by decide +kernel
theorem dX8_areRowsAsFound_30 : decode cX8_areRowsAsFound 30 = .ok (.iload 4, 2) := by decide +kernel
theorem dX8_areRowsAsFound_32 : decode cX8_areRowsAsFound 32 = .ok (.sipush 300, 3) := by decide +kernel
theorem dX8_areRowsAsFound_35 : decode cX8_areRowsAsFound 35 = .ok (.if_icmp .gt 93, 3) := by decide +kernel
theorem dX8_areRowsAsFound_38 : decode cX8_areRowsAsFound 38 = .ok (.aload_n 0, 1) := by decide +kernel
theorem dX8_areRowsAsFound_39 : decode cX8_areRowsAsFound 39 = .ok (.getfield 67, 3) := by decide +kernel
theorem dX8_areRowsAsFound_42 : decode cX8_areRowsAsFound 42 = .ok (.iload 4, 2) := by decide +kernel
theorem dX8_areRowsAsFound_44 : decode cX8_areRowsAsFound 44 = .ok (.laload, 1) := by decide +kernel
theorem dX8_areRowsAsFound_45 : decode cX8_areRowsAsFound 45 = .ok (.lconst 0, 1) := by decide +kernel
theorem dX8_areRowsAsFound_46 : decode cX8_areRowsAsFound 46 = .ok (.lcmp, 1) := by decide +kernel
theorem dX8_areRowsAsFound_47 : decode cX8_areRowsAsFound 47 = .ok (.ifCond .eq 7, 3) := by decide +kernel
theorem dX8_areRowsAsFound_50 : decode cX8_areRowsAsFound 50 = .ok (.iconst 1, 1) := by decide +kernel
theorem dX8_areRowsAsFound_51 : decode cX8_areRowsAsFound 51 = .ok (.goto 4, 3) := by decide +kernel
theorem dX8_areRowsAsFound_54 : decode cX8_areRowsAsFound 54 = .ok (.iconst 0, 1) := by decide +kernel
theorem dX8_areRowsAsFound_55 : decode cX8_areRowsAsFound 55 = .ok (.istore 5, 2) := by decide +kernel
theorem dX8_areRowsAsFound_57 : decode cX8_areRowsAsFound 57 = .ok (.aload_n 0, 1) := by decide +kernel
theorem dX8_areRowsAsFound_58 : decode cX8_areRowsAsFound 58 = .ok (.getfield 24, 3) := by decide +kernel
theorem dX8_areRowsAsFound_61 : decode cX8_areRowsAsFound 61 = .ok (.getfield 115, 3) := by decide +kernel
theorem dX8_areRowsAsFound_64 : decode cX8_areRowsAsFound 64 = .ok (.iload 4, 2) := by decide +kernel
theorem dX8_areRowsAsFound_66 : decode cX8_areRowsAsFound 66 = .ok (.invokevirtual 118, 3) := by decide +kernel
theorem dX8_areRowsAsFound_69 : decode cX8_areRowsAsFound 69 = .ok (.iload 5, 2) := by decide +kernel
theorem dX8_areRowsAsFound_71 : decode cX8_areRowsAsFound 71 = .ok (.if_icmp .ne 37, 3) := by decide +kernel
theorem dX8_areRowsAsFound_74 : decode cX8_areRowsAsFound 74 = .ok (.aload_n 0, 1) := by decide +kernel
theorem dX8_areRowsAsFound_75 : decode cX8_areRowsAsFound 75 = .ok (.getfield 34, 3) := by decide +kernel
theorem dX8_areRowsAsFound_78 : decode cX8_areRowsAsFound 78 = .ok (.iload 4, 2) := by decide +kernel
theorem dX8_areRowsAsFound_80 : decode cX8_areRowsAsFound 80 = .ok (.invokevirtual 121, 3) := by decide +kernel
theorem dX8_areRowsAsFound_83 : decode cX8_areRowsAsFound 83 = .ok (.iload 5, 2) := by decide +kernel
theorem dX8_areRowsAsFound_85 : decode cX8_areRowsAsFound 85 = .ok (.if_icmp .ne 23, 3) := by decide +kernel
theorem dX8_areRowsAsFound_88 : decode cX8_areRowsAsFound 88 = .ok (.aload_n 0, 1) := by decide +kernel
theorem dX8_areRowsAsFound_89 : decode cX8_areRowsAsFound 89 = .ok (.getfield 48, 3) := by decide +kernel
theorem dX8_areRowsAsFound_92 : decode cX8_areRowsAsFound 92 = .ok (.iload 4, 2) := by decide +kernel
theorem dX8_areRowsAsFound_94 : decode cX8_areRowsAsFound 94 = .ok (.invokevirtual 134, 3) := by decide +kernel
theorem dX8_areRowsAsFound_97 : decode cX8_areRowsAsFound 97 = .ok (.aload_n 0, 1) := by decide +kernel
theorem dX8_areRowsAsFound_98 : decode cX8_areRowsAsFound 98 = .ok (.getfield 67, 3) := by decide +kernel
theorem dX8_areRowsAsFound_101 : decode cX8_areRowsAsFound 101 = .ok (.iload 4, 2) := by decide +kernel
theorem dX8_areRowsAsFound_103 : decode cX8_areRowsAsFound 103 = .ok (.laload, 1) := by decide +kernel
theorem dX8_areRowsAsFound_104 : decode cX8_areRowsAsFound 104 = .ok (.lcmp, 1) := by decide +kernel
theorem dX8_areRowsAsFound_105 : decode cX8_areRowsAsFound 105 = .ok (.ifCond .eq 5, 3) := by decide +kernel
theorem dX8_areRowsAsFound_108 : decode cX8_areRowsAsFound 108 = .ok (.iconst 0, 1) := by decide +kernel
theorem dX8_areRowsAsFound_109 : decode cX8_areRowsAsFound 109 = .ok (.ireturn, 1) := by decide +kernel
theorem dX8_areRowsAsFound_110 : decode cX8_areRowsAsFound 110 = .ok (.lload_n 2, 1) := by decide +kernel
theorem dX8_areRowsAsFound_111 : decode cX8_areRowsAsFound 111 = .ok (.aload_n 0, 1) := by decide +kernel
theorem dX8_areRowsAsFound_112 : decode cX8_areRowsAsFound 112 = .ok (.getfield 48, 3) := by decide +kernel
theorem dX8_areRowsAsFound_115 : decode cX8_areRowsAsFound 115 = .ok (.iload 4, 2) := by decide +kernel
theorem dX8_areRowsAsFound_117 : decode cX8_areRowsAsFound 117 = .ok (.invokevirtual 134, 3) := by decide +kernel
theorem dX8_areRowsAsFound_120 : decode cX8_areRowsAsFound 120 = .ok (.ladd, 1) := by decide +kernel
theorem dX8_areRowsAsFound_121 : decode cX8_areRowsAsFound 121 = .ok (.lstore_n 2, 1) := by decide +kernel
theorem dX8_areRowsAsFound_122 : decode cX8_areRowsAsFound 122 = .ok (.iinc 4 1, 3) := by decide +kernel
theorem dX8_areRowsAsFound_125 : decode cX8_areRowsAsFound 125 = .ok (.goto (-95), 3) := by decide +kernel
theorem dX8_areRowsAsFound_128 : decode cX8_areRowsAsFound 128 = .ok (.aload_n 0, 1) := by decide +kernel
theorem dX8_areRowsAsFound_129 : decode cX8_areRowsAsFound 129 = .ok (.invokevirtual 122, 3) := by decide +kernel
theorem dX8_areRowsAsFound_132 : decode cX8_areRowsAsFound 132 = .ok (.ifCond .eq 18, 3) := by decide +kernel
theorem dX8_areRowsAsFound_135 : decode cX8_areRowsAsFound 135 = .ok (.lload_n 2, 1) := by decide +kernel
theorem dX8_areRowsAsFound_136 : decode cX8_areRowsAsFound 136 = .ok (.lconst 1, 1) := by decide +kernel
theorem dX8_areRowsAsFound_137 : decode cX8_areRowsAsFound 137 = .ok (.aload_n 1, 1) := by decide +kernel
theorem dX8_areRowsAsFound_138 : decode cX8_areRowsAsFound 138 = .ok (.getfield 99, 3) := by decide +kernel
theorem dX8_areRowsAsFound_141 : decode cX8_areRowsAsFound 141 = .ok (.lshl, 1) := by decide +kernel
theorem dX8_areRowsAsFound_142 : decode cX8_areRowsAsFound 142 = .ok (.lcmp, 1) := by decide +kernel
theorem dX8_areRowsAsFound_143 : decode cX8_areRowsAsFound 143 = .ok (.ifCond .ne 7, 3) := by decide +kernel
theorem dX8_areRowsAsFound_146 : decode cX8_areRowsAsFound 146 = .ok (.iconst 1, 1) := by decide +kernel
theorem dX8_areRowsAsFound_147 : decode cX8_areRowsAsFound 147 = .ok (.goto 4, 3) := by decide +kernel
theorem dX8_areRowsAsFound_150 : decode cX8_areRowsAsFound 150 = .ok (.iconst 0, 1) := by decide +kernel
theorem dX8_areRowsAsFound_151 : decode cX8_areRowsAsFound 151 = .ok (.ireturn, 1) := by decide +kernel
set_option maxRecDepth 20000 in
theorem ggX8_areSetsTold_X0_countSet : GoodIn wsX8_areSetsTold wsX0_countSet := goodIn_r _ [7, 8, 9, 10, 11, 12, 13, 14, 15, 55, 56] (by decide +kernel) (by decide +kernel)
set_option maxRecDepth 20000 in
theorem gX8_areSetsTold_X0_countSet : GoodIn wsX8_areSetsTold (wsV RX8 166 RX0 yX0_countSet wsX0_countSet) := goodIn_app (goodIn_of _ (by decide +kernel)) ggX8_areSetsTold_X0_countSet
set_option maxRecDepth 20000 in
theorem ggX8_areSetsTold_X5_countSet : GoodIn wsX8_areSetsTold wsX5_countSet := goodIn_r _ [20, 21, 57] (by decide +kernel) (by decide +kernel)
set_option maxRecDepth 20000 in
theorem gX8_areSetsTold_X5_countSet : GoodIn wsX8_areSetsTold (wsV RX8 169 RX5 yX5_countSet wsX5_countSet) := goodIn_app (goodIn_of _ (by decide +kernel)) ggX8_areSetsTold_X5_countSet
set_option maxRecDepth 20000 in
theorem ggX8_areSetsTold_X0_endOfSet : GoodIn wsX8_areSetsTold wsX0_endOfSet := goodIn_r _ [25, 8, 26, 27, 28, 6, 29, 30, 31, 32, 33, 55, 56] (by decide +kernel) (by decide +kernel)
set_option maxRecDepth 20000 in
theorem gX8_areSetsTold_X0_endOfSet : GoodIn wsX8_areSetsTold (wsV RX8 170 RX0 yX0_endOfSet wsX0_endOfSet) := goodIn_app (goodIn_of _ (by decide +kernel)) ggX8_areSetsTold_X0_endOfSet
set_option maxRecDepth 20000 in
theorem ggX8_areSetsTold_X5_endOfSet : GoodIn wsX8_areSetsTold wsX5_endOfSet := goodIn_r _ [37, 38, 39, 40, 19, 41, 21, 57] (by decide +kernel) (by decide +kernel)
set_option maxRecDepth 20000 in
theorem gX8_areSetsTold_X5_endOfSet : GoodIn wsX8_areSetsTold (wsV RX8 173 RX5 yX5_endOfSet wsX5_endOfSet) := goodIn_app (goodIn_of _ (by decide +kernel)) ggX8_areSetsTold_X5_endOfSet
theorem dX8_areSetsTold_0 : decode cX8_areSetsTold 0 = .ok (.aload_n 0, 1) := by decide +kernel
theorem dX8_areSetsTold_1 : decode cX8_areSetsTold 1 = .ok (.getfield 24, 3) := by decide +kernel
theorem dX8_areSetsTold_4 : decode cX8_areSetsTold 4 = .ok (.getfield 115, 3) := by decide +kernel
theorem dX8_areSetsTold_7 : decode cX8_areSetsTold 7 = .ok (.invokevirtual 166, 3) := by decide +kernel
theorem dX8_areSetsTold_10 : decode cX8_areSetsTold 10 = .ok (.aload_n 0, 1) := by decide +kernel
theorem dX8_areSetsTold_11 : decode cX8_areSetsTold 11 = .ok (.getfield 34, 3) := by decide +kernel
theorem dX8_areSetsTold_14 : decode cX8_areSetsTold 14 = .ok (.invokevirtual 169, 3) := by decide +kernel
theorem dX8_areSetsTold_17 : decode cX8_areSetsTold 17 = .ok (.if_icmp .ne 27, 3) := by decide +kernel
theorem dX8_areSetsTold_20 : decode cX8_areSetsTold 20 = .ok (.aload_n 0, 1) := by decide +kernel
theorem dX8_areSetsTold_21 : decode cX8_areSetsTold 21 = .ok (.getfield 24, 3) := by decide +kernel
theorem dX8_areSetsTold_24 : decode cX8_areSetsTold 24 = .ok (.getfield 115, 3) := by decide +kernel
theorem dX8_areSetsTold_27 : decode cX8_areSetsTold 27 = .ok (.invokevirtual 170, 3) := by decide +kernel
theorem dX8_areSetsTold_30 : decode cX8_areSetsTold 30 = .ok (.aload_n 0, 1) := by decide +kernel
theorem dX8_areSetsTold_31 : decode cX8_areSetsTold 31 = .ok (.getfield 34, 3) := by decide +kernel
theorem dX8_areSetsTold_34 : decode cX8_areSetsTold 34 = .ok (.invokevirtual 173, 3) := by decide +kernel
theorem dX8_areSetsTold_37 : decode cX8_areSetsTold 37 = .ok (.if_icmp .ne 7, 3) := by decide +kernel
theorem dX8_areSetsTold_40 : decode cX8_areSetsTold 40 = .ok (.iconst 1, 1) := by decide +kernel
theorem dX8_areSetsTold_41 : decode cX8_areSetsTold 41 = .ok (.goto 4, 3) := by decide +kernel
theorem dX8_areSetsTold_44 : decode cX8_areSetsTold 44 = .ok (.iconst 0, 1) := by decide +kernel
theorem dX8_areSetsTold_45 : decode cX8_areSetsTold 45 = .ok (.ireturn, 1) := by decide +kernel
set_option maxRecDepth 20000 in
theorem ggX8_isMirrored_X0_isSet : GoodIn wsX8_isMirrored wsX0_isSet := goodIn_r _ [6, 7, 8, 9, 5, 10, 11, 25, 26] (by decide +kernel) (by decide +kernel)
set_option maxRecDepth 20000 in
theorem gX8_isMirrored_X0_isSet : GoodIn wsX8_isMirrored (wsV RX8 118 RX0 yX0_isSet wsX0_isSet) := goodIn_app (goodIn_of _ (by decide +kernel)) ggX8_isMirrored_X0_isSet
theorem dX8_isMirrored_0 : decode cX8_isMirrored 0 = .ok (.iconst 0, 1) := by decide +kernel
theorem dX8_isMirrored_1 : decode cX8_isMirrored 1 = .ok (.istore_n 2, 1) := by decide +kernel
theorem dX8_isMirrored_2 : decode cX8_isMirrored 2 = .ok (.iload_n 2, 1) := by decide +kernel
theorem dX8_isMirrored_3 : decode cX8_isMirrored 3 = .ok (.iload_n 1, 1) := by decide +kernel
theorem dX8_isMirrored_4 : decode cX8_isMirrored 4 = .ok (.if_icmp .gt 38, 3) := by decide +kernel
theorem dX8_isMirrored_7 : decode cX8_isMirrored 7 = .ok (.aload_n 0, 1) := by decide +kernel
theorem dX8_isMirrored_8 : decode cX8_isMirrored 8 = .ok (.getfield 24, 3) := by decide +kernel
theorem dX8_isMirrored_11 : decode cX8_isMirrored 11 = .ok (.getfield 115, 3) := by decide +kernel
theorem dX8_isMirrored_14 : decode cX8_isMirrored 14 = .ok (.iload_n 2, 1) := by decide +kernel
theorem dX8_isMirrored_15 : decode cX8_isMirrored 15 = .ok (.invokevirtual 118, 3) := by decide +kernel
theorem dX8_isMirrored_18 : decode cX8_isMirrored 18 = .ok (.aload_n 0, 1) := by decide +kernel
theorem dX8_isMirrored_19 : decode cX8_isMirrored 19 = .ok (.getfield 24, 3) := by decide +kernel
theorem dX8_isMirrored_22 : decode cX8_isMirrored 22 = .ok (.getfield 115, 3) := by decide +kernel
theorem dX8_isMirrored_25 : decode cX8_isMirrored 25 = .ok (.iload_n 1, 1) := by decide +kernel
theorem dX8_isMirrored_26 : decode cX8_isMirrored 26 = .ok (.iload_n 2, 1) := by decide +kernel
theorem dX8_isMirrored_27 : decode cX8_isMirrored 27 = .ok (.isub, 1) := by decide +kernel
theorem dX8_isMirrored_28 : decode cX8_isMirrored 28 = .ok (.invokevirtual 118, 3) := by decide +kernel
theorem dX8_isMirrored_31 : decode cX8_isMirrored 31 = .ok (.if_icmp .eq 5, 3) := by decide +kernel
theorem dX8_isMirrored_34 : decode cX8_isMirrored 34 = .ok (.iconst 0, 1) := by decide +kernel
theorem dX8_isMirrored_35 : decode cX8_isMirrored 35 = .ok (.ireturn, 1) := by decide +kernel
theorem dX8_isMirrored_36 : decode cX8_isMirrored 36 = .ok (.iinc 2 1, 3) := by decide +kernel
theorem dX8_isMirrored_39 : decode cX8_isMirrored 39 = .ok (.goto (-37), 3) := by decide +kernel
theorem dX8_isMirrored_42 : decode cX8_isMirrored 42 = .ok (.iconst 1, 1) := by decide +kernel
theorem dX8_isMirrored_43 : decode cX8_isMirrored 43 = .ok (.ireturn, 1) := by decide +kernel
set_option maxRecDepth 20000 in
theorem ggX8_isFoundBelow_X3_numberAt : GoodIn wsX8_isFoundBelow wsX3_numberAt := goodIn_r _ [6, 7, 8, 9, 10, 5, 11, 12, 13, 14] (by decide +kernel) (by decide +kernel)
set_option maxRecDepth 20000 in
theorem gX8_isFoundBelow_X3_numberAt : GoodIn wsX8_isFoundBelow (wsV RX8 126 RX3 yX3_numberAt wsX3_numberAt) := goodIn_app (goodIn_of _ (by decide +kernel)) ggX8_isFoundBelow_X3_numberAt
theorem dX8_isFoundBelow_0 : decode cX8_isFoundBelow 0 = .ok (.iconst 0, 1) := by decide +kernel
theorem dX8_isFoundBelow_1 : decode cX8_isFoundBelow 1 = .ok (.istore_n 3, 1) := by decide +kernel
theorem dX8_isFoundBelow_2 : decode cX8_isFoundBelow 2 = .ok (.iload_n 3, 1) := by decide +kernel
theorem dX8_isFoundBelow_3 : decode cX8_isFoundBelow 3 = .ok (.aload_n 2, 1) := by decide +kernel
theorem dX8_isFoundBelow_4 : decode cX8_isFoundBelow 4 = .ok (.getfield 99, 3) := by decide +kernel
theorem dX8_isFoundBelow_7 : decode cX8_isFoundBelow 7 = .ok (.if_icmp .ge 43, 3) := by decide +kernel
theorem dX8_isFoundBelow_10 : decode cX8_isFoundBelow 10 = .ok (.aload_n 2, 1) := by decide +kernel
theorem dX8_isFoundBelow_11 : decode cX8_isFoundBelow 11 = .ok (.iload_n 3, 1) := by decide +kernel
theorem dX8_isFoundBelow_12 : decode cX8_isFoundBelow 12 = .ok (.invokevirtual 126, 3) := by decide +kernel
theorem dX8_isFoundBelow_15 : decode cX8_isFoundBelow 15 = .ok (.istore 4, 2) := by decide +kernel
theorem dX8_isFoundBelow_17 : decode cX8_isFoundBelow 17 = .ok (.iload 4, 2) := by decide +kernel
theorem dX8_isFoundBelow_19 : decode cX8_isFoundBelow 19 = .ok (.ifCond .le 25, 3) := by decide +kernel
theorem dX8_isFoundBelow_22 : decode cX8_isFoundBelow 22 = .ok (.iload_n 1, 1) := by decide +kernel
theorem dX8_isFoundBelow_23 : decode cX8_isFoundBelow 23 = .ok (.iload 4, 2) := by decide +kernel
theorem dX8_isFoundBelow_25 : decode cX8_isFoundBelow 25 = .ok (.if_icmp .lt 19, 3) := by decide +kernel
theorem dX8_isFoundBelow_28 : decode cX8_isFoundBelow 28 = .ok (.aload_n 0, 1) := by decide +kernel
theorem dX8_isFoundBelow_29 : decode cX8_isFoundBelow 29 = .ok (.getfield 67, 3) := by decide +kernel
theorem dX8_isFoundBelow_32 : decode cX8_isFoundBelow 32 = .ok (.iload_n 1, 1) := by decide +kernel
theorem dX8_isFoundBelow_33 : decode cX8_isFoundBelow 33 = .ok (.iload 4, 2) := by decide +kernel
theorem dX8_isFoundBelow_35 : decode cX8_isFoundBelow 35 = .ok (.isub, 1) := by decide +kernel
theorem dX8_isFoundBelow_36 : decode cX8_isFoundBelow 36 = .ok (.laload, 1) := by decide +kernel
theorem dX8_isFoundBelow_37 : decode cX8_isFoundBelow 37 = .ok (.lconst 0, 1) := by decide +kernel
theorem dX8_isFoundBelow_38 : decode cX8_isFoundBelow 38 = .ok (.lcmp, 1) := by decide +kernel
theorem dX8_isFoundBelow_39 : decode cX8_isFoundBelow 39 = .ok (.ifCond .eq 5, 3) := by decide +kernel
theorem dX8_isFoundBelow_42 : decode cX8_isFoundBelow 42 = .ok (.iconst 1, 1) := by decide +kernel
theorem dX8_isFoundBelow_43 : decode cX8_isFoundBelow 43 = .ok (.ireturn, 1) := by decide +kernel
theorem dX8_isFoundBelow_44 : decode cX8_isFoundBelow 44 = .ok (.iinc 3 1, 3) := by decide +kernel
theorem dX8_isFoundBelow_47 : decode cX8_isFoundBelow 47 = .ok (.goto (-45), 3) := by decide +kernel
theorem dX8_isFoundBelow_50 : decode cX8_isFoundBelow 50 = .ok (.iconst 0, 1) := by decide +kernel
theorem dX8_isFoundBelow_51 : decode cX8_isFoundBelow 51 = .ok (.ireturn, 1) := by decide +kernel
set_option maxRecDepth 20000 in
theorem ggX9_init_X7_init : GoodIn wsX9_init wsX7_init := goodIn_r _ [5, 6, 7, 8] (by decide +kernel) (by decide +kernel)
set_option maxRecDepth 20000 in
theorem gX9_init_X7_init_n3 : GoodIn wsX9_init (wsX7_init) := ggX9_init_X7_init
theorem dX9_init_0 : decode cX9_init 0 = .ok (.aload_n 0, 1) := by decide +kernel
theorem dX9_init_1 : decode cX9_init 1 = .ok (.invokespecial 3, 3) := by decide +kernel
theorem dX9_init_4 : decode cX9_init 4 = .ok (.aload_n 0, 1) := by decide +kernel
theorem dX9_init_5 : decode cX9_init 5 = .ok (.sipush 301, 3) := by decide +kernel
theorem dX9_init_8 : decode cX9_init 8 = .ok (.newarray .long, 2) := by decide +kernel
theorem dX9_init_10 : decode cX9_init 10 = .ok (.putfield 9, 3) := by decide +kernel
theorem dX9_init_13 : decode cX9_init 13 = .ok (.return_, 1) := by decide +kernel
theorem dX9_begin_0 : decode cX9_begin 0 = .ok (.iconst 0, 1) := by decide +kernel
theorem dX9_begin_1 : decode cX9_begin 1 = .ok (.istore_n 1, 1) := by decide +kernel
theorem dX9_begin_2 : decode cX9_begin 2 = .ok (.iload_n 1, 1) := by decide +kernel
theorem dX9_begin_3 : decode cX9_begin 3 = .ok (.sipush 300, 3) := by decide +kernel
theorem dX9_begin_6 : decode cX9_begin 6 = .ok (.if_icmp .gt 24, 3) := by decide +kernel
theorem dX9_begin_9 : decode cX9_begin 9 = .ok (.aload_n 0, 1) := by decide +kernel
theorem dX9_begin_10 : decode cX9_begin 10 = .ok (.getfield 9, 3) := by decide +kernel
theorem dX9_begin_13 : decode cX9_begin 13 = .ok (.iload_n 1, 1) := by decide +kernel
theorem dX9_begin_14 : decode cX9_begin 14 = .ok (.iload_n 1, 1) := by decide +kernel
theorem dX9_begin_15 : decode cX9_begin 15 = .ok (.ifCond .ne 7, 3) := by decide +kernel
theorem dX9_begin_18 : decode cX9_begin 18 = .ok (.lconst 1, 1) := by decide +kernel
theorem dX9_begin_19 : decode cX9_begin 19 = .ok (.goto 4, 3) := by decide +kernel
theorem dX9_begin_22 : decode cX9_begin 22 = .ok (.lconst 0, 1) := by decide +kernel
theorem dX9_begin_23 : decode cX9_begin 23 = .ok (.lastore, 1) := by decide +kernel
theorem dX9_begin_24 : decode cX9_begin 24 = .ok (.iinc 1 1, 3) := by decide +kernel
theorem dX9_begin_27 : decode cX9_begin 27 = .ok (.goto (-25), 3) := by decide +kernel
theorem dX9_begin_30 : decode cX9_begin 30 = .ok (.return_, 1) := by decide +kernel
theorem dX9_carry_0 : decode cX9_carry 0 = .ok (.iload_n 1, 1) := by decide +kernel
theorem dX9_carry_1 : decode cX9_carry 1 = .ok (.invokestatic 15, 3) := by decide +kernel
theorem dX9_carry_4 : decode cX9_carry 4 = .ok (.ifCond .eq 25, 3) := by decide +kernel
theorem dX9_carry_7 : decode cX9_carry 7 = .ok (.iload_n 2, 1) := by decide +kernel
theorem dX9_carry_8 : decode cX9_carry 8 = .ok (.invokestatic 15, 3) := by decide +kernel
theorem dX9_carry_11 : decode cX9_carry 11 = .ok (.ifCond .eq 18, 3) := by decide +kernel
theorem dX9_carry_14 : decode cX9_carry 14 = .ok (.aload_n 0, 1) := by decide +kernel
theorem dX9_carry_15 : decode cX9_carry 15 = .ok (.getfield 9, 3) := by decide +kernel
theorem dX9_carry_18 : decode cX9_carry 18 = .ok (.iload_n 2, 1) := by decide +kernel
theorem dX9_carry_19 : decode cX9_carry 19 = .ok (.dup2, 1) := by decide +kernel
theorem dX9_carry_20 : decode cX9_carry 20 = .ok (.laload, 1) := by decide +kernel
theorem dX9_carry_21 : decode cX9_carry 21 = .ok (.aload_n 0, 1) := by decide +kernel
theorem dX9_carry_22 : decode cX9_carry 22 = .ok (.getfield 9, 3) := by decide +kernel
theorem dX9_carry_25 : decode cX9_carry 25 = .ok (.iload_n 1, 1) := by decide +kernel
theorem dX9_carry_26 : decode cX9_carry 26 = .ok (.laload, 1) := by decide +kernel
theorem dX9_carry_27 : decode cX9_carry 27 = .ok (.ladd, 1) := by decide +kernel
theorem dX9_carry_28 : decode cX9_carry 28 = .ok (.lastore, 1) := by decide +kernel
theorem dX9_carry_29 : decode cX9_carry 29 = .ok (.return_, 1) := by decide +kernel
theorem dX9_leaveOut_0 : decode cX9_leaveOut 0 = .ok (.iload_n 1, 1) := by decide +kernel
theorem dX9_leaveOut_1 : decode cX9_leaveOut 1 = .ok (.iconst 1, 1) := by decide +kernel
theorem dX9_leaveOut_2 : decode cX9_leaveOut 2 = .ok (.if_icmp .ge 4, 3) := by decide +kernel
theorem dX9_leaveOut_5 : decode cX9_leaveOut 5 = .ok (.return_, 1) := by decide +kernel
theorem dX9_leaveOut_6 : decode cX9_leaveOut 6 = .ok (.iload_n 1, 1) := by decide +kernel
theorem dX9_leaveOut_7 : decode cX9_leaveOut 7 = .ok (.istore_n 2, 1) := by decide +kernel
theorem dX9_leaveOut_8 : decode cX9_leaveOut 8 = .ok (.iload_n 2, 1) := by decide +kernel
theorem dX9_leaveOut_9 : decode cX9_leaveOut 9 = .ok (.sipush 300, 3) := by decide +kernel
theorem dX9_leaveOut_12 : decode cX9_leaveOut 12 = .ok (.if_icmp .gt 26, 3) := by decide +kernel
theorem dX9_leaveOut_15 : decode cX9_leaveOut 15 = .ok (.aload_n 0, 1) := by decide +kernel
theorem dX9_leaveOut_16 : decode cX9_leaveOut 16 = .ok (.getfield 9, 3) := by decide +kernel
theorem dX9_leaveOut_19 : decode cX9_leaveOut 19 = .ok (.iload_n 2, 1) := by decide +kernel
theorem dX9_leaveOut_20 : decode cX9_leaveOut 20 = .ok (.dup2, 1) := by decide +kernel
theorem dX9_leaveOut_21 : decode cX9_leaveOut 21 = .ok (.laload, 1) := by decide +kernel
theorem dX9_leaveOut_22 : decode cX9_leaveOut 22 = .ok (.aload_n 0, 1) := by decide +kernel
theorem dX9_leaveOut_23 : decode cX9_leaveOut 23 = .ok (.getfield 9, 3) := by decide +kernel
theorem dX9_leaveOut_26 : decode cX9_leaveOut 26 = .ok (.iload_n 2, 1) := by decide +kernel
theorem dX9_leaveOut_27 : decode cX9_leaveOut 27 = .ok (.iload_n 1, 1) := by decide +kernel
theorem dX9_leaveOut_28 : decode cX9_leaveOut 28 = .ok (.isub, 1) := by decide +kernel
theorem dX9_leaveOut_29 : decode cX9_leaveOut 29 = .ok (.laload, 1) := by decide +kernel
theorem dX9_leaveOut_30 : decode cX9_leaveOut 30 = .ok (.lsub, 1) := by decide +kernel
theorem dX9_leaveOut_31 : decode cX9_leaveOut 31 = .ok (.lastore, 1) := by decide +kernel
theorem dX9_leaveOut_32 : decode cX9_leaveOut 32 = .ok (.iinc 2 1, 3) := by decide +kernel
theorem dX9_leaveOut_35 : decode cX9_leaveOut 35 = .ok (.goto (-27), 3) := by decide +kernel
theorem dX9_leaveOut_38 : decode cX9_leaveOut 38 = .ok (.return_, 1) := by decide +kernel
theorem dX9_waysOf_0 : decode cX9_waysOf 0 = .ok (.iload_n 1, 1) := by decide +kernel
theorem dX9_waysOf_1 : decode cX9_waysOf 1 = .ok (.invokestatic 15, 3) := by decide +kernel
theorem dX9_waysOf_4 : decode cX9_waysOf 4 = .ok (.ifCond .eq 12, 3) := by decide +kernel
theorem dX9_waysOf_7 : decode cX9_waysOf 7 = .ok (.aload_n 0, 1) := by decide +kernel
theorem dX9_waysOf_8 : decode cX9_waysOf 8 = .ok (.getfield 9, 3) := by decide +kernel
theorem dX9_waysOf_11 : decode cX9_waysOf 11 = .ok (.iload_n 1, 1) := by decide +kernel
theorem dX9_waysOf_12 : decode cX9_waysOf 12 = .ok (.laload, 1) := by decide +kernel
theorem dX9_waysOf_13 : decode cX9_waysOf 13 = .ok (.goto 4, 3) := by decide +kernel
theorem dX9_waysOf_16 : decode cX9_waysOf 16 = .ok (.lconst 0, 1) := by decide +kernel
theorem dX9_waysOf_17 : decode cX9_waysOf 17 = .ok (.lreturn, 1) := by decide +kernel
