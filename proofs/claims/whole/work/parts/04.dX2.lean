theorem dX0_init_0 : decode cX0_init 0 = .ok (.aload_n 0, 1) := by decide +kernel
theorem dX0_init_1 : decode cX0_init 1 = .ok (.invokespecial 3, 3) := by decide +kernel
theorem dX0_init_4 : decode cX0_init 4 = .ok (.aload_n 0, 1) := by decide +kernel
theorem dX0_init_5 : decode cX0_init 5 = .ok (.sipush 512, 3) := by decide +kernel
theorem dX0_init_8 : decode cX0_init 8 = .ok (.newarray .int, 2) := by decide +kernel
theorem dX0_init_10 : decode cX0_init 10 = .ok (.putfield 9, 3) := by decide +kernel
theorem dX0_init_13 : decode cX0_init 13 = .ok (.aload_n 0, 1) := by decide +kernel
theorem dX0_init_14 : decode cX0_init 14 = .ok (.sipush 512, 3) := by decide +kernel
theorem dX0_init_17 : decode cX0_init 17 = .ok (.newarray .int, 2) := by decide +kernel
theorem dX0_init_19 : decode cX0_init 19 = .ok (.putfield 15, 3) := by decide +kernel
theorem dX0_init_22 : decode cX0_init 22 = .ok (.return_, 1) := by decide +kernel
set_option maxRecDepth 20000 in
theorem ggX0_add_X0_clear : GoodIn wsX0_add wsX0_clear := goodIn_r _ [8, 1, 9, 10, 11, 12, 13] (by decide +kernel) (by decide +kernel)
set_option maxRecDepth 20000 in
theorem gX0_add_X0_clear : GoodIn wsX0_add (wsV RX0 22 RX0 yX0_clear wsX0_clear) := goodIn_app (goodIn_of _ (by decide +kernel)) ggX0_add_X0_clear
theorem dX0_add_0 : decode cX0_add 0 = .ok (.aload_n 0, 1) := by decide +kernel
theorem dX0_add_1 : decode cX0_add 1 = .ok (.getfield 18, 3) := by decide +kernel
theorem dX0_add_4 : decode cX0_add 4 = .ok (.sipush 512, 3) := by decide +kernel
theorem dX0_add_7 : decode cX0_add 7 = .ok (.if_icmp .lt 7, 3) := by decide +kernel
theorem dX0_add_10 : decode cX0_add 10 = .ok (.aload_n 0, 1) := by decide +kernel
theorem dX0_add_11 : decode cX0_add 11 = .ok (.invokevirtual 22, 3) := by decide +kernel
theorem dX0_add_14 : decode cX0_add 14 = .ok (.aload_n 0, 1) := by decide +kernel
theorem dX0_add_15 : decode cX0_add 15 = .ok (.getfield 9, 3) := by decide +kernel
theorem dX0_add_18 : decode cX0_add 18 = .ok (.aload_n 0, 1) := by decide +kernel
theorem dX0_add_19 : decode cX0_add 19 = .ok (.getfield 18, 3) := by decide +kernel
theorem dX0_add_22 : decode cX0_add 22 = .ok (.iload_n 1, 1) := by decide +kernel
theorem dX0_add_23 : decode cX0_add 23 = .ok (.iastore, 1) := by decide +kernel
theorem dX0_add_24 : decode cX0_add 24 = .ok (.aload_n 0, 1) := by decide +kernel
theorem dX0_add_25 : decode cX0_add 25 = .ok (.getfield 15, 3) := by decide +kernel
theorem dX0_add_28 : decode cX0_add 28 = .ok (.aload_n 0, 1) := by decide +kernel
theorem dX0_add_29 : decode cX0_add 29 = .ok (.getfield 18, 3) := by decide +kernel
theorem dX0_add_32 : decode cX0_add 32 = .ok (.iload_n 2, 1) := by decide +kernel
theorem dX0_add_33 : decode cX0_add 33 = .ok (.iastore, 1) := by decide +kernel
theorem dX0_add_34 : decode cX0_add 34 = .ok (.aload_n 0, 1) := by decide +kernel
theorem dX0_add_35 : decode cX0_add 35 = .ok (.dup, 1) := by decide +kernel
theorem dX0_add_36 : decode cX0_add 36 = .ok (.getfield 18, 3) := by decide +kernel
theorem dX0_add_39 : decode cX0_add 39 = .ok (.iconst 1, 1) := by decide +kernel
theorem dX0_add_40 : decode cX0_add 40 = .ok (.iadd, 1) := by decide +kernel
theorem dX0_add_41 : decode cX0_add 41 = .ok (.putfield 18, 3) := by decide +kernel
theorem dX0_add_44 : decode cX0_add 44 = .ok (.return_, 1) := by decide +kernel
theorem dX0_clear_0 : decode cX0_clear 0 = .ok (.aload_n 0, 1) := by decide +kernel
theorem dX0_clear_1 : decode cX0_clear 1 = .ok (.iconst 0, 1) := by decide +kernel
theorem dX0_clear_2 : decode cX0_clear 2 = .ok (.putfield 18, 3) := by decide +kernel
theorem dX0_clear_5 : decode cX0_clear 5 = .ok (.aload_n 0, 1) := by decide +kernel
theorem dX0_clear_6 : decode cX0_clear 6 = .ok (.iconst 0, 1) := by decide +kernel
theorem dX0_clear_7 : decode cX0_clear 7 = .ok (.putfield 25, 3) := by decide +kernel
theorem dX0_clear_10 : decode cX0_clear 10 = .ok (.return_, 1) := by decide +kernel
theorem dX1_init_0 : decode cX1_init 0 = .ok (.aload_n 0, 1) := by decide +kernel
theorem dX1_init_1 : decode cX1_init 1 = .ok (.invokespecial 3, 3) := by decide +kernel
theorem dX1_init_4 : decode cX1_init 4 = .ok (.aload_n 0, 1) := by decide +kernel
theorem dX1_init_5 : decode cX1_init 5 = .ok (.iload_n 1, 1) := by decide +kernel
theorem dX1_init_6 : decode cX1_init 6 = .ok (.putfield 9, 3) := by decide +kernel
theorem dX1_init_9 : decode cX1_init 9 = .ok (.aload_n 0, 1) := by decide +kernel
theorem dX1_init_10 : decode cX1_init 10 = .ok (.iload_n 2, 1) := by decide +kernel
theorem dX1_init_11 : decode cX1_init 11 = .ok (.newarray .int, 2) := by decide +kernel
theorem dX1_init_13 : decode cX1_init 13 = .ok (.putfield 15, 3) := by decide +kernel
theorem dX1_init_16 : decode cX1_init 16 = .ok (.aload_n 0, 1) := by decide +kernel
theorem dX1_init_17 : decode cX1_init 17 = .ok (.iload_n 2, 1) := by decide +kernel
theorem dX1_init_18 : decode cX1_init 18 = .ok (.newarray .int, 2) := by decide +kernel
theorem dX1_init_20 : decode cX1_init 20 = .ok (.putfield 19, 3) := by decide +kernel
theorem dX1_init_23 : decode cX1_init 23 = .ok (.aload_n 0, 1) := by decide +kernel
theorem dX1_init_24 : decode cX1_init 24 = .ok (.iload_n 2, 1) := by decide +kernel
theorem dX1_init_25 : decode cX1_init 25 = .ok (.newarray .int, 2) := by decide +kernel
theorem dX1_init_27 : decode cX1_init 27 = .ok (.putfield 22, 3) := by decide +kernel
theorem dX1_init_30 : decode cX1_init 30 = .ok (.return_, 1) := by decide +kernel
theorem dX1_hasRoom_0 : decode cX1_hasRoom 0 = .ok (.aload_n 0, 1) := by decide +kernel
theorem dX1_hasRoom_1 : decode cX1_hasRoom 1 = .ok (.getfield 25, 3) := by decide +kernel
theorem dX1_hasRoom_4 : decode cX1_hasRoom 4 = .ok (.iload_n 1, 1) := by decide +kernel
theorem dX1_hasRoom_5 : decode cX1_hasRoom 5 = .ok (.iadd, 1) := by decide +kernel
theorem dX1_hasRoom_6 : decode cX1_hasRoom 6 = .ok (.iconst 1, 1) := by decide +kernel
theorem dX1_hasRoom_7 : decode cX1_hasRoom 7 = .ok (.iadd, 1) := by decide +kernel
theorem dX1_hasRoom_8 : decode cX1_hasRoom 8 = .ok (.aload_n 0, 1) := by decide +kernel
theorem dX1_hasRoom_9 : decode cX1_hasRoom 9 = .ok (.getfield 15, 3) := by decide +kernel
theorem dX1_hasRoom_12 : decode cX1_hasRoom 12 = .ok (.arraylength, 1) := by decide +kernel
theorem dX1_hasRoom_13 : decode cX1_hasRoom 13 = .ok (.if_icmp .gt 7, 3) := by decide +kernel
theorem dX1_hasRoom_16 : decode cX1_hasRoom 16 = .ok (.iconst 1, 1) := by decide +kernel
theorem dX1_hasRoom_17 : decode cX1_hasRoom 17 = .ok (.goto 4, 3) := by decide +kernel
theorem dX1_hasRoom_20 : decode cX1_hasRoom 20 = .ok (.iconst 0, 1) := by decide +kernel
theorem dX1_hasRoom_21 : decode cX1_hasRoom 21 = .ok (.ireturn, 1) := by decide +kernel
set_option maxRecDepth 20000 in
theorem ggX1_layObject_X1_setCell : GoodIn wsX1_layObject wsX1_setCell := goodIn_r _ [7, 8, 9, 10, 11, 12, 13, 14] (by decide +kernel) (by decide +kernel)
set_option maxRecDepth 20000 in
theorem gX1_layObject_X1_setCell : GoodIn wsX1_layObject (wsV RX1 28 RX1 yX1_setCell wsX1_setCell) := goodIn_app (goodIn_of _ (by decide +kernel)) ggX1_layObject_X1_setCell
theorem dX1_layObject_0 : decode cX1_layObject 0 = .ok (.aload_n 0, 1) := by decide +kernel
theorem dX1_layObject_1 : decode cX1_layObject 1 = .ok (.getfield 25, 3) := by decide +kernel
theorem dX1_layObject_4 : decode cX1_layObject 4 = .ok (.istore_n 2, 1) := by decide +kernel
theorem dX1_layObject_5 : decode cX1_layObject 5 = .ok (.aload_n 0, 1) := by decide +kernel
theorem dX1_layObject_6 : decode cX1_layObject 6 = .ok (.iload_n 2, 1) := by decide +kernel
theorem dX1_layObject_7 : decode cX1_layObject 7 = .ok (.iconst 3, 1) := by decide +kernel
theorem dX1_layObject_8 : decode cX1_layObject 8 = .ok (.iload_n 1, 1) := by decide +kernel
theorem dX1_layObject_9 : decode cX1_layObject 9 = .ok (.invokevirtual 28, 3) := by decide +kernel
theorem dX1_layObject_12 : decode cX1_layObject 12 = .ok (.aload_n 0, 1) := by decide +kernel
theorem dX1_layObject_13 : decode cX1_layObject 13 = .ok (.getfield 22, 3) := by decide +kernel
theorem dX1_layObject_16 : decode cX1_layObject 16 = .ok (.iload_n 2, 1) := by decide +kernel
theorem dX1_layObject_17 : decode cX1_layObject 17 = .ok (.iconst (-1), 1) := by decide +kernel
theorem dX1_layObject_18 : decode cX1_layObject 18 = .ok (.iastore, 1) := by decide +kernel
theorem dX1_layObject_19 : decode cX1_layObject 19 = .ok (.iconst 1, 1) := by decide +kernel
theorem dX1_layObject_20 : decode cX1_layObject 20 = .ok (.istore_n 3, 1) := by decide +kernel
theorem dX1_layObject_21 : decode cX1_layObject 21 = .ok (.iload_n 3, 1) := by decide +kernel
theorem dX1_layObject_22 : decode cX1_layObject 22 = .ok (.iload_n 1, 1) := by decide +kernel
theorem dX1_layObject_23 : decode cX1_layObject 23 = .ok (.if_icmp .gt 18, 3) := by decide +kernel
theorem dX1_layObject_26 : decode cX1_layObject 26 = .ok (.aload_n 0, 1) := by decide +kernel
theorem dX1_layObject_27 : decode cX1_layObject 27 = .ok (.iload_n 2, 1) := by decide +kernel
theorem dX1_layObject_28 : decode cX1_layObject 28 = .ok (.iload_n 3, 1) := by decide +kernel
theorem dX1_layObject_29 : decode cX1_layObject 29 = .ok (.iadd, 1) := by decide +kernel
theorem dX1_layObject_30 : decode cX1_layObject 30 = .ok (.iconst 0, 1) := by decide +kernel
theorem dX1_layObject_31 : decode cX1_layObject 31 = .ok (.iconst 0, 1) := by decide +kernel
theorem dX1_layObject_32 : decode cX1_layObject 32 = .ok (.invokevirtual 28, 3) := by decide +kernel
theorem dX1_layObject_35 : decode cX1_layObject 35 = .ok (.iinc 3 1, 3) := by decide +kernel
theorem dX1_layObject_38 : decode cX1_layObject 38 = .ok (.goto (-17), 3) := by decide +kernel
theorem dX1_layObject_41 : decode cX1_layObject 41 = .ok (.aload_n 0, 1) := by decide +kernel
theorem dX1_layObject_42 : decode cX1_layObject 42 = .ok (.dup, 1) := by decide +kernel
theorem dX1_layObject_43 : decode cX1_layObject 43 = .ok (.getfield 25, 3) := by decide +kernel
theorem dX1_layObject_46 : decode cX1_layObject 46 = .ok (.iload_n 1, 1) := by decide +kernel
theorem dX1_layObject_47 : decode cX1_layObject 47 = .ok (.iconst 1, 1) := by decide +kernel
theorem dX1_layObject_48 : decode cX1_layObject 48 = .ok (.iadd, 1) := by decide +kernel
theorem dX1_layObject_49 : decode cX1_layObject 49 = .ok (.iadd, 1) := by decide +kernel
theorem dX1_layObject_50 : decode cX1_layObject 50 = .ok (.putfield 25, 3) := by decide +kernel
theorem dX1_layObject_53 : decode cX1_layObject 53 = .ok (.iload_n 2, 1) := by decide +kernel
theorem dX1_layObject_54 : decode cX1_layObject 54 = .ok (.ireturn, 1) := by decide +kernel
theorem dX1_setCell_0 : decode cX1_setCell 0 = .ok (.aload_n 0, 1) := by decide +kernel
theorem dX1_setCell_1 : decode cX1_setCell 1 = .ok (.getfield 15, 3) := by decide +kernel
theorem dX1_setCell_4 : decode cX1_setCell 4 = .ok (.iload_n 1, 1) := by decide +kernel
theorem dX1_setCell_5 : decode cX1_setCell 5 = .ok (.iload_n 2, 1) := by decide +kernel
theorem dX1_setCell_6 : decode cX1_setCell 6 = .ok (.iastore, 1) := by decide +kernel
theorem dX1_setCell_7 : decode cX1_setCell 7 = .ok (.aload_n 0, 1) := by decide +kernel
theorem dX1_setCell_8 : decode cX1_setCell 8 = .ok (.getfield 19, 3) := by decide +kernel
theorem dX1_setCell_11 : decode cX1_setCell 11 = .ok (.iload_n 1, 1) := by decide +kernel
theorem dX1_setCell_12 : decode cX1_setCell 12 = .ok (.iload_n 3, 1) := by decide +kernel
theorem dX1_setCell_13 : decode cX1_setCell 13 = .ok (.iastore, 1) := by decide +kernel
theorem dX1_setCell_14 : decode cX1_setCell 14 = .ok (.return_, 1) := by decide +kernel
set_option maxRecDepth 20000 in
theorem ggX2_init_X0_init : GoodIn wsX2_init wsX0_init := goodIn_r _ [20, 21, 2, 3, 6, 22, 23, 46, 47, 48, 49] (by decide +kernel) (by decide +kernel)
set_option maxRecDepth 20000 in
theorem gX2_init_X0_init_n19 : GoodIn wsX2_init (wsX0_init) := ggX2_init_X0_init
set_option maxRecDepth 20000 in
theorem ggX2_init_X1_init : GoodIn wsX2_init wsX1_init := goodIn_r _ [25, 26, 2, 3, 27, 6, 28, 29, 30, 50, 51, 52, 53, 54] (by decide +kernel) (by decide +kernel)
set_option maxRecDepth 20000 in
theorem gX2_init_X1_init_n33 : GoodIn wsX2_init (wsX1_init) := ggX2_init_X1_init
theorem dX2_init_0 : decode cX2_init 0 = .ok (.aload_n 0, 1) := by decide +kernel
theorem dX2_init_1 : decode cX2_init 1 = .ok (.invokespecial 1, 3) := by decide +kernel
theorem dX2_init_4 : decode cX2_init 4 = .ok (.aload_n 0, 1) := by decide +kernel
theorem dX2_init_5 : decode cX2_init 5 = .ok (.bipush 16, 2) := by decide +kernel
theorem dX2_init_7 : decode cX2_init 7 = .ok (.newarray .boolean, 2) := by decide +kernel
theorem dX2_init_9 : decode cX2_init 9 = .ok (.putfield 9, 3) := by decide +kernel
theorem dX2_init_12 : decode cX2_init 12 = .ok (.aload_n 0, 1) := by decide +kernel
theorem dX2_init_13 : decode cX2_init 13 = .ok (.bipush 16, 2) := by decide +kernel
theorem dX2_init_15 : decode cX2_init 15 = .ok (.newarray .int, 2) := by decide +kernel
theorem dX2_init_17 : decode cX2_init 17 = .ok (.putfield 13, 3) := by decide +kernel
theorem dX2_init_20 : decode cX2_init 20 = .ok (.aload_n 0, 1) := by decide +kernel
theorem dX2_init_21 : decode cX2_init 21 = .ok (.new 17, 3) := by decide +kernel
theorem dX2_init_24 : decode cX2_init 24 = .ok (.dup, 1) := by decide +kernel
theorem dX2_init_25 : decode cX2_init 25 = .ok (.invokespecial 19, 3) := by decide +kernel
theorem dX2_init_28 : decode cX2_init 28 = .ok (.putfield 20, 3) := by decide +kernel
theorem dX2_init_31 : decode cX2_init 31 = .ok (.aload_n 0, 1) := by decide +kernel
theorem dX2_init_32 : decode cX2_init 32 = .ok (.iload_n 1, 1) := by decide +kernel
theorem dX2_init_33 : decode cX2_init 33 = .ok (.bipush 16, 2) := by decide +kernel
theorem dX2_init_35 : decode cX2_init 35 = .ok (.if_icmp .lt 14, 3) := by decide +kernel
theorem dX2_init_38 : decode cX2_init 38 = .ok (.iload_n 1, 1) := by decide +kernel
theorem dX2_init_39 : decode cX2_init 39 = .ok (.sipush 400, 3) := by decide +kernel
theorem dX2_init_42 : decode cX2_init 42 = .ok (.if_icmp .gt 7, 3) := by decide +kernel
theorem dX2_init_45 : decode cX2_init 45 = .ok (.iload_n 1, 1) := by decide +kernel
theorem dX2_init_46 : decode cX2_init 46 = .ok (.goto 5, 3) := by decide +kernel
theorem dX2_init_49 : decode cX2_init 49 = .ok (.bipush 64, 2) := by decide +kernel
theorem dX2_init_51 : decode cX2_init 51 = .ok (.putfield 24, 3) := by decide +kernel
theorem dX2_init_54 : decode cX2_init 54 = .ok (.aload_n 0, 1) := by decide +kernel
theorem dX2_init_55 : decode cX2_init 55 = .ok (.iload_n 2, 1) := by decide +kernel
theorem dX2_init_56 : decode cX2_init 56 = .ok (.iconst 1, 1) := by decide +kernel
theorem dX2_init_57 : decode cX2_init 57 = .ok (.if_icmp .lt 13, 3) := by decide +kernel
theorem dX2_init_60 : decode cX2_init 60 = .ok (.iload_n 2, 1) := by decide +kernel
theorem dX2_init_61 : decode cX2_init 61 = .ok (.bipush 64, 2) := by decide +kernel
theorem dX2_init_63 : decode cX2_init 63 = .ok (.if_icmp .gt 7, 3) := by decide +kernel
theorem dX2_init_66 : decode cX2_init 66 = .ok (.iload_n 2, 1) := by decide +kernel
theorem dX2_init_67 : decode cX2_init 67 = .ok (.goto 4, 3) := by decide +kernel
theorem dX2_init_70 : decode cX2_init 70 = .ok (.iconst 4, 1) := by decide +kernel
theorem dX2_init_71 : decode cX2_init 71 = .ok (.putfield 28, 3) := by decide +kernel
theorem dX2_init_74 : decode cX2_init 74 = .ok (.aload_n 0, 1) := by decide +kernel
theorem dX2_init_75 : decode cX2_init 75 = .ok (.new 31, 3) := by decide +kernel
theorem dX2_init_78 : decode cX2_init 78 = .ok (.dup, 1) := by decide +kernel
theorem dX2_init_79 : decode cX2_init 79 = .ok (.iconst 0, 1) := by decide +kernel
theorem dX2_init_80 : decode cX2_init 80 = .ok (.aload_n 0, 1) := by decide +kernel
theorem dX2_init_81 : decode cX2_init 81 = .ok (.getfield 24, 3) := by decide +kernel
theorem dX2_init_84 : decode cX2_init 84 = .ok (.invokespecial 33, 3) := by decide +kernel
theorem dX2_init_87 : decode cX2_init 87 = .ok (.putfield 36, 3) := by decide +kernel
theorem dX2_init_90 : decode cX2_init 90 = .ok (.aload_n 0, 1) := by decide +kernel
theorem dX2_init_91 : decode cX2_init 91 = .ok (.new 31, 3) := by decide +kernel
theorem dX2_init_94 : decode cX2_init 94 = .ok (.dup, 1) := by decide +kernel
theorem dX2_init_95 : decode cX2_init 95 = .ok (.iconst 1, 1) := by decide +kernel
theorem dX2_init_96 : decode cX2_init 96 = .ok (.aload_n 0, 1) := by decide +kernel
theorem dX2_init_97 : decode cX2_init 97 = .ok (.getfield 24, 3) := by decide +kernel
theorem dX2_init_100 : decode cX2_init 100 = .ok (.invokespecial 33, 3) := by decide +kernel
theorem dX2_init_103 : decode cX2_init 103 = .ok (.putfield 40, 3) := by decide +kernel
theorem dX2_init_106 : decode cX2_init 106 = .ok (.return_, 1) := by decide +kernel
set_option maxRecDepth 20000 in
theorem ggX2_alloc_X2_isRoot : GoodIn wsX2_alloc wsX2_isRoot := goodIn_r _ [12] (by decide +kernel) (by decide +kernel)
set_option maxRecDepth 20000 in
theorem gX2_alloc_X2_isRoot : GoodIn wsX2_alloc (va_wsS RX2 43 yX2_isRoot wsX2_isRoot) := goodIn_app (goodIn_of _ (by decide +kernel)) ggX2_alloc_X2_isRoot
set_option maxRecDepth 20000 in
theorem ggX2_alloc_X2_makeRoom : GoodIn wsX2_alloc wsX2_makeRoom := goodIn_r _ [16, 6, 4, 17, 18, 19, 20, 21, 22, 23, 24, 25, 26, 27, 11, 28, 29, 3, 30, 31, 32, 33, 34, 35, 36, 37, 38, 39, 40, 41, 42, 43, 44, 45, 46, 47, 48, 49, 50, 51, 52, 53, 54, 55, 56, 57, 58, 59, 60, 61, 62, 63, 64, 65, 66, 67, 68, 69, 70, 71, 72, 73, 74, 84, 85, 86, 87, 88, 89, 90, 91, 92, 93, 94, 95, 96, 97, 98, 99, 100, 101, 102, 103, 104, 105, 106, 107] (by decide +kernel) (by decide +kernel)
set_option maxRecDepth 20000 in
theorem gX2_alloc_X2_makeRoom : GoodIn wsX2_alloc (wsV RX2 53 RX2 yX2_makeRoom wsX2_makeRoom) := goodIn_app (goodIn_of _ (by decide +kernel)) ggX2_alloc_X2_makeRoom
set_option maxRecDepth 20000 in
theorem ggX2_alloc_X1_hasRoom : GoodIn wsX2_alloc wsX1_hasRoom := goodIn_r _ [22, 23, 24, 99, 100, 101, 102, 103] (by decide +kernel) (by decide +kernel)
set_option maxRecDepth 20000 in
theorem gX2_alloc_X1_hasRoom_n57 : GoodIn wsX2_alloc (wsX1_hasRoom) := ggX2_alloc_X1_hasRoom
set_option maxRecDepth 20000 in
theorem ggX2_alloc_X1_layObject : GoodIn wsX2_alloc wsX1_layObject := goodIn_r _ [77, 23, 78, 79, 47, 48, 20, 49, 24, 50, 99, 100, 101, 102, 103] (by decide +kernel) (by decide +kernel)
set_option maxRecDepth 20000 in
theorem gX2_alloc_X1_layObject_n60 : GoodIn wsX2_alloc (wsX1_layObject) := ggX2_alloc_X1_layObject
set_option maxRecDepth 20000 in
theorem ggX2_alloc_X2_setRoot : GoodIn wsX2_alloc wsX2_setRoot := goodIn_r _ [83, 63, 42, 84, 85, 86, 87, 88, 89, 90, 91, 92, 93, 94, 95, 96, 97, 98] (by decide +kernel) (by decide +kernel)
set_option maxRecDepth 20000 in
theorem gX2_alloc_X2_setRoot : GoodIn wsX2_alloc (wsV RX2 64 RX2 yX2_setRoot wsX2_setRoot) := goodIn_app (goodIn_of _ (by decide +kernel)) ggX2_alloc_X2_setRoot
set_option maxRecDepth 20000 in
theorem ggX2_alloc_X2_work : GoodIn wsX2_alloc wsX2_work := goodIn_r _ [28, 6, 18, 29, 3, 30, 31, 32, 33, 34, 35, 36, 37, 11, 38, 39, 40, 41, 42, 43, 44, 45, 46, 4, 47, 20, 48, 49, 24, 50, 51, 52, 53, 54, 55, 56, 57, 58, 59, 60, 61, 62, 63, 64, 65, 66, 67, 68, 69, 70, 71, 72, 73, 74, 84, 85, 86, 87, 88, 89, 90, 91, 92, 93, 94, 95, 96, 97, 98, 104, 105, 106, 107, 99, 100, 101, 102, 103] (by decide +kernel) (by decide +kernel)
set_option maxRecDepth 20000 in
theorem gX2_alloc_X2_work : GoodIn wsX2_alloc (wsV RX2 75 RX2 yX2_work wsX2_work) := goodIn_app (goodIn_of _ (by decide +kernel)) ggX2_alloc_X2_work
theorem dX2_alloc_0 : decode cX2_alloc 0 = .ok (.iload_n 1, 1) := by decide +kernel
theorem dX2_alloc_1 : decode cX2_alloc 1 = .ok (.invokestatic 43, 3) := by decide +kernel
theorem dX2_alloc_4 : decode cX2_alloc 4 = .ok (.ifCond .eq 14, 3) := by decide +kernel
theorem dX2_alloc_7 : decode cX2_alloc 7 = .ok (.iload_n 2, 1) := by decide +kernel
theorem dX2_alloc_8 : decode cX2_alloc 8 = .ok (.iconst 1, 1) := by decide +kernel
theorem dX2_alloc_9 : decode cX2_alloc 9 = .ok (.if_icmp .lt 9, 3) := by decide +kernel
theorem dX2_alloc_12 : decode cX2_alloc 12 = .ok (.iload_n 2, 1) := by decide +kernel
theorem dX2_alloc_13 : decode cX2_alloc 13 = .ok (.bipush 8, 2) := by decide +kernel
theorem dX2_alloc_15 : decode cX2_alloc 15 = .ok (.if_icmp .le 11, 3) := by decide +kernel
theorem dX2_alloc_18 : decode cX2_alloc 18 = .ok (.new 47, 3) := by decide +kernel
theorem dX2_alloc_21 : decode cX2_alloc 21 = .ok (.dup, 1) := by decide +kernel
theorem dX2_alloc_22 : decode cX2_alloc 22 = .ok (.invokespecial 49, 3) := by decide +kernel
theorem dX2_alloc_25 : decode cX2_alloc 25 = .ok (.athrow, 1) := by decide +kernel
theorem dX2_alloc_26 : decode cX2_alloc 26 = .ok (.aload_n 0, 1) := by decide +kernel
theorem dX2_alloc_27 : decode cX2_alloc 27 = .ok (.iconst 0, 1) := by decide +kernel
theorem dX2_alloc_28 : decode cX2_alloc 28 = .ok (.putfield 50, 3) := by decide +kernel
theorem dX2_alloc_31 : decode cX2_alloc 31 = .ok (.aload_n 0, 1) := by decide +kernel
theorem dX2_alloc_32 : decode cX2_alloc 32 = .ok (.iload_n 2, 1) := by decide +kernel
theorem dX2_alloc_33 : decode cX2_alloc 33 = .ok (.invokevirtual 53, 3) := by decide +kernel
theorem dX2_alloc_36 : decode cX2_alloc 36 = .ok (.aload_n 0, 1) := by decide +kernel
theorem dX2_alloc_37 : decode cX2_alloc 37 = .ok (.getfield 36, 3) := by decide +kernel
theorem dX2_alloc_40 : decode cX2_alloc 40 = .ok (.iload_n 2, 1) := by decide +kernel
theorem dX2_alloc_41 : decode cX2_alloc 41 = .ok (.invokevirtual 57, 3) := by decide +kernel
theorem dX2_alloc_44 : decode cX2_alloc 44 = .ok (.ifCond .ne 5, 3) := by decide +kernel
theorem dX2_alloc_47 : decode cX2_alloc 47 = .ok (.iconst 0, 1) := by decide +kernel
theorem dX2_alloc_48 : decode cX2_alloc 48 = .ok (.ireturn, 1) := by decide +kernel
theorem dX2_alloc_49 : decode cX2_alloc 49 = .ok (.aload_n 0, 1) := by decide +kernel
theorem dX2_alloc_50 : decode cX2_alloc 50 = .ok (.iload_n 1, 1) := by decide +kernel
theorem dX2_alloc_51 : decode cX2_alloc 51 = .ok (.iconst 1, 1) := by decide +kernel
theorem dX2_alloc_52 : decode cX2_alloc 52 = .ok (.aload_n 0, 1) := by decide +kernel
theorem dX2_alloc_53 : decode cX2_alloc 53 = .ok (.getfield 36, 3) := by decide +kernel
theorem dX2_alloc_56 : decode cX2_alloc 56 = .ok (.iload_n 2, 1) := by decide +kernel
theorem dX2_alloc_57 : decode cX2_alloc 57 = .ok (.invokevirtual 60, 3) := by decide +kernel
theorem dX2_alloc_60 : decode cX2_alloc 60 = .ok (.invokevirtual 64, 3) := by decide +kernel
theorem dX2_alloc_63 : decode cX2_alloc 63 = .ok (.aload_n 0, 1) := by decide +kernel
theorem dX2_alloc_64 : decode cX2_alloc 64 = .ok (.dup, 1) := by decide +kernel
theorem dX2_alloc_65 : decode cX2_alloc 65 = .ok (.getfield 68, 3) := by decide +kernel
theorem dX2_alloc_68 : decode cX2_alloc 68 = .ok (.iconst 1, 1) := by decide +kernel
theorem dX2_alloc_69 : decode cX2_alloc 69 = .ok (.iadd, 1) := by decide +kernel
theorem dX2_alloc_70 : decode cX2_alloc 70 = .ok (.putfield 68, 3) := by decide +kernel
theorem dX2_alloc_73 : decode cX2_alloc 73 = .ok (.aload_n 0, 1) := by decide +kernel
theorem dX2_alloc_74 : decode cX2_alloc 74 = .ok (.getfield 71, 3) := by decide +kernel
theorem dX2_alloc_77 : decode cX2_alloc 77 = .ok (.ifCond .eq 18, 3) := by decide +kernel
theorem dX2_alloc_80 : decode cX2_alloc 80 = .ok (.aload_n 0, 1) := by decide +kernel
theorem dX2_alloc_81 : decode cX2_alloc 81 = .ok (.aload_n 0, 1) := by decide +kernel
theorem dX2_alloc_82 : decode cX2_alloc 82 = .ok (.getfield 28, 3) := by decide +kernel
theorem dX2_alloc_85 : decode cX2_alloc 85 = .ok (.iload_n 2, 1) := by decide +kernel
theorem dX2_alloc_86 : decode cX2_alloc 86 = .ok (.iconst 1, 1) := by decide +kernel
theorem dX2_alloc_87 : decode cX2_alloc 87 = .ok (.iadd, 1) := by decide +kernel
theorem dX2_alloc_88 : decode cX2_alloc 88 = .ok (.imul, 1) := by decide +kernel
theorem dX2_alloc_89 : decode cX2_alloc 89 = .ok (.invokevirtual 75, 3) := by decide +kernel
theorem dX2_alloc_92 : decode cX2_alloc 92 = .ok (.goto 24, 3) := by decide +kernel
theorem dX2_alloc_95 : decode cX2_alloc 95 = .ok (.aload_n 0, 1) := by decide +kernel
theorem dX2_alloc_96 : decode cX2_alloc 96 = .ok (.getfield 36, 3) := by decide +kernel
theorem dX2_alloc_99 : decode cX2_alloc 99 = .ok (.getfield 78, 3) := by decide +kernel
theorem dX2_alloc_102 : decode cX2_alloc 102 = .ok (.iconst 2, 1) := by decide +kernel
theorem dX2_alloc_103 : decode cX2_alloc 103 = .ok (.imul, 1) := by decide +kernel
theorem dX2_alloc_104 : decode cX2_alloc 104 = .ok (.aload_n 0, 1) := by decide +kernel
theorem dX2_alloc_105 : decode cX2_alloc 105 = .ok (.getfield 24, 3) := by decide +kernel
theorem dX2_alloc_108 : decode cX2_alloc 108 = .ok (.if_icmp .le 8, 3) := by decide +kernel
theorem dX2_alloc_111 : decode cX2_alloc 111 = .ok (.aload_n 0, 1) := by decide +kernel
theorem dX2_alloc_112 : decode cX2_alloc 112 = .ok (.iconst 1, 1) := by decide +kernel
theorem dX2_alloc_113 : decode cX2_alloc 113 = .ok (.putfield 71, 3) := by decide +kernel
theorem dX2_alloc_116 : decode cX2_alloc 116 = .ok (.iconst 1, 1) := by decide +kernel
theorem dX2_alloc_117 : decode cX2_alloc 117 = .ok (.ireturn, 1) := by decide +kernel
set_option maxRecDepth 20000 in
theorem ggX2_put_X2_isRoot : GoodIn wsX2_put wsX2_isRoot := goodIn_r _ [11] (by decide +kernel) (by decide +kernel)
set_option maxRecDepth 20000 in
theorem gX2_put_X2_isRoot : GoodIn wsX2_put (va_wsS RX2 43 yX2_isRoot wsX2_isRoot) := goodIn_app (goodIn_of _ (by decide +kernel)) ggX2_put_X2_isRoot
set_option maxRecDepth 20000 in
theorem ggX2_put_X2_hasField : GoodIn wsX2_put wsX2_hasField := goodIn_r _ [15, 5, 6, 7, 80, 81, 82, 83, 84, 85, 86, 87, 88, 89, 90, 91, 92, 93, 94, 95, 96, 97, 98, 99] (by decide +kernel) (by decide +kernel)
set_option maxRecDepth 20000 in
theorem gX2_put_X2_hasField : GoodIn wsX2_put (wsV RX2 81 RX2 yX2_hasField wsX2_hasField) := goodIn_app (goodIn_of _ (by decide +kernel)) ggX2_put_X2_hasField
set_option maxRecDepth 20000 in
theorem ggX2_put_X2_change : GoodIn wsX2_put wsX2_change := goodIn_r _ [19, 6, 20, 21, 22, 23, 24, 25, 26, 27, 28, 29, 30, 31, 32, 33, 34, 35, 36, 37, 38, 39, 40, 41, 42, 43, 44, 10, 45, 46, 47, 48, 49, 50, 51, 52, 53, 54, 55, 56, 57, 58, 7, 59, 60, 61, 62, 63, 64, 65, 66, 67, 68, 69, 70, 71, 72, 73, 74, 5, 75, 76, 77, 78, 79, 80, 81, 82, 83, 84, 85, 86, 87, 88, 89, 90, 91, 92, 93, 94, 95, 96, 97, 98, 99, 100, 101, 102, 103] (by decide +kernel) (by decide +kernel)
set_option maxRecDepth 20000 in
theorem gX2_put_X2_change : GoodIn wsX2_put (wsV RX2 91 RX2 yX2_change wsX2_change) := goodIn_app (goodIn_of _ (by decide +kernel)) ggX2_put_X2_change
theorem dX2_put_0 : decode cX2_put 0 = .ok (.iload_n 1, 1) := by decide +kernel
theorem dX2_put_1 : decode cX2_put 1 = .ok (.invokestatic 43, 3) := by decide +kernel
theorem dX2_put_4 : decode cX2_put 4 = .ok (.ifCond .eq 10, 3) := by decide +kernel
theorem dX2_put_7 : decode cX2_put 7 = .ok (.iload_n 3, 1) := by decide +kernel
theorem dX2_put_8 : decode cX2_put 8 = .ok (.invokestatic 43, 3) := by decide +kernel
theorem dX2_put_11 : decode cX2_put 11 = .ok (.ifCond .ne 11, 3) := by decide +kernel
theorem dX2_put_14 : decode cX2_put 14 = .ok (.new 47, 3) := by decide +kernel
theorem dX2_put_17 : decode cX2_put 17 = .ok (.dup, 1) := by decide +kernel
theorem dX2_put_18 : decode cX2_put 18 = .ok (.invokespecial 49, 3) := by decide +kernel
theorem dX2_put_21 : decode cX2_put 21 = .ok (.athrow, 1) := by decide +kernel
theorem dX2_put_22 : decode cX2_put 22 = .ok (.aload_n 0, 1) := by decide +kernel
theorem dX2_put_23 : decode cX2_put 23 = .ok (.iload_n 1, 1) := by decide +kernel
theorem dX2_put_24 : decode cX2_put 24 = .ok (.iload_n 2, 1) := by decide +kernel
theorem dX2_put_25 : decode cX2_put 25 = .ok (.invokevirtual 81, 3) := by decide +kernel
theorem dX2_put_28 : decode cX2_put 28 = .ok (.ifCond .ne 11, 3) := by decide +kernel
theorem dX2_put_31 : decode cX2_put 31 = .ok (.new 85, 3) := by decide +kernel
theorem dX2_put_34 : decode cX2_put 34 = .ok (.dup, 1) := by decide +kernel
theorem dX2_put_35 : decode cX2_put 35 = .ok (.invokespecial 87, 3) := by decide +kernel
theorem dX2_put_38 : decode cX2_put 38 = .ok (.athrow, 1) := by decide +kernel
theorem dX2_put_39 : decode cX2_put 39 = .ok (.aload_n 0, 1) := by decide +kernel
theorem dX2_put_40 : decode cX2_put 40 = .ok (.getfield 9, 3) := by decide +kernel
theorem dX2_put_43 : decode cX2_put 43 = .ok (.iload_n 3, 1) := by decide +kernel
theorem dX2_put_44 : decode cX2_put 44 = .ok (.baload, 1) := by decide +kernel
theorem dX2_put_45 : decode cX2_put 45 = .ok (.ifCond .eq 15, 3) := by decide +kernel
theorem dX2_put_48 : decode cX2_put 48 = .ok (.iconst 1, 1) := by decide +kernel
theorem dX2_put_49 : decode cX2_put 49 = .ok (.aload_n 0, 1) := by decide +kernel
theorem dX2_put_50 : decode cX2_put 50 = .ok (.getfield 36, 3) := by decide +kernel
theorem dX2_put_53 : decode cX2_put 53 = .ok (.getfield 88, 3) := by decide +kernel
theorem dX2_put_56 : decode cX2_put 56 = .ok (.iadd, 1) := by decide +kernel
theorem dX2_put_57 : decode cX2_put 57 = .ok (.goto 4, 3) := by decide +kernel
theorem dX2_put_60 : decode cX2_put 60 = .ok (.iconst 0, 1) := by decide +kernel
theorem dX2_put_61 : decode cX2_put 61 = .ok (.istore 4, 2) := by decide +kernel
theorem dX2_put_63 : decode cX2_put 63 = .ok (.aload_n 0, 1) := by decide +kernel
theorem dX2_put_64 : decode cX2_put 64 = .ok (.aload_n 0, 1) := by decide +kernel
theorem dX2_put_65 : decode cX2_put 65 = .ok (.getfield 13, 3) := by decide +kernel
theorem dX2_put_68 : decode cX2_put 68 = .ok (.iload_n 1, 1) := by decide +kernel
theorem dX2_put_69 : decode cX2_put 69 = .ok (.iaload, 1) := by decide +kernel
theorem dX2_put_70 : decode cX2_put 70 = .ok (.iload_n 2, 1) := by decide +kernel
theorem dX2_put_71 : decode cX2_put 71 = .ok (.iload 4, 2) := by decide +kernel
theorem dX2_put_73 : decode cX2_put 73 = .ok (.aload_n 0, 1) := by decide +kernel
theorem dX2_put_74 : decode cX2_put 74 = .ok (.getfield 13, 3) := by decide +kernel
theorem dX2_put_77 : decode cX2_put 77 = .ok (.iload_n 3, 1) := by decide +kernel
theorem dX2_put_78 : decode cX2_put 78 = .ok (.iaload, 1) := by decide +kernel
theorem dX2_put_79 : decode cX2_put 79 = .ok (.invokevirtual 91, 3) := by decide +kernel
theorem dX2_put_82 : decode cX2_put 82 = .ok (.return_, 1) := by decide +kernel
set_option maxRecDepth 20000 in
theorem ggX2_putNumber_X2_isRoot : GoodIn wsX2_putNumber wsX2_isRoot := goodIn_r _ [9] (by decide +kernel) (by decide +kernel)
set_option maxRecDepth 20000 in
theorem gX2_putNumber_X2_isRoot : GoodIn wsX2_putNumber (va_wsS RX2 43 yX2_isRoot wsX2_isRoot) := goodIn_app (goodIn_of _ (by decide +kernel)) ggX2_putNumber_X2_isRoot
set_option maxRecDepth 20000 in
theorem ggX2_putNumber_X2_hasField : GoodIn wsX2_putNumber wsX2_hasField := goodIn_r _ [13, 14, 15, 5, 80, 81, 82, 83, 84, 85, 86, 87, 88, 89, 90, 91, 92, 93, 94, 95, 96, 97, 98, 99] (by decide +kernel) (by decide +kernel)
set_option maxRecDepth 20000 in
theorem gX2_putNumber_X2_hasField : GoodIn wsX2_putNumber (wsV RX2 81 RX2 yX2_hasField wsX2_hasField) := goodIn_app (goodIn_of _ (by decide +kernel)) ggX2_putNumber_X2_hasField
set_option maxRecDepth 20000 in
theorem ggX2_putNumber_X2_change : GoodIn wsX2_putNumber wsX2_change := goodIn_r _ [19, 15, 20, 21, 22, 23, 24, 25, 26, 27, 28, 29, 30, 31, 32, 33, 34, 35, 36, 37, 38, 39, 40, 41, 42, 43, 44, 8, 45, 46, 47, 48, 49, 50, 51, 52, 53, 54, 55, 56, 57, 58, 5, 59, 60, 61, 62, 63, 64, 65, 66, 67, 68, 69, 70, 71, 72, 73, 74, 14, 75, 76, 77, 78, 79, 80, 81, 82, 83, 84, 85, 86, 87, 88, 89, 90, 91, 92, 93, 94, 95, 96, 97, 98, 99, 100, 101, 102, 103] (by decide +kernel) (by decide +kernel)
set_option maxRecDepth 20000 in
theorem gX2_putNumber_X2_change : GoodIn wsX2_putNumber (wsV RX2 91 RX2 yX2_change wsX2_change) := goodIn_app (goodIn_of _ (by decide +kernel)) ggX2_putNumber_X2_change
theorem dX2_putNumber_0 : decode cX2_putNumber 0 = .ok (.iload_n 1, 1) := by decide +kernel
theorem dX2_putNumber_1 : decode cX2_putNumber 1 = .ok (.invokestatic 43, 3) := by decide +kernel
theorem dX2_putNumber_4 : decode cX2_putNumber 4 = .ok (.ifCond .ne 11, 3) := by decide +kernel
theorem dX2_putNumber_7 : decode cX2_putNumber 7 = .ok (.new 47, 3) := by decide +kernel
theorem dX2_putNumber_10 : decode cX2_putNumber 10 = .ok (.dup, 1) := by decide +kernel
theorem dX2_putNumber_11 : decode cX2_putNumber 11 = .ok (.invokespecial 49, 3) := by decide +kernel
theorem dX2_putNumber_14 : decode cX2_putNumber 14 = .ok (.athrow, 1) := by decide +kernel
theorem dX2_putNumber_15 : decode cX2_putNumber 15 = .ok (.aload_n 0, 1) := by decide +kernel
theorem dX2_putNumber_16 : decode cX2_putNumber 16 = .ok (.iload_n 1, 1) := by decide +kernel
theorem dX2_putNumber_17 : decode cX2_putNumber 17 = .ok (.iload_n 2, 1) := by decide +kernel
theorem dX2_putNumber_18 : decode cX2_putNumber 18 = .ok (.invokevirtual 81, 3) := by decide +kernel
theorem dX2_putNumber_21 : decode cX2_putNumber 21 = .ok (.ifCond .ne 11, 3) := by decide +kernel
theorem dX2_putNumber_24 : decode cX2_putNumber 24 = .ok (.new 85, 3) := by decide +kernel
theorem dX2_putNumber_27 : decode cX2_putNumber 27 = .ok (.dup, 1) := by decide +kernel
theorem dX2_putNumber_28 : decode cX2_putNumber 28 = .ok (.invokespecial 87, 3) := by decide +kernel
theorem dX2_putNumber_31 : decode cX2_putNumber 31 = .ok (.athrow, 1) := by decide +kernel
theorem dX2_putNumber_32 : decode cX2_putNumber 32 = .ok (.aload_n 0, 1) := by decide +kernel
theorem dX2_putNumber_33 : decode cX2_putNumber 33 = .ok (.aload_n 0, 1) := by decide +kernel
theorem dX2_putNumber_34 : decode cX2_putNumber 34 = .ok (.getfield 13, 3) := by decide +kernel
theorem dX2_putNumber_37 : decode cX2_putNumber 37 = .ok (.iload_n 1, 1) := by decide +kernel
theorem dX2_putNumber_38 : decode cX2_putNumber 38 = .ok (.iaload, 1) := by decide +kernel
theorem dX2_putNumber_39 : decode cX2_putNumber 39 = .ok (.iload_n 2, 1) := by decide +kernel
theorem dX2_putNumber_40 : decode cX2_putNumber 40 = .ok (.iconst 0, 1) := by decide +kernel
theorem dX2_putNumber_41 : decode cX2_putNumber 41 = .ok (.iload_n 3, 1) := by decide +kernel
theorem dX2_putNumber_42 : decode cX2_putNumber 42 = .ok (.invokevirtual 91, 3) := by decide +kernel
theorem dX2_putNumber_45 : decode cX2_putNumber 45 = .ok (.return_, 1) := by decide +kernel
set_option maxRecDepth 20000 in
theorem ggX2_get_X2_isRoot : GoodIn wsX2_get wsX2_isRoot := goodIn_r _ [10] (by decide +kernel) (by decide +kernel)
set_option maxRecDepth 20000 in
theorem gX2_get_X2_isRoot : GoodIn wsX2_get (va_wsS RX2 43 yX2_isRoot wsX2_isRoot) := goodIn_app (goodIn_of _ (by decide +kernel)) ggX2_get_X2_isRoot
set_option maxRecDepth 20000 in
theorem ggX2_get_X2_hasField : GoodIn wsX2_get wsX2_hasField := goodIn_r _ [14, 15, 6, 5, 20, 21, 22, 23, 24, 25, 26, 27, 28, 29, 30, 31, 32, 33, 34, 35, 36, 37, 38, 39] (by decide +kernel) (by decide +kernel)
set_option maxRecDepth 20000 in
theorem gX2_get_X2_hasField : GoodIn wsX2_get (wsV RX2 81 RX2 yX2_hasField wsX2_hasField) := goodIn_app (goodIn_of _ (by decide +kernel)) ggX2_get_X2_hasField
set_option maxRecDepth 20000 in
theorem ggX2_get_X2_setRoot : GoodIn wsX2_get wsX2_setRoot := goodIn_r _ [19, 15, 5, 20, 21, 22, 23, 24, 25, 26, 27, 28, 29, 30, 31, 32, 33, 34] (by decide +kernel) (by decide +kernel)
set_option maxRecDepth 20000 in
theorem gX2_get_X2_setRoot : GoodIn wsX2_get (wsV RX2 64 RX2 yX2_setRoot wsX2_setRoot) := goodIn_app (goodIn_of _ (by decide +kernel)) ggX2_get_X2_setRoot
theorem dX2_get_0 : decode cX2_get 0 = .ok (.iload_n 1, 1) := by decide +kernel
theorem dX2_get_1 : decode cX2_get 1 = .ok (.invokestatic 43, 3) := by decide +kernel
theorem dX2_get_4 : decode cX2_get 4 = .ok (.ifCond .eq 10, 3) := by decide +kernel
theorem dX2_get_7 : decode cX2_get 7 = .ok (.iload_n 2, 1) := by decide +kernel
theorem dX2_get_8 : decode cX2_get 8 = .ok (.invokestatic 43, 3) := by decide +kernel
theorem dX2_get_11 : decode cX2_get 11 = .ok (.ifCond .ne 11, 3) := by decide +kernel
theorem dX2_get_14 : decode cX2_get 14 = .ok (.new 47, 3) := by decide +kernel
theorem dX2_get_17 : decode cX2_get 17 = .ok (.dup, 1) := by decide +kernel
theorem dX2_get_18 : decode cX2_get 18 = .ok (.invokespecial 49, 3) := by decide +kernel
theorem dX2_get_21 : decode cX2_get 21 = .ok (.athrow, 1) := by decide +kernel
theorem dX2_get_22 : decode cX2_get 22 = .ok (.aload_n 0, 1) := by decide +kernel
theorem dX2_get_23 : decode cX2_get 23 = .ok (.iload_n 2, 1) := by decide +kernel
theorem dX2_get_24 : decode cX2_get 24 = .ok (.iload_n 3, 1) := by decide +kernel
theorem dX2_get_25 : decode cX2_get 25 = .ok (.invokevirtual 81, 3) := by decide +kernel
theorem dX2_get_28 : decode cX2_get 28 = .ok (.ifCond .ne 11, 3) := by decide +kernel
theorem dX2_get_31 : decode cX2_get 31 = .ok (.new 85, 3) := by decide +kernel
theorem dX2_get_34 : decode cX2_get 34 = .ok (.dup, 1) := by decide +kernel
theorem dX2_get_35 : decode cX2_get 35 = .ok (.invokespecial 87, 3) := by decide +kernel
theorem dX2_get_38 : decode cX2_get 38 = .ok (.athrow, 1) := by decide +kernel
theorem dX2_get_39 : decode cX2_get 39 = .ok (.aload_n 0, 1) := by decide +kernel
theorem dX2_get_40 : decode cX2_get 40 = .ok (.getfield 13, 3) := by decide +kernel
theorem dX2_get_43 : decode cX2_get 43 = .ok (.iload_n 2, 1) := by decide +kernel
theorem dX2_get_44 : decode cX2_get 44 = .ok (.iaload, 1) := by decide +kernel
theorem dX2_get_45 : decode cX2_get 45 = .ok (.iconst 1, 1) := by decide +kernel
theorem dX2_get_46 : decode cX2_get 46 = .ok (.iadd, 1) := by decide +kernel
theorem dX2_get_47 : decode cX2_get 47 = .ok (.iload_n 3, 1) := by decide +kernel
theorem dX2_get_48 : decode cX2_get 48 = .ok (.iadd, 1) := by decide +kernel
theorem dX2_get_49 : decode cX2_get 49 = .ok (.istore 4, 2) := by decide +kernel
theorem dX2_get_51 : decode cX2_get 51 = .ok (.aload_n 0, 1) := by decide +kernel
theorem dX2_get_52 : decode cX2_get 52 = .ok (.iload_n 1, 1) := by decide +kernel
theorem dX2_get_53 : decode cX2_get 53 = .ok (.aload_n 0, 1) := by decide +kernel
theorem dX2_get_54 : decode cX2_get 54 = .ok (.getfield 36, 3) := by decide +kernel
theorem dX2_get_57 : decode cX2_get 57 = .ok (.getfield 95, 3) := by decide +kernel
theorem dX2_get_60 : decode cX2_get 60 = .ok (.iload 4, 2) := by decide +kernel
theorem dX2_get_62 : decode cX2_get 62 = .ok (.iaload, 1) := by decide +kernel
theorem dX2_get_63 : decode cX2_get 63 = .ok (.ifCond .eq 7, 3) := by decide +kernel
theorem dX2_get_66 : decode cX2_get 66 = .ok (.iconst 1, 1) := by decide +kernel
theorem dX2_get_67 : decode cX2_get 67 = .ok (.goto 4, 3) := by decide +kernel
theorem dX2_get_70 : decode cX2_get 70 = .ok (.iconst 0, 1) := by decide +kernel
theorem dX2_get_71 : decode cX2_get 71 = .ok (.aload_n 0, 1) := by decide +kernel
theorem dX2_get_72 : decode cX2_get 72 = .ok (.getfield 36, 3) := by decide +kernel
theorem dX2_get_75 : decode cX2_get 75 = .ok (.getfield 98, 3) := by decide +kernel
theorem dX2_get_78 : decode cX2_get 78 = .ok (.iload 4, 2) := by decide +kernel
theorem dX2_get_80 : decode cX2_get 80 = .ok (.iaload, 1) := by decide +kernel
theorem dX2_get_81 : decode cX2_get 81 = .ok (.invokevirtual 64, 3) := by decide +kernel
theorem dX2_get_84 : decode cX2_get 84 = .ok (.return_, 1) := by decide +kernel
set_option maxRecDepth 20000 in
theorem ggX2_move_X2_isRoot : GoodIn wsX2_move wsX2_isRoot := goodIn_r _ [6] (by decide +kernel) (by decide +kernel)
set_option maxRecDepth 20000 in
theorem gX2_move_X2_isRoot : GoodIn wsX2_move (va_wsS RX2 43 yX2_isRoot wsX2_isRoot) := goodIn_app (goodIn_of _ (by decide +kernel)) ggX2_move_X2_isRoot
set_option maxRecDepth 20000 in
theorem ggX2_move_X2_setRoot : GoodIn wsX2_move wsX2_setRoot := goodIn_r _ [10, 1, 2, 11, 12, 13, 14, 15, 16, 17, 18, 19, 20, 21, 22, 23, 24, 25] (by decide +kernel) (by decide +kernel)
set_option maxRecDepth 20000 in
theorem gX2_move_X2_setRoot : GoodIn wsX2_move (wsV RX2 64 RX2 yX2_setRoot wsX2_setRoot) := goodIn_app (goodIn_of _ (by decide +kernel)) ggX2_move_X2_setRoot
theorem dX2_move_0 : decode cX2_move 0 = .ok (.iload_n 1, 1) := by decide +kernel
theorem dX2_move_1 : decode cX2_move 1 = .ok (.invokestatic 43, 3) := by decide +kernel
theorem dX2_move_4 : decode cX2_move 4 = .ok (.ifCond .eq 10, 3) := by decide +kernel
theorem dX2_move_7 : decode cX2_move 7 = .ok (.iload_n 2, 1) := by decide +kernel
theorem dX2_move_8 : decode cX2_move 8 = .ok (.invokestatic 43, 3) := by decide +kernel
theorem dX2_move_11 : decode cX2_move 11 = .ok (.ifCond .ne 5, 3) := by decide +kernel
theorem dX2_move_14 : decode cX2_move 14 = .ok (.iconst 0, 1) := by decide +kernel
theorem dX2_move_15 : decode cX2_move 15 = .ok (.ireturn, 1) := by decide +kernel
theorem dX2_move_16 : decode cX2_move 16 = .ok (.aload_n 0, 1) := by decide +kernel
theorem dX2_move_17 : decode cX2_move 17 = .ok (.iload_n 1, 1) := by decide +kernel
theorem dX2_move_18 : decode cX2_move 18 = .ok (.aload_n 0, 1) := by decide +kernel
theorem dX2_move_19 : decode cX2_move 19 = .ok (.getfield 9, 3) := by decide +kernel
theorem dX2_move_22 : decode cX2_move 22 = .ok (.iload_n 2, 1) := by decide +kernel
theorem dX2_move_23 : decode cX2_move 23 = .ok (.baload, 1) := by decide +kernel
theorem dX2_move_24 : decode cX2_move 24 = .ok (.aload_n 0, 1) := by decide +kernel
theorem dX2_move_25 : decode cX2_move 25 = .ok (.getfield 13, 3) := by decide +kernel
theorem dX2_move_28 : decode cX2_move 28 = .ok (.iload_n 2, 1) := by decide +kernel
theorem dX2_move_29 : decode cX2_move 29 = .ok (.iaload, 1) := by decide +kernel
theorem dX2_move_30 : decode cX2_move 30 = .ok (.invokevirtual 64, 3) := by decide +kernel
theorem dX2_move_33 : decode cX2_move 33 = .ok (.iconst 1, 1) := by decide +kernel
theorem dX2_move_34 : decode cX2_move 34 = .ok (.ireturn, 1) := by decide +kernel
set_option maxRecDepth 20000 in
theorem ggX2_number_X2_isRoot : GoodIn wsX2_number wsX2_isRoot := goodIn_r _ [4] (by decide +kernel) (by decide +kernel)
set_option maxRecDepth 20000 in
theorem gX2_number_X2_isRoot : GoodIn wsX2_number (va_wsS RX2 43 yX2_isRoot wsX2_isRoot) := goodIn_app (goodIn_of _ (by decide +kernel)) ggX2_number_X2_isRoot
set_option maxRecDepth 20000 in
theorem ggX2_number_X2_setRoot : GoodIn wsX2_number wsX2_setRoot := goodIn_r _ [8, 9, 10, 11, 12, 13, 14, 15, 16, 17, 18, 19, 20, 21, 22, 23, 24, 25] (by decide +kernel) (by decide +kernel)
set_option maxRecDepth 20000 in
theorem gX2_number_X2_setRoot : GoodIn wsX2_number (wsV RX2 64 RX2 yX2_setRoot wsX2_setRoot) := goodIn_app (goodIn_of _ (by decide +kernel)) ggX2_number_X2_setRoot
theorem dX2_number_0 : decode cX2_number 0 = .ok (.iload_n 1, 1) := by decide +kernel
theorem dX2_number_1 : decode cX2_number 1 = .ok (.invokestatic 43, 3) := by decide +kernel
theorem dX2_number_4 : decode cX2_number 4 = .ok (.ifCond .ne 5, 3) := by decide +kernel
theorem dX2_number_7 : decode cX2_number 7 = .ok (.iconst 0, 1) := by decide +kernel
theorem dX2_number_8 : decode cX2_number 8 = .ok (.ireturn, 1) := by decide +kernel
theorem dX2_number_9 : decode cX2_number 9 = .ok (.aload_n 0, 1) := by decide +kernel
theorem dX2_number_10 : decode cX2_number 10 = .ok (.iload_n 1, 1) := by decide +kernel
theorem dX2_number_11 : decode cX2_number 11 = .ok (.iconst 0, 1) := by decide +kernel
theorem dX2_number_12 : decode cX2_number 12 = .ok (.iload_n 2, 1) := by decide +kernel
theorem dX2_number_13 : decode cX2_number 13 = .ok (.invokevirtual 64, 3) := by decide +kernel
theorem dX2_number_16 : decode cX2_number 16 = .ok (.iconst 1, 1) := by decide +kernel
theorem dX2_number_17 : decode cX2_number 17 = .ok (.ireturn, 1) := by decide +kernel
set_option maxRecDepth 20000 in
theorem ggX2_collect_X2_work : GoodIn wsX2_collect wsX2_work := goodIn_r _ [10, 4, 5, 11, 3, 12, 13, 14, 15, 16, 17, 18, 19, 9, 20, 21, 22, 23, 24, 25, 26, 27, 28, 29, 30, 31, 32, 33, 34, 35, 36, 37, 38, 39, 40, 41, 42, 43, 44, 45, 46, 47, 48, 49, 50, 51, 52, 53, 54, 55, 56, 57, 58, 59, 60, 61, 62, 63, 64, 65, 66, 67, 68, 69, 70, 71, 72, 73, 74, 75, 76, 77, 78, 79, 80, 81, 82, 83] (by decide +kernel) (by decide +kernel)
set_option maxRecDepth 20000 in
theorem gX2_collect_X2_work : GoodIn wsX2_collect (wsV RX2 75 RX2 yX2_work wsX2_work) := goodIn_app (goodIn_of _ (by decide +kernel)) ggX2_collect_X2_work
theorem dX2_collect_0 : decode cX2_collect 0 = .ok (.iload_n 1, 1) := by decide +kernel
theorem dX2_collect_1 : decode cX2_collect 1 = .ok (.iconst (-1), 1) := by decide +kernel
theorem dX2_collect_2 : decode cX2_collect 2 = .ok (.if_icmp .ge 11, 3) := by decide +kernel
theorem dX2_collect_5 : decode cX2_collect 5 = .ok (.new 47, 3) := by decide +kernel
theorem dX2_collect_8 : decode cX2_collect 8 = .ok (.dup, 1) := by decide +kernel
theorem dX2_collect_9 : decode cX2_collect 9 = .ok (.invokespecial 49, 3) := by decide +kernel
theorem dX2_collect_12 : decode cX2_collect 12 = .ok (.athrow, 1) := by decide +kernel
theorem dX2_collect_13 : decode cX2_collect 13 = .ok (.aload_n 0, 1) := by decide +kernel
theorem dX2_collect_14 : decode cX2_collect 14 = .ok (.iconst 0, 1) := by decide +kernel
theorem dX2_collect_15 : decode cX2_collect 15 = .ok (.putfield 50, 3) := by decide +kernel
theorem dX2_collect_18 : decode cX2_collect 18 = .ok (.aload_n 0, 1) := by decide +kernel
theorem dX2_collect_19 : decode cX2_collect 19 = .ok (.iconst 1, 1) := by decide +kernel
theorem dX2_collect_20 : decode cX2_collect 20 = .ok (.putfield 71, 3) := by decide +kernel
theorem dX2_collect_23 : decode cX2_collect 23 = .ok (.aload_n 0, 1) := by decide +kernel
theorem dX2_collect_24 : decode cX2_collect 24 = .ok (.iload_n 1, 1) := by decide +kernel
theorem dX2_collect_25 : decode cX2_collect 25 = .ok (.iconst (-1), 1) := by decide +kernel
theorem dX2_collect_26 : decode cX2_collect 26 = .ok (.if_icmp .ne 8, 3) := by decide +kernel
theorem dX2_collect_29 : decode cX2_collect 29 = .ok (.ldc 101, 2) := by decide +kernel
theorem dX2_collect_31 : decode cX2_collect 31 = .ok (.goto 4, 3) := by decide +kernel
theorem dX2_collect_34 : decode cX2_collect 34 = .ok (.iload_n 1, 1) := by decide +kernel
theorem dX2_collect_35 : decode cX2_collect 35 = .ok (.invokevirtual 75, 3) := by decide +kernel
theorem dX2_collect_38 : decode cX2_collect 38 = .ok (.aload_n 0, 1) := by decide +kernel
theorem dX2_collect_39 : decode cX2_collect 39 = .ok (.getfield 50, 3) := by decide +kernel
theorem dX2_collect_42 : decode cX2_collect 42 = .ok (.ireturn, 1) := by decide +kernel
set_option maxRecDepth 20000 in
theorem ggX2_look_X2_isRoot : GoodIn wsX2_look wsX2_isRoot := goodIn_r _ [9] (by decide +kernel) (by decide +kernel)
set_option maxRecDepth 20000 in
theorem gX2_look_X2_isRoot : GoodIn wsX2_look (va_wsS RX2 43 yX2_isRoot wsX2_isRoot) := goodIn_app (goodIn_of _ (by decide +kernel)) ggX2_look_X2_isRoot
theorem dX2_look_0 : decode cX2_look 0 = .ok (.iload_n 1, 1) := by decide +kernel
theorem dX2_look_1 : decode cX2_look 1 = .ok (.invokestatic 43, 3) := by decide +kernel
theorem dX2_look_4 : decode cX2_look 4 = .ok (.ifCond .eq 12, 3) := by decide +kernel
theorem dX2_look_7 : decode cX2_look 7 = .ok (.iload_n 2, 1) := by decide +kernel
theorem dX2_look_8 : decode cX2_look 8 = .ok (.ifCond .lt 8, 3) := by decide +kernel
theorem dX2_look_11 : decode cX2_look 11 = .ok (.iload_n 2, 1) := by decide +kernel
theorem dX2_look_12 : decode cX2_look 12 = .ok (.iconst 3, 1) := by decide +kernel
theorem dX2_look_13 : decode cX2_look 13 = .ok (.if_icmp .le 11, 3) := by decide +kernel
theorem dX2_look_16 : decode cX2_look 16 = .ok (.new 102, 3) := by decide +kernel
theorem dX2_look_19 : decode cX2_look 19 = .ok (.dup, 1) := by decide +kernel
theorem dX2_look_20 : decode cX2_look 20 = .ok (.invokespecial 104, 3) := by decide +kernel
theorem dX2_look_23 : decode cX2_look 23 = .ok (.athrow, 1) := by decide +kernel
theorem dX2_look_24 : decode cX2_look 24 = .ok (.aload_n 0, 1) := by decide +kernel
theorem dX2_look_25 : decode cX2_look 25 = .ok (.getfield 9, 3) := by decide +kernel
theorem dX2_look_28 : decode cX2_look 28 = .ok (.iload_n 1, 1) := by decide +kernel
theorem dX2_look_29 : decode cX2_look 29 = .ok (.baload, 1) := by decide +kernel
theorem dX2_look_30 : decode cX2_look 30 = .ok (.istore_n 3, 1) := by decide +kernel
theorem dX2_look_31 : decode cX2_look 31 = .ok (.aload_n 0, 1) := by decide +kernel
theorem dX2_look_32 : decode cX2_look 32 = .ok (.getfield 13, 3) := by decide +kernel
theorem dX2_look_35 : decode cX2_look 35 = .ok (.iload_n 1, 1) := by decide +kernel
theorem dX2_look_36 : decode cX2_look 36 = .ok (.iaload, 1) := by decide +kernel
theorem dX2_look_37 : decode cX2_look 37 = .ok (.istore 4, 2) := by decide +kernel
theorem dX2_look_39 : decode cX2_look 39 = .ok (.iload_n 2, 1) := by decide +kernel
theorem dX2_look_40 : decode cX2_look 40 = .ok (.tableswitch 60 0 2 #[28, 38, 41], 28) := by decide +kernel
theorem dX2_look_68 : decode cX2_look 68 = .ok (.iload_n 3, 1) := by decide +kernel
theorem dX2_look_69 : decode cX2_look 69 = .ok (.ifCond .eq 7, 3) := by decide +kernel
theorem dX2_look_72 : decode cX2_look 72 = .ok (.iconst 1, 1) := by decide +kernel
theorem dX2_look_73 : decode cX2_look 73 = .ok (.goto 4, 3) := by decide +kernel
theorem dX2_look_76 : decode cX2_look 76 = .ok (.iconst 0, 1) := by decide +kernel
theorem dX2_look_77 : decode cX2_look 77 = .ok (.ireturn, 1) := by decide +kernel
theorem dX2_look_78 : decode cX2_look 78 = .ok (.iload 4, 2) := by decide +kernel
theorem dX2_look_80 : decode cX2_look 80 = .ok (.ireturn, 1) := by decide +kernel
theorem dX2_look_81 : decode cX2_look 81 = .ok (.iload_n 3, 1) := by decide +kernel
theorem dX2_look_82 : decode cX2_look 82 = .ok (.ifCond .eq 16, 3) := by decide +kernel
theorem dX2_look_85 : decode cX2_look 85 = .ok (.aload_n 0, 1) := by decide +kernel
theorem dX2_look_86 : decode cX2_look 86 = .ok (.getfield 36, 3) := by decide +kernel
theorem dX2_look_89 : decode cX2_look 89 = .ok (.getfield 98, 3) := by decide +kernel
theorem dX2_look_92 : decode cX2_look 92 = .ok (.iload 4, 2) := by decide +kernel
theorem dX2_look_94 : decode cX2_look 94 = .ok (.iaload, 1) := by decide +kernel
theorem dX2_look_95 : decode cX2_look 95 = .ok (.goto 4, 3) := by decide +kernel
theorem dX2_look_98 : decode cX2_look 98 = .ok (.iconst 0, 1) := by decide +kernel
theorem dX2_look_99 : decode cX2_look 99 = .ok (.ireturn, 1) := by decide +kernel
theorem dX2_look_100 : decode cX2_look 100 = .ok (.iload_n 3, 1) := by decide +kernel
theorem dX2_look_101 : decode cX2_look 101 = .ok (.ifCond .eq 16, 3) := by decide +kernel
theorem dX2_look_104 : decode cX2_look 104 = .ok (.aload_n 0, 1) := by decide +kernel
theorem dX2_look_105 : decode cX2_look 105 = .ok (.getfield 36, 3) := by decide +kernel
theorem dX2_look_108 : decode cX2_look 108 = .ok (.getfield 105, 3) := by decide +kernel
theorem dX2_look_111 : decode cX2_look 111 = .ok (.iload 4, 2) := by decide +kernel
theorem dX2_look_113 : decode cX2_look 113 = .ok (.iaload, 1) := by decide +kernel
theorem dX2_look_114 : decode cX2_look 114 = .ok (.goto 4, 3) := by decide +kernel
theorem dX2_look_117 : decode cX2_look 117 = .ok (.iconst (-1), 1) := by decide +kernel
theorem dX2_look_118 : decode cX2_look 118 = .ok (.ireturn, 1) := by decide +kernel
set_option maxRecDepth 20000 in
theorem ggX2_field_X2_isRoot : GoodIn wsX2_field wsX2_isRoot := goodIn_r _ [8] (by decide +kernel) (by decide +kernel)
set_option maxRecDepth 20000 in
theorem gX2_field_X2_isRoot : GoodIn wsX2_field (va_wsS RX2 43 yX2_isRoot wsX2_isRoot) := goodIn_app (goodIn_of _ (by decide +kernel)) ggX2_field_X2_isRoot
set_option maxRecDepth 20000 in
theorem ggX2_field_X2_hasField : GoodIn wsX2_field wsX2_hasField := goodIn_r _ [12, 13, 4, 3, 14, 15, 16, 17, 18, 19, 20, 21, 22, 23, 24, 25, 26, 27, 28, 29, 30, 31, 32, 33] (by decide +kernel) (by decide +kernel)
set_option maxRecDepth 20000 in
theorem gX2_field_X2_hasField : GoodIn wsX2_field (wsV RX2 81 RX2 yX2_hasField wsX2_hasField) := goodIn_app (goodIn_of _ (by decide +kernel)) ggX2_field_X2_hasField
theorem dX2_field_0 : decode cX2_field 0 = .ok (.iload_n 1, 1) := by decide +kernel
theorem dX2_field_1 : decode cX2_field 1 = .ok (.invokestatic 43, 3) := by decide +kernel
theorem dX2_field_4 : decode cX2_field 4 = .ok (.ifCond .eq 21, 3) := by decide +kernel
theorem dX2_field_7 : decode cX2_field 7 = .ok (.aload_n 0, 1) := by decide +kernel
theorem dX2_field_8 : decode cX2_field 8 = .ok (.iload_n 1, 1) := by decide +kernel
theorem dX2_field_9 : decode cX2_field 9 = .ok (.iload_n 2, 1) := by decide +kernel
theorem dX2_field_10 : decode cX2_field 10 = .ok (.invokevirtual 81, 3) := by decide +kernel
theorem dX2_field_13 : decode cX2_field 13 = .ok (.ifCond .eq 12, 3) := by decide +kernel
theorem dX2_field_16 : decode cX2_field 16 = .ok (.iload_n 3, 1) := by decide +kernel
theorem dX2_field_17 : decode cX2_field 17 = .ok (.ifCond .lt 8, 3) := by decide +kernel
theorem dX2_field_20 : decode cX2_field 20 = .ok (.iload_n 3, 1) := by decide +kernel
theorem dX2_field_21 : decode cX2_field 21 = .ok (.iconst 1, 1) := by decide +kernel
theorem dX2_field_22 : decode cX2_field 22 = .ok (.if_icmp .le 11, 3) := by decide +kernel
theorem dX2_field_25 : decode cX2_field 25 = .ok (.new 102, 3) := by decide +kernel
theorem dX2_field_28 : decode cX2_field 28 = .ok (.dup, 1) := by decide +kernel
theorem dX2_field_29 : decode cX2_field 29 = .ok (.invokespecial 104, 3) := by decide +kernel
theorem dX2_field_32 : decode cX2_field 32 = .ok (.athrow, 1) := by decide +kernel
theorem dX2_field_33 : decode cX2_field 33 = .ok (.aload_n 0, 1) := by decide +kernel
theorem dX2_field_34 : decode cX2_field 34 = .ok (.getfield 13, 3) := by decide +kernel
theorem dX2_field_37 : decode cX2_field 37 = .ok (.iload_n 1, 1) := by decide +kernel
theorem dX2_field_38 : decode cX2_field 38 = .ok (.iaload, 1) := by decide +kernel
theorem dX2_field_39 : decode cX2_field 39 = .ok (.iconst 1, 1) := by decide +kernel
theorem dX2_field_40 : decode cX2_field 40 = .ok (.iadd, 1) := by decide +kernel
theorem dX2_field_41 : decode cX2_field 41 = .ok (.iload_n 2, 1) := by decide +kernel
theorem dX2_field_42 : decode cX2_field 42 = .ok (.iadd, 1) := by decide +kernel
theorem dX2_field_43 : decode cX2_field 43 = .ok (.istore 4, 2) := by decide +kernel
theorem dX2_field_45 : decode cX2_field 45 = .ok (.iload_n 3, 1) := by decide +kernel
theorem dX2_field_46 : decode cX2_field 46 = .ok (.ifCond .ne 22, 3) := by decide +kernel
theorem dX2_field_49 : decode cX2_field 49 = .ok (.aload_n 0, 1) := by decide +kernel
theorem dX2_field_50 : decode cX2_field 50 = .ok (.getfield 36, 3) := by decide +kernel
theorem dX2_field_53 : decode cX2_field 53 = .ok (.getfield 95, 3) := by decide +kernel
theorem dX2_field_56 : decode cX2_field 56 = .ok (.iload 4, 2) := by decide +kernel
theorem dX2_field_58 : decode cX2_field 58 = .ok (.iaload, 1) := by decide +kernel
theorem dX2_field_59 : decode cX2_field 59 = .ok (.ifCond .eq 7, 3) := by decide +kernel
theorem dX2_field_62 : decode cX2_field 62 = .ok (.iconst 1, 1) := by decide +kernel
theorem dX2_field_63 : decode cX2_field 63 = .ok (.goto 4, 3) := by decide +kernel
theorem dX2_field_66 : decode cX2_field 66 = .ok (.iconst 0, 1) := by decide +kernel
theorem dX2_field_67 : decode cX2_field 67 = .ok (.ireturn, 1) := by decide +kernel
theorem dX2_field_68 : decode cX2_field 68 = .ok (.aload_n 0, 1) := by decide +kernel
theorem dX2_field_69 : decode cX2_field 69 = .ok (.getfield 36, 3) := by decide +kernel
theorem dX2_field_72 : decode cX2_field 72 = .ok (.getfield 98, 3) := by decide +kernel
theorem dX2_field_75 : decode cX2_field 75 = .ok (.iload 4, 2) := by decide +kernel
theorem dX2_field_77 : decode cX2_field 77 = .ok (.iaload, 1) := by decide +kernel
theorem dX2_field_78 : decode cX2_field 78 = .ok (.ireturn, 1) := by decide +kernel
theorem dX2_cell_0 : decode cX2_cell 0 = .ok (.iload_n 1, 1) := by decide +kernel
theorem dX2_cell_1 : decode cX2_cell 1 = .ok (.ifCond .lt 17, 3) := by decide +kernel
theorem dX2_cell_4 : decode cX2_cell 4 = .ok (.iload_n 1, 1) := by decide +kernel
theorem dX2_cell_5 : decode cX2_cell 5 = .ok (.iconst 1, 1) := by decide +kernel
theorem dX2_cell_6 : decode cX2_cell 6 = .ok (.if_icmp .gt 12, 3) := by decide +kernel
theorem dX2_cell_9 : decode cX2_cell 9 = .ok (.iload_n 3, 1) := by decide +kernel
theorem dX2_cell_10 : decode cX2_cell 10 = .ok (.ifCond .lt 8, 3) := by decide +kernel
theorem dX2_cell_13 : decode cX2_cell 13 = .ok (.iload_n 3, 1) := by decide +kernel
theorem dX2_cell_14 : decode cX2_cell 14 = .ok (.iconst 2, 1) := by decide +kernel
theorem dX2_cell_15 : decode cX2_cell 15 = .ok (.if_icmp .le 11, 3) := by decide +kernel
theorem dX2_cell_18 : decode cX2_cell 18 = .ok (.new 102, 3) := by decide +kernel
theorem dX2_cell_21 : decode cX2_cell 21 = .ok (.dup, 1) := by decide +kernel
theorem dX2_cell_22 : decode cX2_cell 22 = .ok (.invokespecial 104, 3) := by decide +kernel
theorem dX2_cell_25 : decode cX2_cell 25 = .ok (.athrow, 1) := by decide +kernel
theorem dX2_cell_26 : decode cX2_cell 26 = .ok (.iload_n 1, 1) := by decide +kernel
theorem dX2_cell_27 : decode cX2_cell 27 = .ok (.aload_n 0, 1) := by decide +kernel
theorem dX2_cell_28 : decode cX2_cell 28 = .ok (.getfield 36, 3) := by decide +kernel
theorem dX2_cell_31 : decode cX2_cell 31 = .ok (.getfield 88, 3) := by decide +kernel
theorem dX2_cell_34 : decode cX2_cell 34 = .ok (.if_icmp .ne 10, 3) := by decide +kernel
theorem dX2_cell_37 : decode cX2_cell 37 = .ok (.aload_n 0, 1) := by decide +kernel
theorem dX2_cell_38 : decode cX2_cell 38 = .ok (.getfield 36, 3) := by decide +kernel
theorem dX2_cell_41 : decode cX2_cell 41 = .ok (.goto 7, 3) := by decide +kernel
theorem dX2_cell_44 : decode cX2_cell 44 = .ok (.aload_n 0, 1) := by decide +kernel
theorem dX2_cell_45 : decode cX2_cell 45 = .ok (.getfield 40, 3) := by decide +kernel
theorem dX2_cell_48 : decode cX2_cell 48 = .ok (.astore 4, 2) := by decide +kernel
theorem dX2_cell_50 : decode cX2_cell 50 = .ok (.iload_n 2, 1) := by decide +kernel
theorem dX2_cell_51 : decode cX2_cell 51 = .ok (.ifCond .lt 12, 3) := by decide +kernel
theorem dX2_cell_54 : decode cX2_cell 54 = .ok (.iload_n 2, 1) := by decide +kernel
theorem dX2_cell_55 : decode cX2_cell 55 = .ok (.aload 4, 2) := by decide +kernel
theorem dX2_cell_57 : decode cX2_cell 57 = .ok (.getfield 78, 3) := by decide +kernel
theorem dX2_cell_60 : decode cX2_cell 60 = .ok (.if_icmp .lt 11, 3) := by decide +kernel
theorem dX2_cell_63 : decode cX2_cell 63 = .ok (.new 102, 3) := by decide +kernel
theorem dX2_cell_66 : decode cX2_cell 66 = .ok (.dup, 1) := by decide +kernel
theorem dX2_cell_67 : decode cX2_cell 67 = .ok (.invokespecial 104, 3) := by decide +kernel
theorem dX2_cell_70 : decode cX2_cell 70 = .ok (.athrow, 1) := by decide +kernel
theorem dX2_cell_71 : decode cX2_cell 71 = .ok (.iload_n 3, 1) := by decide +kernel
theorem dX2_cell_72 : decode cX2_cell 72 = .ok (.lookupswitch 44 #[(0, 28), (1, 36)], 28) := by decide +kernel
theorem dX2_cell_100 : decode cX2_cell 100 = .ok (.aload 4, 2) := by decide +kernel
theorem dX2_cell_102 : decode cX2_cell 102 = .ok (.getfield 95, 3) := by decide +kernel
theorem dX2_cell_105 : decode cX2_cell 105 = .ok (.iload_n 2, 1) := by decide +kernel
theorem dX2_cell_106 : decode cX2_cell 106 = .ok (.iaload, 1) := by decide +kernel
theorem dX2_cell_107 : decode cX2_cell 107 = .ok (.ireturn, 1) := by decide +kernel
theorem dX2_cell_108 : decode cX2_cell 108 = .ok (.aload 4, 2) := by decide +kernel
theorem dX2_cell_110 : decode cX2_cell 110 = .ok (.getfield 98, 3) := by decide +kernel
theorem dX2_cell_113 : decode cX2_cell 113 = .ok (.iload_n 2, 1) := by decide +kernel
theorem dX2_cell_114 : decode cX2_cell 114 = .ok (.iaload, 1) := by decide +kernel
theorem dX2_cell_115 : decode cX2_cell 115 = .ok (.ireturn, 1) := by decide +kernel
theorem dX2_cell_116 : decode cX2_cell 116 = .ok (.aload 4, 2) := by decide +kernel
theorem dX2_cell_118 : decode cX2_cell 118 = .ok (.getfield 95, 3) := by decide +kernel
theorem dX2_cell_121 : decode cX2_cell 121 = .ok (.iload_n 2, 1) := by decide +kernel
theorem dX2_cell_122 : decode cX2_cell 122 = .ok (.iaload, 1) := by decide +kernel
theorem dX2_cell_123 : decode cX2_cell 123 = .ok (.iconst 3, 1) := by decide +kernel
theorem dX2_cell_124 : decode cX2_cell 124 = .ok (.if_icmp .ne 13, 3) := by decide +kernel
theorem dX2_cell_127 : decode cX2_cell 127 = .ok (.aload 4, 2) := by decide +kernel
theorem dX2_cell_129 : decode cX2_cell 129 = .ok (.getfield 105, 3) := by decide +kernel
theorem dX2_cell_132 : decode cX2_cell 132 = .ok (.iload_n 2, 1) := by decide +kernel
theorem dX2_cell_133 : decode cX2_cell 133 = .ok (.iaload, 1) := by decide +kernel
theorem dX2_cell_134 : decode cX2_cell 134 = .ok (.goto 4, 3) := by decide +kernel
theorem dX2_cell_137 : decode cX2_cell 137 = .ok (.iconst (-1), 1) := by decide +kernel
theorem dX2_cell_138 : decode cX2_cell 138 = .ok (.ireturn, 1) := by decide +kernel
theorem dX2_entry_0 : decode cX2_entry 0 = .ok (.iload_n 1, 1) := by decide +kernel
theorem dX2_entry_1 : decode cX2_entry 1 = .ok (.ifCond .lt 23, 3) := by decide +kernel
theorem dX2_entry_4 : decode cX2_entry 4 = .ok (.iload_n 1, 1) := by decide +kernel
theorem dX2_entry_5 : decode cX2_entry 5 = .ok (.aload_n 0, 1) := by decide +kernel
theorem dX2_entry_6 : decode cX2_entry 6 = .ok (.getfield 20, 3) := by decide +kernel
theorem dX2_entry_9 : decode cX2_entry 9 = .ok (.getfield 108, 3) := by decide +kernel
theorem dX2_entry_12 : decode cX2_entry 12 = .ok (.if_icmp .ge 12, 3) := by decide +kernel
theorem dX2_entry_15 : decode cX2_entry 15 = .ok (.iload_n 2, 1) := by decide +kernel
theorem dX2_entry_16 : decode cX2_entry 16 = .ok (.ifCond .lt 8, 3) := by decide +kernel
theorem dX2_entry_19 : decode cX2_entry 19 = .ok (.iload_n 2, 1) := by decide +kernel
theorem dX2_entry_20 : decode cX2_entry 20 = .ok (.iconst 1, 1) := by decide +kernel
theorem dX2_entry_21 : decode cX2_entry 21 = .ok (.if_icmp .le 11, 3) := by decide +kernel
theorem dX2_entry_24 : decode cX2_entry 24 = .ok (.new 102, 3) := by decide +kernel
theorem dX2_entry_27 : decode cX2_entry 27 = .ok (.dup, 1) := by decide +kernel
theorem dX2_entry_28 : decode cX2_entry 28 = .ok (.invokespecial 104, 3) := by decide +kernel
theorem dX2_entry_31 : decode cX2_entry 31 = .ok (.athrow, 1) := by decide +kernel
theorem dX2_entry_32 : decode cX2_entry 32 = .ok (.iload_n 2, 1) := by decide +kernel
theorem dX2_entry_33 : decode cX2_entry 33 = .ok (.ifCond .ne 15, 3) := by decide +kernel
theorem dX2_entry_36 : decode cX2_entry 36 = .ok (.aload_n 0, 1) := by decide +kernel
theorem dX2_entry_37 : decode cX2_entry 37 = .ok (.getfield 20, 3) := by decide +kernel
theorem dX2_entry_40 : decode cX2_entry 40 = .ok (.getfield 111, 3) := by decide +kernel
theorem dX2_entry_43 : decode cX2_entry 43 = .ok (.iload_n 1, 1) := by decide +kernel
theorem dX2_entry_44 : decode cX2_entry 44 = .ok (.iaload, 1) := by decide +kernel
theorem dX2_entry_45 : decode cX2_entry 45 = .ok (.goto 12, 3) := by decide +kernel
theorem dX2_entry_48 : decode cX2_entry 48 = .ok (.aload_n 0, 1) := by decide +kernel
theorem dX2_entry_49 : decode cX2_entry 49 = .ok (.getfield 20, 3) := by decide +kernel
theorem dX2_entry_52 : decode cX2_entry 52 = .ok (.getfield 114, 3) := by decide +kernel
theorem dX2_entry_55 : decode cX2_entry 55 = .ok (.iload_n 1, 1) := by decide +kernel
theorem dX2_entry_56 : decode cX2_entry 56 = .ok (.iaload, 1) := by decide +kernel
theorem dX2_entry_57 : decode cX2_entry 57 = .ok (.ireturn, 1) := by decide +kernel
theorem dX2_count_0 : decode cX2_count 0 = .ok (.iload_n 1, 1) := by decide +kernel
theorem dX2_count_1 : decode cX2_count 1 = .ok (.tableswitch 155 0 12 #[67, 75, 88, 96, 104, 109, 117, 125, 130, 135, 140, 145, 150], 67) := by decide +kernel
theorem dX2_count_68 : decode cX2_count 68 = .ok (.aload_n 0, 1) := by decide +kernel
theorem dX2_count_69 : decode cX2_count 69 = .ok (.getfield 36, 3) := by decide +kernel
theorem dX2_count_72 : decode cX2_count 72 = .ok (.getfield 88, 3) := by decide +kernel
theorem dX2_count_75 : decode cX2_count 75 = .ok (.ireturn, 1) := by decide +kernel
theorem dX2_count_76 : decode cX2_count 76 = .ok (.aload_n 0, 1) := by decide +kernel
theorem dX2_count_77 : decode cX2_count 77 = .ok (.getfield 71, 3) := by decide +kernel
theorem dX2_count_80 : decode cX2_count 80 = .ok (.ifCond .eq 7, 3) := by decide +kernel
theorem dX2_count_83 : decode cX2_count 83 = .ok (.iconst 1, 1) := by decide +kernel
theorem dX2_count_84 : decode cX2_count 84 = .ok (.goto 4, 3) := by decide +kernel
theorem dX2_count_87 : decode cX2_count 87 = .ok (.iconst 0, 1) := by decide +kernel
theorem dX2_count_88 : decode cX2_count 88 = .ok (.ireturn, 1) := by decide +kernel
theorem dX2_count_89 : decode cX2_count 89 = .ok (.aload_n 0, 1) := by decide +kernel
theorem dX2_count_90 : decode cX2_count 90 = .ok (.getfield 36, 3) := by decide +kernel
theorem dX2_count_93 : decode cX2_count 93 = .ok (.getfield 78, 3) := by decide +kernel
theorem dX2_count_96 : decode cX2_count 96 = .ok (.ireturn, 1) := by decide +kernel
theorem dX2_count_97 : decode cX2_count 97 = .ok (.aload_n 0, 1) := by decide +kernel
theorem dX2_count_98 : decode cX2_count 98 = .ok (.getfield 40, 3) := by decide +kernel
theorem dX2_count_101 : decode cX2_count 101 = .ok (.getfield 78, 3) := by decide +kernel
theorem dX2_count_104 : decode cX2_count 104 = .ok (.ireturn, 1) := by decide +kernel
theorem dX2_count_105 : decode cX2_count 105 = .ok (.aload_n 0, 1) := by decide +kernel
theorem dX2_count_106 : decode cX2_count 106 = .ok (.getfield 117, 3) := by decide +kernel
theorem dX2_count_109 : decode cX2_count 109 = .ok (.ireturn, 1) := by decide +kernel
theorem dX2_count_110 : decode cX2_count 110 = .ok (.aload_n 0, 1) := by decide +kernel
theorem dX2_count_111 : decode cX2_count 111 = .ok (.getfield 20, 3) := by decide +kernel
theorem dX2_count_114 : decode cX2_count 114 = .ok (.getfield 108, 3) := by decide +kernel
theorem dX2_count_117 : decode cX2_count 117 = .ok (.ireturn, 1) := by decide +kernel
theorem dX2_count_118 : decode cX2_count 118 = .ok (.aload_n 0, 1) := by decide +kernel
theorem dX2_count_119 : decode cX2_count 119 = .ok (.getfield 20, 3) := by decide +kernel
theorem dX2_count_122 : decode cX2_count 122 = .ok (.getfield 120, 3) := by decide +kernel
theorem dX2_count_125 : decode cX2_count 125 = .ok (.ireturn, 1) := by decide +kernel
theorem dX2_count_126 : decode cX2_count 126 = .ok (.aload_n 0, 1) := by decide +kernel
theorem dX2_count_127 : decode cX2_count 127 = .ok (.getfield 123, 3) := by decide +kernel
theorem dX2_count_130 : decode cX2_count 130 = .ok (.ireturn, 1) := by decide +kernel
theorem dX2_count_131 : decode cX2_count 131 = .ok (.aload_n 0, 1) := by decide +kernel
theorem dX2_count_132 : decode cX2_count 132 = .ok (.getfield 126, 3) := by decide +kernel
theorem dX2_count_135 : decode cX2_count 135 = .ok (.ireturn, 1) := by decide +kernel
theorem dX2_count_136 : decode cX2_count 136 = .ok (.aload_n 0, 1) := by decide +kernel
theorem dX2_count_137 : decode cX2_count 137 = .ok (.getfield 129, 3) := by decide +kernel
theorem dX2_count_140 : decode cX2_count 140 = .ok (.ireturn, 1) := by decide +kernel
theorem dX2_count_141 : decode cX2_count 141 = .ok (.aload_n 0, 1) := by decide +kernel
theorem dX2_count_142 : decode cX2_count 142 = .ok (.getfield 132, 3) := by decide +kernel
theorem dX2_count_145 : decode cX2_count 145 = .ok (.ireturn, 1) := by decide +kernel
theorem dX2_count_146 : decode cX2_count 146 = .ok (.aload_n 0, 1) := by decide +kernel
theorem dX2_count_147 : decode cX2_count 147 = .ok (.getfield 68, 3) := by decide +kernel
theorem dX2_count_150 : decode cX2_count 150 = .ok (.ireturn, 1) := by decide +kernel
theorem dX2_count_151 : decode cX2_count 151 = .ok (.aload_n 0, 1) := by decide +kernel
theorem dX2_count_152 : decode cX2_count 152 = .ok (.getfield 24, 3) := by decide +kernel
theorem dX2_count_155 : decode cX2_count 155 = .ok (.ireturn, 1) := by decide +kernel
theorem dX2_count_156 : decode cX2_count 156 = .ok (.iconst (-1), 1) := by decide +kernel
theorem dX2_count_157 : decode cX2_count 157 = .ok (.ireturn, 1) := by decide +kernel
theorem dX2_isRoot_0 : decode cX2_isRoot 0 = .ok (.iload_n 0, 1) := by decide +kernel
theorem dX2_isRoot_1 : decode cX2_isRoot 1 = .ok (.ifCond .lt 13, 3) := by decide +kernel
theorem dX2_isRoot_4 : decode cX2_isRoot 4 = .ok (.iload_n 0, 1) := by decide +kernel
theorem dX2_isRoot_5 : decode cX2_isRoot 5 = .ok (.bipush 16, 2) := by decide +kernel
theorem dX2_isRoot_7 : decode cX2_isRoot 7 = .ok (.if_icmp .ge 7, 3) := by decide +kernel
theorem dX2_isRoot_10 : decode cX2_isRoot 10 = .ok (.iconst 1, 1) := by decide +kernel
theorem dX2_isRoot_11 : decode cX2_isRoot 11 = .ok (.goto 4, 3) := by decide +kernel
theorem dX2_isRoot_14 : decode cX2_isRoot 14 = .ok (.iconst 0, 1) := by decide +kernel
theorem dX2_isRoot_15 : decode cX2_isRoot 15 = .ok (.ireturn, 1) := by decide +kernel
theorem dX2_hasField_0 : decode cX2_hasField 0 = .ok (.aload_n 0, 1) := by decide +kernel
theorem dX2_hasField_1 : decode cX2_hasField 1 = .ok (.getfield 9, 3) := by decide +kernel
theorem dX2_hasField_4 : decode cX2_hasField 4 = .ok (.iload_n 1, 1) := by decide +kernel
theorem dX2_hasField_5 : decode cX2_hasField 5 = .ok (.baload, 1) := by decide +kernel
theorem dX2_hasField_6 : decode cX2_hasField 6 = .ok (.ifCond .eq 29, 3) := by decide +kernel
theorem dX2_hasField_9 : decode cX2_hasField 9 = .ok (.iload_n 2, 1) := by decide +kernel
theorem dX2_hasField_10 : decode cX2_hasField 10 = .ok (.ifCond .lt 25, 3) := by decide +kernel
theorem dX2_hasField_13 : decode cX2_hasField 13 = .ok (.iload_n 2, 1) := by decide +kernel
theorem dX2_hasField_14 : decode cX2_hasField 14 = .ok (.aload_n 0, 1) := by decide +kernel
theorem dX2_hasField_15 : decode cX2_hasField 15 = .ok (.getfield 36, 3) := by decide +kernel
theorem dX2_hasField_18 : decode cX2_hasField 18 = .ok (.getfield 98, 3) := by decide +kernel
theorem dX2_hasField_21 : decode cX2_hasField 21 = .ok (.aload_n 0, 1) := by decide +kernel
theorem dX2_hasField_22 : decode cX2_hasField 22 = .ok (.getfield 13, 3) := by decide +kernel
theorem dX2_hasField_25 : decode cX2_hasField 25 = .ok (.iload_n 1, 1) := by decide +kernel
theorem dX2_hasField_26 : decode cX2_hasField 26 = .ok (.iaload, 1) := by decide +kernel
theorem dX2_hasField_27 : decode cX2_hasField 27 = .ok (.iaload, 1) := by decide +kernel
theorem dX2_hasField_28 : decode cX2_hasField 28 = .ok (.if_icmp .ge 7, 3) := by decide +kernel
theorem dX2_hasField_31 : decode cX2_hasField 31 = .ok (.iconst 1, 1) := by decide +kernel
theorem dX2_hasField_32 : decode cX2_hasField 32 = .ok (.goto 4, 3) := by decide +kernel
theorem dX2_hasField_35 : decode cX2_hasField 35 = .ok (.iconst 0, 1) := by decide +kernel
theorem dX2_hasField_36 : decode cX2_hasField 36 = .ok (.ireturn, 1) := by decide +kernel
theorem dX2_setRoot_0 : decode cX2_setRoot 0 = .ok (.aload_n 0, 1) := by decide +kernel
theorem dX2_setRoot_1 : decode cX2_setRoot 1 = .ok (.getfield 9, 3) := by decide +kernel
theorem dX2_setRoot_4 : decode cX2_setRoot 4 = .ok (.iload_n 1, 1) := by decide +kernel
theorem dX2_setRoot_5 : decode cX2_setRoot 5 = .ok (.iload_n 2, 1) := by decide +kernel
theorem dX2_setRoot_6 : decode cX2_setRoot 6 = .ok (.bastore, 1) := by decide +kernel
theorem dX2_setRoot_7 : decode cX2_setRoot 7 = .ok (.aload_n 0, 1) := by decide +kernel
theorem dX2_setRoot_8 : decode cX2_setRoot 8 = .ok (.getfield 13, 3) := by decide +kernel
theorem dX2_setRoot_11 : decode cX2_setRoot 11 = .ok (.iload_n 1, 1) := by decide +kernel
theorem dX2_setRoot_12 : decode cX2_setRoot 12 = .ok (.iload_n 3, 1) := by decide +kernel
theorem dX2_setRoot_13 : decode cX2_setRoot 13 = .ok (.iastore, 1) := by decide +kernel
theorem dX2_setRoot_14 : decode cX2_setRoot 14 = .ok (.return_, 1) := by decide +kernel
set_option maxRecDepth 20000 in
theorem ggX2_makeRoom_X1_hasRoom : GoodIn wsX2_makeRoom wsX1_hasRoom := goodIn_r _ [8, 9, 10, 78, 79, 80, 81, 82] (by decide +kernel) (by decide +kernel)
set_option maxRecDepth 20000 in
theorem gX2_makeRoom_X1_hasRoom_n57 : GoodIn wsX2_makeRoom (wsX1_hasRoom) := ggX2_makeRoom_X1_hasRoom
set_option maxRecDepth 20000 in
theorem ggX2_makeRoom_X2_work : GoodIn wsX2_makeRoom wsX2_work := goodIn_r _ [15, 1, 4, 16, 17, 18, 19, 20, 21, 22, 23, 24, 25, 14, 26, 27, 28, 29, 30, 31, 32, 33, 34, 2, 35, 6, 36, 37, 10, 38, 39, 40, 41, 42, 43, 44, 45, 46, 47, 48, 49, 50, 51, 52, 53, 54, 55, 56, 57, 58, 59, 60, 61, 62, 63, 64, 65, 66, 67, 68, 69, 70, 71, 72, 73, 74, 75, 76, 77, 83, 84, 85, 86, 78, 79, 80, 81, 82] (by decide +kernel) (by decide +kernel)
set_option maxRecDepth 20000 in
theorem gX2_makeRoom_X2_work : GoodIn wsX2_makeRoom (wsV RX2 75 RX2 yX2_work wsX2_work) := goodIn_app (goodIn_of _ (by decide +kernel)) ggX2_makeRoom_X2_work
theorem dX2_makeRoom_0 : decode cX2_makeRoom 0 = .ok (.aload_n 0, 1) := by decide +kernel
theorem dX2_makeRoom_1 : decode cX2_makeRoom 1 = .ok (.getfield 71, 3) := by decide +kernel
theorem dX2_makeRoom_4 : decode cX2_makeRoom 4 = .ok (.ifCond .eq 30, 3) := by decide +kernel
theorem dX2_makeRoom_7 : decode cX2_makeRoom 7 = .ok (.aload_n 0, 1) := by decide +kernel
theorem dX2_makeRoom_8 : decode cX2_makeRoom 8 = .ok (.getfield 36, 3) := by decide +kernel
theorem dX2_makeRoom_11 : decode cX2_makeRoom 11 = .ok (.iload_n 1, 1) := by decide +kernel
theorem dX2_makeRoom_12 : decode cX2_makeRoom 12 = .ok (.invokevirtual 57, 3) := by decide +kernel
theorem dX2_makeRoom_15 : decode cX2_makeRoom 15 = .ok (.ifCond .ne 19, 3) := by decide +kernel
theorem dX2_makeRoom_18 : decode cX2_makeRoom 18 = .ok (.aload_n 0, 1) := by decide +kernel
theorem dX2_makeRoom_19 : decode cX2_makeRoom 19 = .ok (.dup, 1) := by decide +kernel
theorem dX2_makeRoom_20 : decode cX2_makeRoom 20 = .ok (.getfield 126, 3) := by decide +kernel
theorem dX2_makeRoom_23 : decode cX2_makeRoom 23 = .ok (.iconst 1, 1) := by decide +kernel
theorem dX2_makeRoom_24 : decode cX2_makeRoom 24 = .ok (.iadd, 1) := by decide +kernel
theorem dX2_makeRoom_25 : decode cX2_makeRoom 25 = .ok (.putfield 126, 3) := by decide +kernel
theorem dX2_makeRoom_28 : decode cX2_makeRoom 28 = .ok (.aload_n 0, 1) := by decide +kernel
theorem dX2_makeRoom_29 : decode cX2_makeRoom 29 = .ok (.ldc 101, 2) := by decide +kernel
theorem dX2_makeRoom_31 : decode cX2_makeRoom 31 = .ok (.invokevirtual 75, 3) := by decide +kernel
theorem dX2_makeRoom_34 : decode cX2_makeRoom 34 = .ok (.aload_n 0, 1) := by decide +kernel
theorem dX2_makeRoom_35 : decode cX2_makeRoom 35 = .ok (.getfield 36, 3) := by decide +kernel
theorem dX2_makeRoom_38 : decode cX2_makeRoom 38 = .ok (.iload_n 1, 1) := by decide +kernel
theorem dX2_makeRoom_39 : decode cX2_makeRoom 39 = .ok (.invokevirtual 57, 3) := by decide +kernel
theorem dX2_makeRoom_42 : decode cX2_makeRoom 42 = .ok (.ifCond .ne 24, 3) := by decide +kernel
theorem dX2_makeRoom_45 : decode cX2_makeRoom 45 = .ok (.aload_n 0, 1) := by decide +kernel
theorem dX2_makeRoom_46 : decode cX2_makeRoom 46 = .ok (.iconst 1, 1) := by decide +kernel
theorem dX2_makeRoom_47 : decode cX2_makeRoom 47 = .ok (.putfield 71, 3) := by decide +kernel
theorem dX2_makeRoom_50 : decode cX2_makeRoom 50 = .ok (.aload_n 0, 1) := by decide +kernel
theorem dX2_makeRoom_51 : decode cX2_makeRoom 51 = .ok (.dup, 1) := by decide +kernel
theorem dX2_makeRoom_52 : decode cX2_makeRoom 52 = .ok (.getfield 126, 3) := by decide +kernel
theorem dX2_makeRoom_55 : decode cX2_makeRoom 55 = .ok (.iconst 1, 1) := by decide +kernel
theorem dX2_makeRoom_56 : decode cX2_makeRoom 56 = .ok (.iadd, 1) := by decide +kernel
theorem dX2_makeRoom_57 : decode cX2_makeRoom 57 = .ok (.putfield 126, 3) := by decide +kernel
theorem dX2_makeRoom_60 : decode cX2_makeRoom 60 = .ok (.aload_n 0, 1) := by decide +kernel
theorem dX2_makeRoom_61 : decode cX2_makeRoom 61 = .ok (.ldc 101, 2) := by decide +kernel
theorem dX2_makeRoom_63 : decode cX2_makeRoom 63 = .ok (.invokevirtual 75, 3) := by decide +kernel
theorem dX2_makeRoom_66 : decode cX2_makeRoom 66 = .ok (.return_, 1) := by decide +kernel
set_option maxRecDepth 20000 in
theorem ggX2_change_X1_setCell : GoodIn wsX2_change wsX1_setCell := goodIn_r _ [9, 10, 11, 80, 81, 82, 83, 84] (by decide +kernel) (by decide +kernel)
set_option maxRecDepth 20000 in
theorem gX2_change_X1_setCell_n135 : GoodIn wsX2_change (wsX1_setCell) := ggX2_change_X1_setCell
set_option maxRecDepth 20000 in
theorem ggX2_change_X0_add : GoodIn wsX2_change wsX0_add := goodIn_r _ [15, 16, 17, 18, 19, 20, 21, 13, 22, 23, 85, 86, 87, 88] (by decide +kernel) (by decide +kernel)
set_option maxRecDepth 20000 in
theorem gX2_change_X0_add_n139 : GoodIn wsX2_change (wsX0_add) := ggX2_change_X0_add
set_option maxRecDepth 20000 in
theorem ggX2_change_X2_work : GoodIn wsX2_change wsX2_work := goodIn_r _ [28, 2, 29, 30, 3, 31, 32, 33, 34, 35, 36, 37, 38, 27, 39, 4, 40, 41, 42, 43, 44, 45, 46, 1, 6, 7, 8, 9, 10, 11, 47, 48, 49, 50, 51, 52, 53, 54, 55, 56, 57, 58, 59, 60, 61, 62, 63, 64, 20, 13, 21, 22, 16, 23, 65, 66, 67, 68, 69, 70, 71, 72, 73, 74, 75, 76, 77, 78, 79, 85, 86, 87, 88, 80, 81, 82, 83, 84] (by decide +kernel) (by decide +kernel)
set_option maxRecDepth 20000 in
theorem gX2_change_X2_work : GoodIn wsX2_change (wsV RX2 75 RX2 yX2_work wsX2_work) := goodIn_app (goodIn_of _ (by decide +kernel)) ggX2_change_X2_work
theorem dX2_change_0 : decode cX2_change 0 = .ok (.aload_n 0, 1) := by decide +kernel
theorem dX2_change_1 : decode cX2_change 1 = .ok (.getfield 36, 3) := by decide +kernel
theorem dX2_change_4 : decode cX2_change 4 = .ok (.iload_n 1, 1) := by decide +kernel
theorem dX2_change_5 : decode cX2_change 5 = .ok (.iconst 1, 1) := by decide +kernel
theorem dX2_change_6 : decode cX2_change 6 = .ok (.iadd, 1) := by decide +kernel
theorem dX2_change_7 : decode cX2_change 7 = .ok (.iload_n 2, 1) := by decide +kernel
theorem dX2_change_8 : decode cX2_change 8 = .ok (.iadd, 1) := by decide +kernel
theorem dX2_change_9 : decode cX2_change 9 = .ok (.iload_n 3, 1) := by decide +kernel
theorem dX2_change_10 : decode cX2_change 10 = .ok (.iload 4, 2) := by decide +kernel
theorem dX2_change_12 : decode cX2_change 12 = .ok (.invokevirtual 135, 3) := by decide +kernel
theorem dX2_change_15 : decode cX2_change 15 = .ok (.aload_n 0, 1) := by decide +kernel
theorem dX2_change_16 : decode cX2_change 16 = .ok (.getfield 71, 3) := by decide +kernel
theorem dX2_change_19 : decode cX2_change 19 = .ok (.ifCond .eq 25, 3) := by decide +kernel
theorem dX2_change_22 : decode cX2_change 22 = .ok (.aload_n 0, 1) := by decide +kernel
theorem dX2_change_23 : decode cX2_change 23 = .ok (.iconst 0, 1) := by decide +kernel
theorem dX2_change_24 : decode cX2_change 24 = .ok (.putfield 50, 3) := by decide +kernel
theorem dX2_change_27 : decode cX2_change 27 = .ok (.aload_n 0, 1) := by decide +kernel
theorem dX2_change_28 : decode cX2_change 28 = .ok (.getfield 20, 3) := by decide +kernel
theorem dX2_change_31 : decode cX2_change 31 = .ok (.iload_n 1, 1) := by decide +kernel
theorem dX2_change_32 : decode cX2_change 32 = .ok (.iload_n 2, 1) := by decide +kernel
theorem dX2_change_33 : decode cX2_change 33 = .ok (.invokevirtual 139, 3) := by decide +kernel
theorem dX2_change_36 : decode cX2_change 36 = .ok (.aload_n 0, 1) := by decide +kernel
theorem dX2_change_37 : decode cX2_change 37 = .ok (.aload_n 0, 1) := by decide +kernel
theorem dX2_change_38 : decode cX2_change 38 = .ok (.getfield 28, 3) := by decide +kernel
theorem dX2_change_41 : decode cX2_change 41 = .ok (.invokevirtual 75, 3) := by decide +kernel
theorem dX2_change_44 : decode cX2_change 44 = .ok (.return_, 1) := by decide +kernel
set_option maxRecDepth 20000 in
theorem ggX2_work_X2_step : GoodIn wsX2_work wsX2_step := goodIn_r _ [14, 15, 16, 17, 18, 19, 20, 21, 13, 22, 23, 24, 25, 26, 27, 28, 29, 30, 31, 32, 33, 34, 35, 36, 37, 38, 39, 40, 41, 42, 43, 44, 45, 46, 1, 47, 48, 49, 50, 51, 52, 53, 54, 55, 56, 57, 58, 59, 60, 61, 62, 63, 64, 65, 66, 67, 68, 69, 70, 71, 72, 73, 74, 75, 76, 77] (by decide +kernel) (by decide +kernel)
set_option maxRecDepth 20000 in
theorem gX2_work_X2_step : GoodIn wsX2_work (wsV RX2 142 RX2 yX2_step wsX2_step) := goodIn_app (goodIn_of _ (by decide +kernel)) ggX2_work_X2_step
theorem dX2_work_0 : decode cX2_work 0 = .ok (.iconst 0, 1) := by decide +kernel
theorem dX2_work_1 : decode cX2_work 1 = .ok (.istore_n 2, 1) := by decide +kernel
theorem dX2_work_2 : decode cX2_work 2 = .ok (.iconst 0, 1) := by decide +kernel
theorem dX2_work_3 : decode cX2_work 3 = .ok (.istore_n 3, 1) := by decide +kernel
theorem dX2_work_4 : decode cX2_work 4 = .ok (.aload_n 0, 1) := by decide +kernel
theorem dX2_work_5 : decode cX2_work 5 = .ok (.getfield 71, 3) := by decide +kernel
theorem dX2_work_8 : decode cX2_work 8 = .ok (.ifCond .eq 27, 3) := by decide +kernel
theorem dX2_work_11 : decode cX2_work 11 = .ok (.iload_n 2, 1) := by decide +kernel
theorem dX2_work_12 : decode cX2_work 12 = .ok (.iload_n 1, 1) := by decide +kernel
theorem dX2_work_13 : decode cX2_work 13 = .ok (.if_icmp .ge 22, 3) := by decide +kernel
theorem dX2_work_16 : decode cX2_work 16 = .ok (.iload_n 3, 1) := by decide +kernel
theorem dX2_work_17 : decode cX2_work 17 = .ok (.ldc 101, 2) := by decide +kernel
theorem dX2_work_19 : decode cX2_work 19 = .ok (.if_icmp .ge 16, 3) := by decide +kernel
theorem dX2_work_22 : decode cX2_work 22 = .ok (.iload_n 2, 1) := by decide +kernel
theorem dX2_work_23 : decode cX2_work 23 = .ok (.aload_n 0, 1) := by decide +kernel
theorem dX2_work_24 : decode cX2_work 24 = .ok (.invokevirtual 142, 3) := by decide +kernel
theorem dX2_work_27 : decode cX2_work 27 = .ok (.iadd, 1) := by decide +kernel
theorem dX2_work_28 : decode cX2_work 28 = .ok (.istore_n 2, 1) := by decide +kernel
theorem dX2_work_29 : decode cX2_work 29 = .ok (.iinc 3 1, 3) := by decide +kernel
theorem dX2_work_32 : decode cX2_work 32 = .ok (.goto (-28), 3) := by decide +kernel
theorem dX2_work_35 : decode cX2_work 35 = .ok (.aload_n 0, 1) := by decide +kernel
theorem dX2_work_36 : decode cX2_work 36 = .ok (.dup, 1) := by decide +kernel
theorem dX2_work_37 : decode cX2_work 37 = .ok (.getfield 129, 3) := by decide +kernel
theorem dX2_work_40 : decode cX2_work 40 = .ok (.iload_n 2, 1) := by decide +kernel
theorem dX2_work_41 : decode cX2_work 41 = .ok (.iadd, 1) := by decide +kernel
theorem dX2_work_42 : decode cX2_work 42 = .ok (.putfield 129, 3) := by decide +kernel
theorem dX2_work_45 : decode cX2_work 45 = .ok (.aload_n 0, 1) := by decide +kernel
theorem dX2_work_46 : decode cX2_work 46 = .ok (.dup, 1) := by decide +kernel
theorem dX2_work_47 : decode cX2_work 47 = .ok (.getfield 50, 3) := by decide +kernel
theorem dX2_work_50 : decode cX2_work 50 = .ok (.iload_n 2, 1) := by decide +kernel
theorem dX2_work_51 : decode cX2_work 51 = .ok (.iadd, 1) := by decide +kernel
theorem dX2_work_52 : decode cX2_work 52 = .ok (.putfield 50, 3) := by decide +kernel
theorem dX2_work_55 : decode cX2_work 55 = .ok (.aload_n 0, 1) := by decide +kernel
theorem dX2_work_56 : decode cX2_work 56 = .ok (.aload_n 0, 1) := by decide +kernel
theorem dX2_work_57 : decode cX2_work 57 = .ok (.getfield 132, 3) := by decide +kernel
theorem dX2_work_60 : decode cX2_work 60 = .ok (.aload_n 0, 1) := by decide +kernel
theorem dX2_work_61 : decode cX2_work 61 = .ok (.getfield 50, 3) := by decide +kernel
theorem dX2_work_64 : decode cX2_work 64 = .ok (.invokestatic 146, 3) := by decide +kernel
theorem dX2_work_67 : decode cX2_work 67 = .ok (.putfield 132, 3) := by decide +kernel
theorem dX2_work_70 : decode cX2_work 70 = .ok (.return_, 1) := by decide +kernel
set_option maxRecDepth 20000 in
theorem ggX2_step_X2_takeEntry : GoodIn wsX2_step wsX2_takeEntry := goodIn_r _ [9, 1, 10, 3, 11, 12, 13, 14, 15, 16, 17, 18, 19, 8, 20, 21, 22, 23, 24, 42, 43, 44, 45, 46, 47, 48, 49, 50, 51, 52, 53, 54, 55, 56, 57, 58, 59, 60, 61, 62, 63, 64, 65] (by decide +kernel) (by decide +kernel)
set_option maxRecDepth 20000 in
theorem gX2_step_X2_takeEntry : GoodIn wsX2_step (wsV RX2 152 RX2 yX2_takeEntry wsX2_takeEntry) := goodIn_app (goodIn_of _ (by decide +kernel)) ggX2_step_X2_takeEntry
set_option maxRecDepth 20000 in
theorem ggX2_step_X2_forward : GoodIn wsX2_step wsX2_forward := goodIn_r _ [20, 3, 10, 21, 22, 23, 8, 24, 11, 12, 13, 14, 15, 16, 42, 43, 44, 45, 46, 47, 48, 49, 50, 51, 52, 53, 54, 55, 56, 61, 62, 63, 64, 65] (by decide +kernel) (by decide +kernel)
set_option maxRecDepth 20000 in
theorem gX2_step_X2_forward : GoodIn wsX2_step (wsV RX2 155 RX2 yX2_forward wsX2_forward) := goodIn_app (goodIn_of _ (by decide +kernel)) ggX2_step_X2_forward
set_option maxRecDepth 20000 in
theorem ggX2_step_X2_rootWithoutReplica : GoodIn wsX2_step wsX2_rootWithoutReplica := goodIn_r _ [28, 29, 10, 4, 42, 43, 44, 45, 46, 47, 48, 49, 50, 51, 52, 53, 54, 55, 56, 61, 62, 63, 64, 65] (by decide +kernel) (by decide +kernel)
set_option maxRecDepth 20000 in
theorem gX2_step_X2_rootWithoutReplica : GoodIn wsX2_step (wsV RX2 158 RX2 yX2_rootWithoutReplica wsX2_rootWithoutReplica) := goodIn_app (goodIn_of _ (by decide +kernel)) ggX2_step_X2_rootWithoutReplica
set_option maxRecDepth 20000 in
theorem ggX2_step_X2_replicate : GoodIn wsX2_step wsX2_replicate := goodIn_r _ [24, 10, 3, 42, 43, 44, 45, 46, 47, 48, 49, 50, 51, 52, 53, 54, 55, 56, 61, 62, 63, 64, 65] (by decide +kernel) (by decide +kernel)
set_option maxRecDepth 20000 in
theorem gX2_step_X2_replicate : GoodIn wsX2_step (wsV RX2 161 RX2 yX2_replicate wsX2_replicate) := goodIn_app (goodIn_of _ (by decide +kernel)) ggX2_step_X2_replicate
set_option maxRecDepth 20000 in
theorem ggX2_step_X2_flip : GoodIn wsX2_step wsX2_flip := goodIn_r _ [33, 29, 4, 10, 3, 34, 2, 1, 35, 36, 37, 38, 39, 40, 41, 42, 43, 44, 45, 46, 47, 48, 49, 50, 51, 52, 53, 54, 55, 56, 61, 62, 63, 64, 65, 57, 58, 59, 60] (by decide +kernel) (by decide +kernel)
set_option maxRecDepth 20000 in
theorem gX2_step_X2_flip : GoodIn wsX2_step (wsV RX2 164 RX2 yX2_flip wsX2_flip) := goodIn_app (goodIn_of _ (by decide +kernel)) ggX2_step_X2_flip
theorem dX2_step_0 : decode cX2_step 0 = .ok (.aload_n 0, 1) := by decide +kernel
theorem dX2_step_1 : decode cX2_step 1 = .ok (.getfield 20, 3) := by decide +kernel
theorem dX2_step_4 : decode cX2_step 4 = .ok (.getfield 120, 3) := by decide +kernel
theorem dX2_step_7 : decode cX2_step 7 = .ok (.aload_n 0, 1) := by decide +kernel
theorem dX2_step_8 : decode cX2_step 8 = .ok (.getfield 20, 3) := by decide +kernel
theorem dX2_step_11 : decode cX2_step 11 = .ok (.getfield 108, 3) := by decide +kernel
theorem dX2_step_14 : decode cX2_step 14 = .ok (.if_icmp .ge 8, 3) := by decide +kernel
theorem dX2_step_17 : decode cX2_step 17 = .ok (.aload_n 0, 1) := by decide +kernel
theorem dX2_step_18 : decode cX2_step 18 = .ok (.invokevirtual 152, 3) := by decide +kernel
theorem dX2_step_21 : decode cX2_step 21 = .ok (.ireturn, 1) := by decide +kernel
theorem dX2_step_22 : decode cX2_step 22 = .ok (.aload_n 0, 1) := by decide +kernel
theorem dX2_step_23 : decode cX2_step 23 = .ok (.getfield 117, 3) := by decide +kernel
theorem dX2_step_26 : decode cX2_step 26 = .ok (.aload_n 0, 1) := by decide +kernel
theorem dX2_step_27 : decode cX2_step 27 = .ok (.getfield 40, 3) := by decide +kernel
theorem dX2_step_30 : decode cX2_step 30 = .ok (.getfield 78, 3) := by decide +kernel
theorem dX2_step_33 : decode cX2_step 33 = .ok (.if_icmp .ge 26, 3) := by decide +kernel
theorem dX2_step_36 : decode cX2_step 36 = .ok (.aload_n 0, 1) := by decide +kernel
theorem dX2_step_37 : decode cX2_step 37 = .ok (.dup, 1) := by decide +kernel
theorem dX2_step_38 : decode cX2_step 38 = .ok (.getfield 117, 3) := by decide +kernel
theorem dX2_step_41 : decode cX2_step 41 = .ok (.iconst 1, 1) := by decide +kernel
theorem dX2_step_42 : decode cX2_step 42 = .ok (.iadd, 1) := by decide +kernel
theorem dX2_step_43 : decode cX2_step 43 = .ok (.putfield 117, 3) := by decide +kernel
theorem dX2_step_46 : decode cX2_step 46 = .ok (.iconst 1, 1) := by decide +kernel
theorem dX2_step_47 : decode cX2_step 47 = .ok (.aload_n 0, 1) := by decide +kernel
theorem dX2_step_48 : decode cX2_step 48 = .ok (.aload_n 0, 1) := by decide +kernel
theorem dX2_step_49 : decode cX2_step 49 = .ok (.getfield 117, 3) := by decide +kernel
theorem dX2_step_52 : decode cX2_step 52 = .ok (.iconst 1, 1) := by decide +kernel
theorem dX2_step_53 : decode cX2_step 53 = .ok (.isub, 1) := by decide +kernel
theorem dX2_step_54 : decode cX2_step 54 = .ok (.invokevirtual 155, 3) := by decide +kernel
theorem dX2_step_57 : decode cX2_step 57 = .ok (.iadd, 1) := by decide +kernel
theorem dX2_step_58 : decode cX2_step 58 = .ok (.ireturn, 1) := by decide +kernel
theorem dX2_step_59 : decode cX2_step 59 = .ok (.aload_n 0, 1) := by decide +kernel
theorem dX2_step_60 : decode cX2_step 60 = .ok (.invokevirtual 158, 3) := by decide +kernel
theorem dX2_step_63 : decode cX2_step 63 = .ok (.istore_n 1, 1) := by decide +kernel
theorem dX2_step_64 : decode cX2_step 64 = .ok (.iload_n 1, 1) := by decide +kernel
theorem dX2_step_65 : decode cX2_step 65 = .ok (.iconst (-1), 1) := by decide +kernel
theorem dX2_step_66 : decode cX2_step 66 = .ok (.if_icmp .eq 14, 3) := by decide +kernel
theorem dX2_step_69 : decode cX2_step 69 = .ok (.aload_n 0, 1) := by decide +kernel
theorem dX2_step_70 : decode cX2_step 70 = .ok (.aload_n 0, 1) := by decide +kernel
theorem dX2_step_71 : decode cX2_step 71 = .ok (.getfield 13, 3) := by decide +kernel
theorem dX2_step_74 : decode cX2_step 74 = .ok (.iload_n 1, 1) := by decide +kernel
theorem dX2_step_75 : decode cX2_step 75 = .ok (.iaload, 1) := by decide +kernel
theorem dX2_step_76 : decode cX2_step 76 = .ok (.invokevirtual 161, 3) := by decide +kernel
theorem dX2_step_79 : decode cX2_step 79 = .ok (.ireturn, 1) := by decide +kernel
theorem dX2_step_80 : decode cX2_step 80 = .ok (.aload_n 0, 1) := by decide +kernel
theorem dX2_step_81 : decode cX2_step 81 = .ok (.invokevirtual 164, 3) := by decide +kernel
theorem dX2_step_84 : decode cX2_step 84 = .ok (.bipush 16, 2) := by decide +kernel
theorem dX2_step_86 : decode cX2_step 86 = .ok (.ireturn, 1) := by decide +kernel
set_option maxRecDepth 20000 in
theorem ggX2_takeEntry_X1_setCell : GoodIn wsX2_takeEntry wsX1_setCell := goodIn_r _ [7, 8, 9, 38, 39, 40, 41, 42] (by decide +kernel) (by decide +kernel)
set_option maxRecDepth 20000 in
theorem gX2_takeEntry_X1_setCell_n135 : GoodIn wsX2_takeEntry (wsX1_setCell) := ggX2_takeEntry_X1_setCell
set_option maxRecDepth 20000 in
theorem ggX2_takeEntry_X2_forward : GoodIn wsX2_takeEntry wsX2_forward := goodIn_r _ [14, 3, 2, 15, 16, 17, 13, 18, 4, 5, 6, 7, 8, 9, 19, 20, 21, 22, 23, 24, 25, 26, 27, 28, 29, 30, 31, 32, 33, 38, 39, 40, 41, 42] (by decide +kernel) (by decide +kernel)
set_option maxRecDepth 20000 in
theorem gX2_takeEntry_X2_forward : GoodIn wsX2_takeEntry (wsV RX2 155 RX2 yX2_forward wsX2_forward) := goodIn_app (goodIn_of _ (by decide +kernel)) ggX2_takeEntry_X2_forward
theorem dX2_takeEntry_0 : decode cX2_takeEntry 0 = .ok (.aload_n 0, 1) := by decide +kernel
theorem dX2_takeEntry_1 : decode cX2_takeEntry 1 = .ok (.getfield 20, 3) := by decide +kernel
theorem dX2_takeEntry_4 : decode cX2_takeEntry 4 = .ok (.getfield 111, 3) := by decide +kernel
theorem dX2_takeEntry_7 : decode cX2_takeEntry 7 = .ok (.aload_n 0, 1) := by decide +kernel
theorem dX2_takeEntry_8 : decode cX2_takeEntry 8 = .ok (.getfield 20, 3) := by decide +kernel
theorem dX2_takeEntry_11 : decode cX2_takeEntry 11 = .ok (.getfield 120, 3) := by decide +kernel
theorem dX2_takeEntry_14 : decode cX2_takeEntry 14 = .ok (.iaload, 1) := by decide +kernel
theorem dX2_takeEntry_15 : decode cX2_takeEntry 15 = .ok (.istore_n 1, 1) := by decide +kernel
theorem dX2_takeEntry_16 : decode cX2_takeEntry 16 = .ok (.iconst 1, 1) := by decide +kernel
theorem dX2_takeEntry_17 : decode cX2_takeEntry 17 = .ok (.aload_n 0, 1) := by decide +kernel
theorem dX2_takeEntry_18 : decode cX2_takeEntry 18 = .ok (.getfield 20, 3) := by decide +kernel
theorem dX2_takeEntry_21 : decode cX2_takeEntry 21 = .ok (.getfield 114, 3) := by decide +kernel
theorem dX2_takeEntry_24 : decode cX2_takeEntry 24 = .ok (.aload_n 0, 1) := by decide +kernel
theorem dX2_takeEntry_25 : decode cX2_takeEntry 25 = .ok (.getfield 20, 3) := by decide +kernel
theorem dX2_takeEntry_28 : decode cX2_takeEntry 28 = .ok (.getfield 120, 3) := by decide +kernel
theorem dX2_takeEntry_31 : decode cX2_takeEntry 31 = .ok (.iaload, 1) := by decide +kernel
theorem dX2_takeEntry_32 : decode cX2_takeEntry 32 = .ok (.iadd, 1) := by decide +kernel
theorem dX2_takeEntry_33 : decode cX2_takeEntry 33 = .ok (.istore_n 2, 1) := by decide +kernel
theorem dX2_takeEntry_34 : decode cX2_takeEntry 34 = .ok (.aload_n 0, 1) := by decide +kernel
theorem dX2_takeEntry_35 : decode cX2_takeEntry 35 = .ok (.getfield 20, 3) := by decide +kernel
theorem dX2_takeEntry_38 : decode cX2_takeEntry 38 = .ok (.dup, 1) := by decide +kernel
theorem dX2_takeEntry_39 : decode cX2_takeEntry 39 = .ok (.getfield 120, 3) := by decide +kernel
theorem dX2_takeEntry_42 : decode cX2_takeEntry 42 = .ok (.iconst 1, 1) := by decide +kernel
theorem dX2_takeEntry_43 : decode cX2_takeEntry 43 = .ok (.iadd, 1) := by decide +kernel
theorem dX2_takeEntry_44 : decode cX2_takeEntry 44 = .ok (.putfield 120, 3) := by decide +kernel
theorem dX2_takeEntry_47 : decode cX2_takeEntry 47 = .ok (.aload_n 0, 1) := by decide +kernel
theorem dX2_takeEntry_48 : decode cX2_takeEntry 48 = .ok (.getfield 36, 3) := by decide +kernel
theorem dX2_takeEntry_51 : decode cX2_takeEntry 51 = .ok (.getfield 105, 3) := by decide +kernel
theorem dX2_takeEntry_54 : decode cX2_takeEntry 54 = .ok (.iload_n 1, 1) := by decide +kernel
theorem dX2_takeEntry_55 : decode cX2_takeEntry 55 = .ok (.iaload, 1) := by decide +kernel
theorem dX2_takeEntry_56 : decode cX2_takeEntry 56 = .ok (.istore_n 3, 1) := by decide +kernel
theorem dX2_takeEntry_57 : decode cX2_takeEntry 57 = .ok (.iload_n 3, 1) := by decide +kernel
theorem dX2_takeEntry_58 : decode cX2_takeEntry 58 = .ok (.iconst (-1), 1) := by decide +kernel
theorem dX2_takeEntry_59 : decode cX2_takeEntry 59 = .ok (.if_icmp .ne 5, 3) := by decide +kernel
theorem dX2_takeEntry_62 : decode cX2_takeEntry 62 = .ok (.iconst 1, 1) := by decide +kernel
theorem dX2_takeEntry_63 : decode cX2_takeEntry 63 = .ok (.ireturn, 1) := by decide +kernel
theorem dX2_takeEntry_64 : decode cX2_takeEntry 64 = .ok (.aload_n 0, 1) := by decide +kernel
theorem dX2_takeEntry_65 : decode cX2_takeEntry 65 = .ok (.getfield 40, 3) := by decide +kernel
theorem dX2_takeEntry_68 : decode cX2_takeEntry 68 = .ok (.iload_n 3, 1) := by decide +kernel
theorem dX2_takeEntry_69 : decode cX2_takeEntry 69 = .ok (.iload_n 2, 1) := by decide +kernel
theorem dX2_takeEntry_70 : decode cX2_takeEntry 70 = .ok (.iadd, 1) := by decide +kernel
theorem dX2_takeEntry_71 : decode cX2_takeEntry 71 = .ok (.aload_n 0, 1) := by decide +kernel
theorem dX2_takeEntry_72 : decode cX2_takeEntry 72 = .ok (.getfield 36, 3) := by decide +kernel
theorem dX2_takeEntry_75 : decode cX2_takeEntry 75 = .ok (.getfield 95, 3) := by decide +kernel
theorem dX2_takeEntry_78 : decode cX2_takeEntry 78 = .ok (.iload_n 1, 1) := by decide +kernel
theorem dX2_takeEntry_79 : decode cX2_takeEntry 79 = .ok (.iload_n 2, 1) := by decide +kernel
theorem dX2_takeEntry_80 : decode cX2_takeEntry 80 = .ok (.iadd, 1) := by decide +kernel
theorem dX2_takeEntry_81 : decode cX2_takeEntry 81 = .ok (.iaload, 1) := by decide +kernel
theorem dX2_takeEntry_82 : decode cX2_takeEntry 82 = .ok (.aload_n 0, 1) := by decide +kernel
theorem dX2_takeEntry_83 : decode cX2_takeEntry 83 = .ok (.getfield 36, 3) := by decide +kernel
theorem dX2_takeEntry_86 : decode cX2_takeEntry 86 = .ok (.getfield 98, 3) := by decide +kernel
theorem dX2_takeEntry_89 : decode cX2_takeEntry 89 = .ok (.iload_n 1, 1) := by decide +kernel
theorem dX2_takeEntry_90 : decode cX2_takeEntry 90 = .ok (.iload_n 2, 1) := by decide +kernel
theorem dX2_takeEntry_91 : decode cX2_takeEntry 91 = .ok (.iadd, 1) := by decide +kernel
theorem dX2_takeEntry_92 : decode cX2_takeEntry 92 = .ok (.iaload, 1) := by decide +kernel
theorem dX2_takeEntry_93 : decode cX2_takeEntry 93 = .ok (.invokevirtual 135, 3) := by decide +kernel
theorem dX2_takeEntry_96 : decode cX2_takeEntry 96 = .ok (.iconst 1, 1) := by decide +kernel
theorem dX2_takeEntry_97 : decode cX2_takeEntry 97 = .ok (.aload_n 0, 1) := by decide +kernel
theorem dX2_takeEntry_98 : decode cX2_takeEntry 98 = .ok (.iload_n 3, 1) := by decide +kernel
theorem dX2_takeEntry_99 : decode cX2_takeEntry 99 = .ok (.iload_n 2, 1) := by decide +kernel
theorem dX2_takeEntry_100 : decode cX2_takeEntry 100 = .ok (.iadd, 1) := by decide +kernel
theorem dX2_takeEntry_101 : decode cX2_takeEntry 101 = .ok (.invokevirtual 155, 3) := by decide +kernel
theorem dX2_takeEntry_104 : decode cX2_takeEntry 104 = .ok (.iadd, 1) := by decide +kernel
theorem dX2_takeEntry_105 : decode cX2_takeEntry 105 = .ok (.ireturn, 1) := by decide +kernel
set_option maxRecDepth 20000 in
theorem ggX2_forward_X2_replicate : GoodIn wsX2_forward wsX2_replicate := goodIn_r _ [7, 2, 1, 14, 15, 16, 17, 18, 19, 20, 21, 22, 23, 24, 25, 26, 27, 28, 29, 30, 31, 32, 33] (by decide +kernel) (by decide +kernel)
set_option maxRecDepth 20000 in
theorem gX2_forward_X2_replicate : GoodIn wsX2_forward (wsV RX2 161 RX2 yX2_replicate wsX2_replicate) := goodIn_app (goodIn_of _ (by decide +kernel)) ggX2_forward_X2_replicate
set_option maxRecDepth 20000 in
theorem ggX2_forward_X1_setCell : GoodIn wsX2_forward wsX1_setCell := goodIn_r _ [11, 12, 13, 29, 30, 31, 32, 33] (by decide +kernel) (by decide +kernel)
set_option maxRecDepth 20000 in
theorem gX2_forward_X1_setCell_n135 : GoodIn wsX2_forward (wsX1_setCell) := ggX2_forward_X1_setCell
theorem dX2_forward_0 : decode cX2_forward 0 = .ok (.aload_n 0, 1) := by decide +kernel
theorem dX2_forward_1 : decode cX2_forward 1 = .ok (.getfield 40, 3) := by decide +kernel
theorem dX2_forward_4 : decode cX2_forward 4 = .ok (.getfield 95, 3) := by decide +kernel
theorem dX2_forward_7 : decode cX2_forward 7 = .ok (.iload_n 1, 1) := by decide +kernel
theorem dX2_forward_8 : decode cX2_forward 8 = .ok (.iaload, 1) := by decide +kernel
theorem dX2_forward_9 : decode cX2_forward 9 = .ok (.iconst 1, 1) := by decide +kernel
theorem dX2_forward_10 : decode cX2_forward 10 = .ok (.aload_n 0, 1) := by decide +kernel
theorem dX2_forward_11 : decode cX2_forward 11 = .ok (.getfield 36, 3) := by decide +kernel
theorem dX2_forward_14 : decode cX2_forward 14 = .ok (.getfield 88, 3) := by decide +kernel
theorem dX2_forward_17 : decode cX2_forward 17 = .ok (.iadd, 1) := by decide +kernel
theorem dX2_forward_18 : decode cX2_forward 18 = .ok (.if_icmp .eq 5, 3) := by decide +kernel
theorem dX2_forward_21 : decode cX2_forward 21 = .ok (.iconst 0, 1) := by decide +kernel
theorem dX2_forward_22 : decode cX2_forward 22 = .ok (.ireturn, 1) := by decide +kernel
theorem dX2_forward_23 : decode cX2_forward 23 = .ok (.aload_n 0, 1) := by decide +kernel
theorem dX2_forward_24 : decode cX2_forward 24 = .ok (.getfield 40, 3) := by decide +kernel
theorem dX2_forward_27 : decode cX2_forward 27 = .ok (.getfield 98, 3) := by decide +kernel
theorem dX2_forward_30 : decode cX2_forward 30 = .ok (.iload_n 1, 1) := by decide +kernel
theorem dX2_forward_31 : decode cX2_forward 31 = .ok (.iaload, 1) := by decide +kernel
theorem dX2_forward_32 : decode cX2_forward 32 = .ok (.istore_n 2, 1) := by decide +kernel
theorem dX2_forward_33 : decode cX2_forward 33 = .ok (.aload_n 0, 1) := by decide +kernel
theorem dX2_forward_34 : decode cX2_forward 34 = .ok (.getfield 36, 3) := by decide +kernel
theorem dX2_forward_37 : decode cX2_forward 37 = .ok (.getfield 105, 3) := by decide +kernel
theorem dX2_forward_40 : decode cX2_forward 40 = .ok (.iload_n 2, 1) := by decide +kernel
theorem dX2_forward_41 : decode cX2_forward 41 = .ok (.iaload, 1) := by decide +kernel
theorem dX2_forward_42 : decode cX2_forward 42 = .ok (.iconst (-1), 1) := by decide +kernel
theorem dX2_forward_43 : decode cX2_forward 43 = .ok (.if_icmp .ne 11, 3) := by decide +kernel
theorem dX2_forward_46 : decode cX2_forward 46 = .ok (.aload_n 0, 1) := by decide +kernel
theorem dX2_forward_47 : decode cX2_forward 47 = .ok (.iload_n 2, 1) := by decide +kernel
theorem dX2_forward_48 : decode cX2_forward 48 = .ok (.invokevirtual 161, 3) := by decide +kernel
theorem dX2_forward_51 : decode cX2_forward 51 = .ok (.goto 4, 3) := by decide +kernel
theorem dX2_forward_54 : decode cX2_forward 54 = .ok (.iconst 0, 1) := by decide +kernel
theorem dX2_forward_55 : decode cX2_forward 55 = .ok (.istore_n 3, 1) := by decide +kernel
theorem dX2_forward_56 : decode cX2_forward 56 = .ok (.aload_n 0, 1) := by decide +kernel
theorem dX2_forward_57 : decode cX2_forward 57 = .ok (.getfield 40, 3) := by decide +kernel
theorem dX2_forward_60 : decode cX2_forward 60 = .ok (.iload_n 1, 1) := by decide +kernel
theorem dX2_forward_61 : decode cX2_forward 61 = .ok (.iconst 1, 1) := by decide +kernel
theorem dX2_forward_62 : decode cX2_forward 62 = .ok (.aload_n 0, 1) := by decide +kernel
theorem dX2_forward_63 : decode cX2_forward 63 = .ok (.getfield 40, 3) := by decide +kernel
theorem dX2_forward_66 : decode cX2_forward 66 = .ok (.getfield 88, 3) := by decide +kernel
theorem dX2_forward_69 : decode cX2_forward 69 = .ok (.iadd, 1) := by decide +kernel
theorem dX2_forward_70 : decode cX2_forward 70 = .ok (.aload_n 0, 1) := by decide +kernel
theorem dX2_forward_71 : decode cX2_forward 71 = .ok (.getfield 36, 3) := by decide +kernel
theorem dX2_forward_74 : decode cX2_forward 74 = .ok (.getfield 105, 3) := by decide +kernel
theorem dX2_forward_77 : decode cX2_forward 77 = .ok (.iload_n 2, 1) := by decide +kernel
theorem dX2_forward_78 : decode cX2_forward 78 = .ok (.iaload, 1) := by decide +kernel
theorem dX2_forward_79 : decode cX2_forward 79 = .ok (.invokevirtual 135, 3) := by decide +kernel
theorem dX2_forward_82 : decode cX2_forward 82 = .ok (.iload_n 3, 1) := by decide +kernel
theorem dX2_forward_83 : decode cX2_forward 83 = .ok (.ireturn, 1) := by decide +kernel
theorem dX2_replicate_0 : decode cX2_replicate 0 = .ok (.aload_n 0, 1) := by decide +kernel
theorem dX2_replicate_1 : decode cX2_replicate 1 = .ok (.getfield 36, 3) := by decide +kernel
theorem dX2_replicate_4 : decode cX2_replicate 4 = .ok (.getfield 98, 3) := by decide +kernel
theorem dX2_replicate_7 : decode cX2_replicate 7 = .ok (.iload_n 1, 1) := by decide +kernel
theorem dX2_replicate_8 : decode cX2_replicate 8 = .ok (.iaload, 1) := by decide +kernel
theorem dX2_replicate_9 : decode cX2_replicate 9 = .ok (.iconst 1, 1) := by decide +kernel
theorem dX2_replicate_10 : decode cX2_replicate 10 = .ok (.iadd, 1) := by decide +kernel
theorem dX2_replicate_11 : decode cX2_replicate 11 = .ok (.istore_n 2, 1) := by decide +kernel
theorem dX2_replicate_12 : decode cX2_replicate 12 = .ok (.aload_n 0, 1) := by decide +kernel
theorem dX2_replicate_13 : decode cX2_replicate 13 = .ok (.getfield 40, 3) := by decide +kernel
theorem dX2_replicate_16 : decode cX2_replicate 16 = .ok (.getfield 78, 3) := by decide +kernel
theorem dX2_replicate_19 : decode cX2_replicate 19 = .ok (.istore_n 3, 1) := by decide +kernel
theorem dX2_replicate_20 : decode cX2_replicate 20 = .ok (.iconst 0, 1) := by decide +kernel
theorem dX2_replicate_21 : decode cX2_replicate 21 = .ok (.istore 4, 2) := by decide +kernel
theorem dX2_replicate_23 : decode cX2_replicate 23 = .ok (.iload 4, 2) := by decide +kernel
theorem dX2_replicate_25 : decode cX2_replicate 25 = .ok (.iload_n 2, 1) := by decide +kernel
theorem dX2_replicate_26 : decode cX2_replicate 26 = .ok (.if_icmp .ge 57, 3) := by decide +kernel
theorem dX2_replicate_29 : decode cX2_replicate 29 = .ok (.aload_n 0, 1) := by decide +kernel
theorem dX2_replicate_30 : decode cX2_replicate 30 = .ok (.getfield 40, 3) := by decide +kernel
theorem dX2_replicate_33 : decode cX2_replicate 33 = .ok (.getfield 95, 3) := by decide +kernel
theorem dX2_replicate_36 : decode cX2_replicate 36 = .ok (.iload_n 3, 1) := by decide +kernel
theorem dX2_replicate_37 : decode cX2_replicate 37 = .ok (.iload 4, 2) := by decide +kernel
theorem dX2_replicate_39 : decode cX2_replicate 39 = .ok (.iadd, 1) := by decide +kernel
theorem dX2_replicate_40 : decode cX2_replicate 40 = .ok (.aload_n 0, 1) := by decide +kernel
theorem dX2_replicate_41 : decode cX2_replicate 41 = .ok (.getfield 36, 3) := by decide +kernel
theorem dX2_replicate_44 : decode cX2_replicate 44 = .ok (.getfield 95, 3) := by decide +kernel
theorem dX2_replicate_47 : decode cX2_replicate 47 = .ok (.iload_n 1, 1) := by decide +kernel
theorem dX2_replicate_48 : decode cX2_replicate 48 = .ok (.iload 4, 2) := by decide +kernel
theorem dX2_replicate_50 : decode cX2_replicate 50 = .ok (.iadd, 1) := by decide +kernel
theorem dX2_replicate_51 : decode cX2_replicate 51 = .ok (.iaload, 1) := by decide +kernel
theorem dX2_replicate_52 : decode cX2_replicate 52 = .ok (.iastore, 1) := by decide +kernel
theorem dX2_replicate_53 : decode cX2_replicate 53 = .ok (.aload_n 0, 1) := by decide +kernel
theorem dX2_replicate_54 : decode cX2_replicate 54 = .ok (.getfield 40, 3) := by decide +kernel
theorem dX2_replicate_57 : decode cX2_replicate 57 = .ok (.getfield 98, 3) := by decide +kernel
theorem dX2_replicate_60 : decode cX2_replicate 60 = .ok (.iload_n 3, 1) := by decide +kernel
theorem dX2_replicate_61 : decode cX2_replicate 61 = .ok (.iload 4, 2) := by decide +kernel
theorem dX2_replicate_63 : decode cX2_replicate 63 = .ok (.iadd, 1) := by decide +kernel
theorem dX2_replicate_64 : decode cX2_replicate 64 = .ok (.aload_n 0, 1) := by decide +kernel
theorem dX2_replicate_65 : decode cX2_replicate 65 = .ok (.getfield 36, 3) := by decide +kernel
theorem dX2_replicate_68 : decode cX2_replicate 68 = .ok (.getfield 98, 3) := by decide +kernel
theorem dX2_replicate_71 : decode cX2_replicate 71 = .ok (.iload_n 1, 1) := by decide +kernel
theorem dX2_replicate_72 : decode cX2_replicate 72 = .ok (.iload 4, 2) := by decide +kernel
theorem dX2_replicate_74 : decode cX2_replicate 74 = .ok (.iadd, 1) := by decide +kernel
theorem dX2_replicate_75 : decode cX2_replicate 75 = .ok (.iaload, 1) := by decide +kernel
theorem dX2_replicate_76 : decode cX2_replicate 76 = .ok (.iastore, 1) := by decide +kernel
theorem dX2_replicate_77 : decode cX2_replicate 77 = .ok (.iinc 4 1, 3) := by decide +kernel
theorem dX2_replicate_80 : decode cX2_replicate 80 = .ok (.goto (-57), 3) := by decide +kernel
theorem dX2_replicate_83 : decode cX2_replicate 83 = .ok (.aload_n 0, 1) := by decide +kernel
theorem dX2_replicate_84 : decode cX2_replicate 84 = .ok (.getfield 40, 3) := by decide +kernel
theorem dX2_replicate_87 : decode cX2_replicate 87 = .ok (.getfield 105, 3) := by decide +kernel
theorem dX2_replicate_90 : decode cX2_replicate 90 = .ok (.iload_n 3, 1) := by decide +kernel
theorem dX2_replicate_91 : decode cX2_replicate 91 = .ok (.iconst (-1), 1) := by decide +kernel
theorem dX2_replicate_92 : decode cX2_replicate 92 = .ok (.iastore, 1) := by decide +kernel
theorem dX2_replicate_93 : decode cX2_replicate 93 = .ok (.aload_n 0, 1) := by decide +kernel
theorem dX2_replicate_94 : decode cX2_replicate 94 = .ok (.getfield 40, 3) := by decide +kernel
theorem dX2_replicate_97 : decode cX2_replicate 97 = .ok (.dup, 1) := by decide +kernel
theorem dX2_replicate_98 : decode cX2_replicate 98 = .ok (.getfield 78, 3) := by decide +kernel
theorem dX2_replicate_101 : decode cX2_replicate 101 = .ok (.iload_n 2, 1) := by decide +kernel
theorem dX2_replicate_102 : decode cX2_replicate 102 = .ok (.iadd, 1) := by decide +kernel
theorem dX2_replicate_103 : decode cX2_replicate 103 = .ok (.putfield 78, 3) := by decide +kernel
theorem dX2_replicate_106 : decode cX2_replicate 106 = .ok (.aload_n 0, 1) := by decide +kernel
theorem dX2_replicate_107 : decode cX2_replicate 107 = .ok (.getfield 36, 3) := by decide +kernel
theorem dX2_replicate_110 : decode cX2_replicate 110 = .ok (.getfield 105, 3) := by decide +kernel
theorem dX2_replicate_113 : decode cX2_replicate 113 = .ok (.iload_n 1, 1) := by decide +kernel
theorem dX2_replicate_114 : decode cX2_replicate 114 = .ok (.iload_n 3, 1) := by decide +kernel
theorem dX2_replicate_115 : decode cX2_replicate 115 = .ok (.iastore, 1) := by decide +kernel
theorem dX2_replicate_116 : decode cX2_replicate 116 = .ok (.iload_n 2, 1) := by decide +kernel
theorem dX2_replicate_117 : decode cX2_replicate 117 = .ok (.ireturn, 1) := by decide +kernel
theorem dX2_rootWithoutReplica_0 : decode cX2_rootWithoutReplica 0 = .ok (.iconst 0, 1) := by decide +kernel
theorem dX2_rootWithoutReplica_1 : decode cX2_rootWithoutReplica 1 = .ok (.istore_n 1, 1) := by decide +kernel
theorem dX2_rootWithoutReplica_2 : decode cX2_rootWithoutReplica 2 = .ok (.iload_n 1, 1) := by decide +kernel
theorem dX2_rootWithoutReplica_3 : decode cX2_rootWithoutReplica 3 = .ok (.bipush 16, 2) := by decide +kernel
theorem dX2_rootWithoutReplica_5 : decode cX2_rootWithoutReplica 5 = .ok (.if_icmp .ge 38, 3) := by decide +kernel
theorem dX2_rootWithoutReplica_8 : decode cX2_rootWithoutReplica 8 = .ok (.aload_n 0, 1) := by decide +kernel
theorem dX2_rootWithoutReplica_9 : decode cX2_rootWithoutReplica 9 = .ok (.getfield 9, 3) := by decide +kernel
theorem dX2_rootWithoutReplica_12 : decode cX2_rootWithoutReplica 12 = .ok (.iload_n 1, 1) := by decide +kernel
theorem dX2_rootWithoutReplica_13 : decode cX2_rootWithoutReplica 13 = .ok (.baload, 1) := by decide +kernel
theorem dX2_rootWithoutReplica_14 : decode cX2_rootWithoutReplica 14 = .ok (.ifCond .eq 23, 3) := by decide +kernel
theorem dX2_rootWithoutReplica_17 : decode cX2_rootWithoutReplica 17 = .ok (.aload_n 0, 1) := by decide +kernel
theorem dX2_rootWithoutReplica_18 : decode cX2_rootWithoutReplica 18 = .ok (.getfield 36, 3) := by decide +kernel
theorem dX2_rootWithoutReplica_21 : decode cX2_rootWithoutReplica 21 = .ok (.getfield 105, 3) := by decide +kernel
theorem dX2_rootWithoutReplica_24 : decode cX2_rootWithoutReplica 24 = .ok (.aload_n 0, 1) := by decide +kernel
theorem dX2_rootWithoutReplica_25 : decode cX2_rootWithoutReplica 25 = .ok (.getfield 13, 3) := by decide +kernel
theorem dX2_rootWithoutReplica_28 : decode cX2_rootWithoutReplica 28 = .ok (.iload_n 1, 1) := by decide +kernel
theorem dX2_rootWithoutReplica_29 : decode cX2_rootWithoutReplica 29 = .ok (.iaload, 1) := by decide +kernel
theorem dX2_rootWithoutReplica_30 : decode cX2_rootWithoutReplica 30 = .ok (.iaload, 1) := by decide +kernel
theorem dX2_rootWithoutReplica_31 : decode cX2_rootWithoutReplica 31 = .ok (.iconst (-1), 1) := by decide +kernel
theorem dX2_rootWithoutReplica_32 : decode cX2_rootWithoutReplica 32 = .ok (.if_icmp .ne 5, 3) := by decide +kernel
theorem dX2_rootWithoutReplica_35 : decode cX2_rootWithoutReplica 35 = .ok (.iload_n 1, 1) := by decide +kernel
theorem dX2_rootWithoutReplica_36 : decode cX2_rootWithoutReplica 36 = .ok (.ireturn, 1) := by decide +kernel
theorem dX2_rootWithoutReplica_37 : decode cX2_rootWithoutReplica 37 = .ok (.iinc 1 1, 3) := by decide +kernel
theorem dX2_rootWithoutReplica_40 : decode cX2_rootWithoutReplica 40 = .ok (.goto (-38), 3) := by decide +kernel
theorem dX2_rootWithoutReplica_43 : decode cX2_rootWithoutReplica 43 = .ok (.iconst (-1), 1) := by decide +kernel
theorem dX2_rootWithoutReplica_44 : decode cX2_rootWithoutReplica 44 = .ok (.ireturn, 1) := by decide +kernel
set_option maxRecDepth 20000 in
theorem ggX2_flip_X0_clear : GoodIn wsX2_flip wsX0_clear := goodIn_r _ [12, 13, 14, 35, 36, 37, 38] (by decide +kernel) (by decide +kernel)
set_option maxRecDepth 20000 in
theorem gX2_flip_X0_clear_n167 : GoodIn wsX2_flip (wsX0_clear) := ggX2_flip_X0_clear
theorem dX2_flip_0 : decode cX2_flip 0 = .ok (.iconst 0, 1) := by decide +kernel
theorem dX2_flip_1 : decode cX2_flip 1 = .ok (.istore_n 1, 1) := by decide +kernel
theorem dX2_flip_2 : decode cX2_flip 2 = .ok (.iload_n 1, 1) := by decide +kernel
theorem dX2_flip_3 : decode cX2_flip 3 = .ok (.bipush 16, 2) := by decide +kernel
theorem dX2_flip_5 : decode cX2_flip 5 = .ok (.if_icmp .ge 38, 3) := by decide +kernel
theorem dX2_flip_8 : decode cX2_flip 8 = .ok (.aload_n 0, 1) := by decide +kernel
theorem dX2_flip_9 : decode cX2_flip 9 = .ok (.getfield 9, 3) := by decide +kernel
theorem dX2_flip_12 : decode cX2_flip 12 = .ok (.iload_n 1, 1) := by decide +kernel
theorem dX2_flip_13 : decode cX2_flip 13 = .ok (.baload, 1) := by decide +kernel
theorem dX2_flip_14 : decode cX2_flip 14 = .ok (.ifCond .eq 23, 3) := by decide +kernel
theorem dX2_flip_17 : decode cX2_flip 17 = .ok (.aload_n 0, 1) := by decide +kernel
theorem dX2_flip_18 : decode cX2_flip 18 = .ok (.getfield 13, 3) := by decide +kernel
theorem dX2_flip_21 : decode cX2_flip 21 = .ok (.iload_n 1, 1) := by decide +kernel
theorem dX2_flip_22 : decode cX2_flip 22 = .ok (.aload_n 0, 1) := by decide +kernel
theorem dX2_flip_23 : decode cX2_flip 23 = .ok (.getfield 36, 3) := by decide +kernel
theorem dX2_flip_26 : decode cX2_flip 26 = .ok (.getfield 105, 3) := by decide +kernel
theorem dX2_flip_29 : decode cX2_flip 29 = .ok (.aload_n 0, 1) := by decide +kernel
theorem dX2_flip_30 : decode cX2_flip 30 = .ok (.getfield 13, 3) := by decide +kernel
theorem dX2_flip_33 : decode cX2_flip 33 = .ok (.iload_n 1, 1) := by decide +kernel
theorem dX2_flip_34 : decode cX2_flip 34 = .ok (.iaload, 1) := by decide +kernel
theorem dX2_flip_35 : decode cX2_flip 35 = .ok (.iaload, 1) := by decide +kernel
theorem dX2_flip_36 : decode cX2_flip 36 = .ok (.iastore, 1) := by decide +kernel
theorem dX2_flip_37 : decode cX2_flip 37 = .ok (.iinc 1 1, 3) := by decide +kernel
theorem dX2_flip_40 : decode cX2_flip 40 = .ok (.goto (-38), 3) := by decide +kernel
theorem dX2_flip_43 : decode cX2_flip 43 = .ok (.aload_n 0, 1) := by decide +kernel
theorem dX2_flip_44 : decode cX2_flip 44 = .ok (.getfield 36, 3) := by decide +kernel
theorem dX2_flip_47 : decode cX2_flip 47 = .ok (.astore_n 1, 1) := by decide +kernel
theorem dX2_flip_48 : decode cX2_flip 48 = .ok (.aload_n 0, 1) := by decide +kernel
theorem dX2_flip_49 : decode cX2_flip 49 = .ok (.aload_n 0, 1) := by decide +kernel
theorem dX2_flip_50 : decode cX2_flip 50 = .ok (.getfield 40, 3) := by decide +kernel
theorem dX2_flip_53 : decode cX2_flip 53 = .ok (.putfield 36, 3) := by decide +kernel
theorem dX2_flip_56 : decode cX2_flip 56 = .ok (.aload_n 0, 1) := by decide +kernel
theorem dX2_flip_57 : decode cX2_flip 57 = .ok (.aload_n 1, 1) := by decide +kernel
theorem dX2_flip_58 : decode cX2_flip 58 = .ok (.putfield 40, 3) := by decide +kernel
theorem dX2_flip_61 : decode cX2_flip 61 = .ok (.aload_n 0, 1) := by decide +kernel
theorem dX2_flip_62 : decode cX2_flip 62 = .ok (.getfield 40, 3) := by decide +kernel
theorem dX2_flip_65 : decode cX2_flip 65 = .ok (.iconst 0, 1) := by decide +kernel
theorem dX2_flip_66 : decode cX2_flip 66 = .ok (.putfield 78, 3) := by decide +kernel
theorem dX2_flip_69 : decode cX2_flip 69 = .ok (.aload_n 0, 1) := by decide +kernel
theorem dX2_flip_70 : decode cX2_flip 70 = .ok (.iconst 0, 1) := by decide +kernel
theorem dX2_flip_71 : decode cX2_flip 71 = .ok (.putfield 71, 3) := by decide +kernel
theorem dX2_flip_74 : decode cX2_flip 74 = .ok (.aload_n 0, 1) := by decide +kernel
theorem dX2_flip_75 : decode cX2_flip 75 = .ok (.iconst 0, 1) := by decide +kernel
theorem dX2_flip_76 : decode cX2_flip 76 = .ok (.putfield 117, 3) := by decide +kernel
theorem dX2_flip_79 : decode cX2_flip 79 = .ok (.aload_n 0, 1) := by decide +kernel
theorem dX2_flip_80 : decode cX2_flip 80 = .ok (.getfield 20, 3) := by decide +kernel
theorem dX2_flip_83 : decode cX2_flip 83 = .ok (.invokevirtual 167, 3) := by decide +kernel
theorem dX2_flip_86 : decode cX2_flip 86 = .ok (.aload_n 0, 1) := by decide +kernel
theorem dX2_flip_87 : decode cX2_flip 87 = .ok (.dup, 1) := by decide +kernel
theorem dX2_flip_88 : decode cX2_flip 88 = .ok (.getfield 123, 3) := by decide +kernel
theorem dX2_flip_91 : decode cX2_flip 91 = .ok (.iconst 1, 1) := by decide +kernel
theorem dX2_flip_92 : decode cX2_flip 92 = .ok (.iadd, 1) := by decide +kernel
theorem dX2_flip_93 : decode cX2_flip 93 = .ok (.putfield 123, 3) := by decide +kernel
theorem dX2_flip_96 : decode cX2_flip 96 = .ok (.return_, 1) := by decide +kernel
