theorem dX3_init_0 : decode cX3_init 0 = .ok (.aload_n 0, 1) := by decide +kernel
theorem dX3_init_1 : decode cX3_init 1 = .ok (.invokespecial 1, 3) := by decide +kernel
theorem dX3_init_4 : decode cX3_init 4 = .ok (.aload_n 0, 1) := by decide +kernel
theorem dX3_init_5 : decode cX3_init 5 = .ok (.sipush 800, 3) := by decide +kernel
theorem dX3_init_8 : decode cX3_init 8 = .ok (.newarray .int, 2) := by decide +kernel
theorem dX3_init_10 : decode cX3_init 10 = .ok (.putfield 7, 3) := by decide +kernel
theorem dX3_init_13 : decode cX3_init 13 = .ok (.aload_n 0, 1) := by decide +kernel
theorem dX3_init_14 : decode cX3_init 14 = .ok (.sipush 800, 3) := by decide +kernel
theorem dX3_init_17 : decode cX3_init 17 = .ok (.newarray .int, 2) := by decide +kernel
theorem dX3_init_19 : decode cX3_init 19 = .ok (.putfield 13, 3) := by decide +kernel
theorem dX3_init_22 : decode cX3_init 22 = .ok (.aload_n 0, 1) := by decide +kernel
theorem dX3_init_23 : decode cX3_init 23 = .ok (.sipush 800, 3) := by decide +kernel
theorem dX3_init_26 : decode cX3_init 26 = .ok (.newarray .int, 2) := by decide +kernel
theorem dX3_init_28 : decode cX3_init 28 = .ok (.putfield 16, 3) := by decide +kernel
theorem dX3_init_31 : decode cX3_init 31 = .ok (.aload_n 0, 1) := by decide +kernel
theorem dX3_init_32 : decode cX3_init 32 = .ok (.iconst 2, 1) := by decide +kernel
theorem dX3_init_33 : decode cX3_init 33 = .ok (.newarray .int, 2) := by decide +kernel
theorem dX3_init_35 : decode cX3_init 35 = .ok (.putfield 19, 3) := by decide +kernel
theorem dX3_init_38 : decode cX3_init 38 = .ok (.aload_n 0, 1) := by decide +kernel
theorem dX3_init_39 : decode cX3_init 39 = .ok (.bipush 16, 2) := by decide +kernel
theorem dX3_init_41 : decode cX3_init 41 = .ok (.newarray .boolean, 2) := by decide +kernel
theorem dX3_init_43 : decode cX3_init 43 = .ok (.putfield 22, 3) := by decide +kernel
theorem dX3_init_46 : decode cX3_init 46 = .ok (.aload_n 0, 1) := by decide +kernel
theorem dX3_init_47 : decode cX3_init 47 = .ok (.bipush 16, 2) := by decide +kernel
theorem dX3_init_49 : decode cX3_init 49 = .ok (.newarray .int, 2) := by decide +kernel
theorem dX3_init_51 : decode cX3_init 51 = .ok (.putfield 26, 3) := by decide +kernel
theorem dX3_init_54 : decode cX3_init 54 = .ok (.aload_n 0, 1) := by decide +kernel
theorem dX3_init_55 : decode cX3_init 55 = .ok (.sipush 4096, 3) := by decide +kernel
theorem dX3_init_58 : decode cX3_init 58 = .ok (.newarray .int, 2) := by decide +kernel
theorem dX3_init_60 : decode cX3_init 60 = .ok (.putfield 29, 3) := by decide +kernel
theorem dX3_init_63 : decode cX3_init 63 = .ok (.aload_n 0, 1) := by decide +kernel
theorem dX3_init_64 : decode cX3_init 64 = .ok (.sipush 4096, 3) := by decide +kernel
theorem dX3_init_67 : decode cX3_init 67 = .ok (.newarray .int, 2) := by decide +kernel
theorem dX3_init_69 : decode cX3_init 69 = .ok (.putfield 32, 3) := by decide +kernel
theorem dX3_init_72 : decode cX3_init 72 = .ok (.aload_n 0, 1) := by decide +kernel
theorem dX3_init_73 : decode cX3_init 73 = .ok (.iload_n 1, 1) := by decide +kernel
theorem dX3_init_74 : decode cX3_init 74 = .ok (.bipush 16, 2) := by decide +kernel
theorem dX3_init_76 : decode cX3_init 76 = .ok (.if_icmp .lt 14, 3) := by decide +kernel
theorem dX3_init_79 : decode cX3_init 79 = .ok (.iload_n 1, 1) := by decide +kernel
theorem dX3_init_80 : decode cX3_init 80 = .ok (.sipush 400, 3) := by decide +kernel
theorem dX3_init_83 : decode cX3_init 83 = .ok (.if_icmp .gt 7, 3) := by decide +kernel
theorem dX3_init_86 : decode cX3_init 86 = .ok (.iload_n 1, 1) := by decide +kernel
theorem dX3_init_87 : decode cX3_init 87 = .ok (.goto 5, 3) := by decide +kernel
theorem dX3_init_90 : decode cX3_init 90 = .ok (.bipush 64, 2) := by decide +kernel
theorem dX3_init_92 : decode cX3_init 92 = .ok (.putfield 35, 3) := by decide +kernel
theorem dX3_init_95 : decode cX3_init 95 = .ok (.aload_n 0, 1) := by decide +kernel
theorem dX3_init_96 : decode cX3_init 96 = .ok (.iload_n 2, 1) := by decide +kernel
theorem dX3_init_97 : decode cX3_init 97 = .ok (.iconst 1, 1) := by decide +kernel
theorem dX3_init_98 : decode cX3_init 98 = .ok (.if_icmp .lt 13, 3) := by decide +kernel
theorem dX3_init_101 : decode cX3_init 101 = .ok (.iload_n 2, 1) := by decide +kernel
theorem dX3_init_102 : decode cX3_init 102 = .ok (.bipush 64, 2) := by decide +kernel
theorem dX3_init_104 : decode cX3_init 104 = .ok (.if_icmp .gt 7, 3) := by decide +kernel
theorem dX3_init_107 : decode cX3_init 107 = .ok (.iload_n 2, 1) := by decide +kernel
theorem dX3_init_108 : decode cX3_init 108 = .ok (.goto 4, 3) := by decide +kernel
theorem dX3_init_111 : decode cX3_init 111 = .ok (.iconst 4, 1) := by decide +kernel
theorem dX3_init_112 : decode cX3_init 112 = .ok (.putfield 39, 3) := by decide +kernel
theorem dX3_init_115 : decode cX3_init 115 = .ok (.return_, 1) := by decide +kernel
theorem dX3_thrown_0 : decode cX3_thrown 0 = .ok (.aload_n 0, 1) := by decide +kernel
theorem dX3_thrown_1 : decode cX3_thrown 1 = .ok (.getfield 42, 3) := by decide +kernel
theorem dX3_thrown_4 : decode cX3_thrown 4 = .ok (.ireturn, 1) := by decide +kernel
theorem dX3_other_0 : decode cX3_other 0 = .ok (.iconst 1, 1) := by decide +kernel
theorem dX3_other_1 : decode cX3_other 1 = .ok (.aload_n 0, 1) := by decide +kernel
theorem dX3_other_2 : decode cX3_other 2 = .ok (.getfield 45, 3) := by decide +kernel
theorem dX3_other_5 : decode cX3_other 5 = .ok (.isub, 1) := by decide +kernel
theorem dX3_other_6 : decode cX3_other 6 = .ok (.ireturn, 1) := by decide +kernel
theorem dX3_at_0 : decode cX3_at 0 = .ok (.sipush 400, 3) := by decide +kernel
theorem dX3_at_3 : decode cX3_at 3 = .ok (.iload_n 0, 1) := by decide +kernel
theorem dX3_at_4 : decode cX3_at 4 = .ok (.imul, 1) := by decide +kernel
theorem dX3_at_5 : decode cX3_at 5 = .ok (.iload_n 1, 1) := by decide +kernel
theorem dX3_at_6 : decode cX3_at 6 = .ok (.iadd, 1) := by decide +kernel
theorem dX3_at_7 : decode cX3_at 7 = .ok (.ireturn, 1) := by decide +kernel
set_option maxRecDepth 20000 in
theorem ggX3_replicate_X3_at : GoodIn wsX3_replicate wsX3_at := goodIn_r _ [9] (by decide +kernel) (by decide +kernel)
set_option maxRecDepth 20000 in
theorem gX3_replicate_X3_at : GoodIn wsX3_replicate (va_wsS RX3 48 yX3_at wsX3_at) := goodIn_app (goodIn_of _ (by decide +kernel)) ggX3_replicate_X3_at
set_option maxRecDepth 20000 in
theorem ggX3_replicate_X3_other : GoodIn wsX3_replicate wsX3_other := goodIn_r _ [13, 1, 14, 15, 16, 17, 18, 19, 20, 21, 22, 23, 24, 25, 26, 27, 28, 29, 30, 31, 32, 33, 34, 35] (by decide +kernel) (by decide +kernel)
set_option maxRecDepth 20000 in
theorem gX3_replicate_X3_other : GoodIn wsX3_replicate (wsV RX3 52 RX3 yX3_other wsX3_other) := goodIn_app (goodIn_of _ (by decide +kernel)) ggX3_replicate_X3_other
theorem dX3_replicate_0 : decode cX3_replicate 0 = .ok (.aload_n 0, 1) := by decide +kernel
theorem dX3_replicate_1 : decode cX3_replicate 1 = .ok (.getfield 45, 3) := by decide +kernel
theorem dX3_replicate_4 : decode cX3_replicate 4 = .ok (.iload_n 1, 1) := by decide +kernel
theorem dX3_replicate_5 : decode cX3_replicate 5 = .ok (.invokestatic 48, 3) := by decide +kernel
theorem dX3_replicate_8 : decode cX3_replicate 8 = .ok (.istore_n 2, 1) := by decide +kernel
theorem dX3_replicate_9 : decode cX3_replicate 9 = .ok (.aload_n 0, 1) := by decide +kernel
theorem dX3_replicate_10 : decode cX3_replicate 10 = .ok (.getfield 16, 3) := by decide +kernel
theorem dX3_replicate_13 : decode cX3_replicate 13 = .ok (.iload_n 2, 1) := by decide +kernel
theorem dX3_replicate_14 : decode cX3_replicate 14 = .ok (.iaload, 1) := by decide +kernel
theorem dX3_replicate_15 : decode cX3_replicate 15 = .ok (.iconst (-1), 1) := by decide +kernel
theorem dX3_replicate_16 : decode cX3_replicate 16 = .ok (.if_icmp .eq 5, 3) := by decide +kernel
theorem dX3_replicate_19 : decode cX3_replicate 19 = .ok (.iconst 0, 1) := by decide +kernel
theorem dX3_replicate_20 : decode cX3_replicate 20 = .ok (.ireturn, 1) := by decide +kernel
theorem dX3_replicate_21 : decode cX3_replicate 21 = .ok (.aload_n 0, 1) := by decide +kernel
theorem dX3_replicate_22 : decode cX3_replicate 22 = .ok (.getfield 13, 3) := by decide +kernel
theorem dX3_replicate_25 : decode cX3_replicate 25 = .ok (.iload_n 2, 1) := by decide +kernel
theorem dX3_replicate_26 : decode cX3_replicate 26 = .ok (.iaload, 1) := by decide +kernel
theorem dX3_replicate_27 : decode cX3_replicate 27 = .ok (.istore_n 3, 1) := by decide +kernel
theorem dX3_replicate_28 : decode cX3_replicate 28 = .ok (.aload_n 0, 1) := by decide +kernel
theorem dX3_replicate_29 : decode cX3_replicate 29 = .ok (.invokevirtual 52, 3) := by decide +kernel
theorem dX3_replicate_32 : decode cX3_replicate 32 = .ok (.aload_n 0, 1) := by decide +kernel
theorem dX3_replicate_33 : decode cX3_replicate 33 = .ok (.getfield 19, 3) := by decide +kernel
theorem dX3_replicate_36 : decode cX3_replicate 36 = .ok (.aload_n 0, 1) := by decide +kernel
theorem dX3_replicate_37 : decode cX3_replicate 37 = .ok (.invokevirtual 52, 3) := by decide +kernel
theorem dX3_replicate_40 : decode cX3_replicate 40 = .ok (.iaload, 1) := by decide +kernel
theorem dX3_replicate_41 : decode cX3_replicate 41 = .ok (.invokestatic 48, 3) := by decide +kernel
theorem dX3_replicate_44 : decode cX3_replicate 44 = .ok (.istore 4, 2) := by decide +kernel
theorem dX3_replicate_46 : decode cX3_replicate 46 = .ok (.iconst 0, 1) := by decide +kernel
theorem dX3_replicate_47 : decode cX3_replicate 47 = .ok (.istore 5, 2) := by decide +kernel
theorem dX3_replicate_49 : decode cX3_replicate 49 = .ok (.iload 5, 2) := by decide +kernel
theorem dX3_replicate_51 : decode cX3_replicate 51 = .ok (.iload_n 3, 1) := by decide +kernel
theorem dX3_replicate_52 : decode cX3_replicate 52 = .ok (.if_icmp .gt 47, 3) := by decide +kernel
theorem dX3_replicate_55 : decode cX3_replicate 55 = .ok (.aload_n 0, 1) := by decide +kernel
theorem dX3_replicate_56 : decode cX3_replicate 56 = .ok (.getfield 7, 3) := by decide +kernel
theorem dX3_replicate_59 : decode cX3_replicate 59 = .ok (.iload 4, 2) := by decide +kernel
theorem dX3_replicate_61 : decode cX3_replicate 61 = .ok (.iload 5, 2) := by decide +kernel
theorem dX3_replicate_63 : decode cX3_replicate 63 = .ok (.iadd, 1) := by decide +kernel
theorem dX3_replicate_64 : decode cX3_replicate 64 = .ok (.aload_n 0, 1) := by decide +kernel
theorem dX3_replicate_65 : decode cX3_replicate 65 = .ok (.getfield 7, 3) := by decide +kernel
theorem dX3_replicate_68 : decode cX3_replicate 68 = .ok (.iload_n 2, 1) := by decide +kernel
theorem dX3_replicate_69 : decode cX3_replicate 69 = .ok (.iload 5, 2) := by decide +kernel
theorem dX3_replicate_71 : decode cX3_replicate 71 = .ok (.iadd, 1) := by decide +kernel
theorem dX3_replicate_72 : decode cX3_replicate 72 = .ok (.iaload, 1) := by decide +kernel
theorem dX3_replicate_73 : decode cX3_replicate 73 = .ok (.iastore, 1) := by decide +kernel
theorem dX3_replicate_74 : decode cX3_replicate 74 = .ok (.aload_n 0, 1) := by decide +kernel
theorem dX3_replicate_75 : decode cX3_replicate 75 = .ok (.getfield 13, 3) := by decide +kernel
theorem dX3_replicate_78 : decode cX3_replicate 78 = .ok (.iload 4, 2) := by decide +kernel
theorem dX3_replicate_80 : decode cX3_replicate 80 = .ok (.iload 5, 2) := by decide +kernel
theorem dX3_replicate_82 : decode cX3_replicate 82 = .ok (.iadd, 1) := by decide +kernel
theorem dX3_replicate_83 : decode cX3_replicate 83 = .ok (.aload_n 0, 1) := by decide +kernel
theorem dX3_replicate_84 : decode cX3_replicate 84 = .ok (.getfield 13, 3) := by decide +kernel
theorem dX3_replicate_87 : decode cX3_replicate 87 = .ok (.iload_n 2, 1) := by decide +kernel
theorem dX3_replicate_88 : decode cX3_replicate 88 = .ok (.iload 5, 2) := by decide +kernel
theorem dX3_replicate_90 : decode cX3_replicate 90 = .ok (.iadd, 1) := by decide +kernel
theorem dX3_replicate_91 : decode cX3_replicate 91 = .ok (.iaload, 1) := by decide +kernel
theorem dX3_replicate_92 : decode cX3_replicate 92 = .ok (.iastore, 1) := by decide +kernel
theorem dX3_replicate_93 : decode cX3_replicate 93 = .ok (.iinc 5 1, 3) := by decide +kernel
theorem dX3_replicate_96 : decode cX3_replicate 96 = .ok (.goto (-47), 3) := by decide +kernel
theorem dX3_replicate_99 : decode cX3_replicate 99 = .ok (.aload_n 0, 1) := by decide +kernel
theorem dX3_replicate_100 : decode cX3_replicate 100 = .ok (.getfield 16, 3) := by decide +kernel
theorem dX3_replicate_103 : decode cX3_replicate 103 = .ok (.iload 4, 2) := by decide +kernel
theorem dX3_replicate_105 : decode cX3_replicate 105 = .ok (.iconst (-1), 1) := by decide +kernel
theorem dX3_replicate_106 : decode cX3_replicate 106 = .ok (.iastore, 1) := by decide +kernel
theorem dX3_replicate_107 : decode cX3_replicate 107 = .ok (.aload_n 0, 1) := by decide +kernel
theorem dX3_replicate_108 : decode cX3_replicate 108 = .ok (.getfield 16, 3) := by decide +kernel
theorem dX3_replicate_111 : decode cX3_replicate 111 = .ok (.iload_n 2, 1) := by decide +kernel
theorem dX3_replicate_112 : decode cX3_replicate 112 = .ok (.aload_n 0, 1) := by decide +kernel
theorem dX3_replicate_113 : decode cX3_replicate 113 = .ok (.getfield 19, 3) := by decide +kernel
theorem dX3_replicate_116 : decode cX3_replicate 116 = .ok (.aload_n 0, 1) := by decide +kernel
theorem dX3_replicate_117 : decode cX3_replicate 117 = .ok (.invokevirtual 52, 3) := by decide +kernel
theorem dX3_replicate_120 : decode cX3_replicate 120 = .ok (.iaload, 1) := by decide +kernel
theorem dX3_replicate_121 : decode cX3_replicate 121 = .ok (.iastore, 1) := by decide +kernel
theorem dX3_replicate_122 : decode cX3_replicate 122 = .ok (.aload_n 0, 1) := by decide +kernel
theorem dX3_replicate_123 : decode cX3_replicate 123 = .ok (.getfield 19, 3) := by decide +kernel
theorem dX3_replicate_126 : decode cX3_replicate 126 = .ok (.aload_n 0, 1) := by decide +kernel
theorem dX3_replicate_127 : decode cX3_replicate 127 = .ok (.invokevirtual 52, 3) := by decide +kernel
theorem dX3_replicate_130 : decode cX3_replicate 130 = .ok (.dup2, 1) := by decide +kernel
theorem dX3_replicate_131 : decode cX3_replicate 131 = .ok (.iaload, 1) := by decide +kernel
theorem dX3_replicate_132 : decode cX3_replicate 132 = .ok (.iload_n 3, 1) := by decide +kernel
theorem dX3_replicate_133 : decode cX3_replicate 133 = .ok (.iconst 1, 1) := by decide +kernel
theorem dX3_replicate_134 : decode cX3_replicate 134 = .ok (.iadd, 1) := by decide +kernel
theorem dX3_replicate_135 : decode cX3_replicate 135 = .ok (.iadd, 1) := by decide +kernel
theorem dX3_replicate_136 : decode cX3_replicate 136 = .ok (.iastore, 1) := by decide +kernel
theorem dX3_replicate_137 : decode cX3_replicate 137 = .ok (.iload_n 3, 1) := by decide +kernel
theorem dX3_replicate_138 : decode cX3_replicate 138 = .ok (.iconst 1, 1) := by decide +kernel
theorem dX3_replicate_139 : decode cX3_replicate 139 = .ok (.iadd, 1) := by decide +kernel
theorem dX3_replicate_140 : decode cX3_replicate 140 = .ok (.ireturn, 1) := by decide +kernel
set_option maxRecDepth 20000 in
theorem ggX3_refer_X3_replicate : GoodIn wsX3_refer wsX3_replicate := goodIn_r _ [9, 4, 3, 2, 10, 1, 11, 12, 8, 13, 14, 15, 16, 17, 18, 19, 20, 21, 22, 23, 24, 25, 26, 27, 28, 29, 30, 31, 32, 33, 34, 35, 36, 37, 38, 39] (by decide +kernel) (by decide +kernel)
set_option maxRecDepth 20000 in
theorem gX3_refer_X3_replicate : GoodIn wsX3_refer (wsV RX3 56 RX3 yX3_replicate wsX3_replicate) := goodIn_app (goodIn_of _ (by decide +kernel)) ggX3_refer_X3_replicate
set_option maxRecDepth 20000 in
theorem ggX3_refer_X3_other : GoodIn wsX3_refer wsX3_other := goodIn_r _ [17, 4, 18, 19, 20, 21, 22, 23, 24, 25, 26, 27, 28, 29, 30, 31, 32, 33, 34, 35, 36, 37, 38, 39] (by decide +kernel) (by decide +kernel)
set_option maxRecDepth 20000 in
theorem gX3_refer_X3_other : GoodIn wsX3_refer (wsV RX3 52 RX3 yX3_other wsX3_other) := goodIn_app (goodIn_of _ (by decide +kernel)) ggX3_refer_X3_other
set_option maxRecDepth 20000 in
theorem ggX3_refer_X3_at : GoodIn wsX3_refer wsX3_at := goodIn_r _ [13] (by decide +kernel) (by decide +kernel)
set_option maxRecDepth 20000 in
theorem gX3_refer_X3_at : GoodIn wsX3_refer (va_wsS RX3 48 yX3_at wsX3_at) := goodIn_app (goodIn_of _ (by decide +kernel)) ggX3_refer_X3_at
theorem dX3_refer_0 : decode cX3_refer 0 = .ok (.aload_n 0, 1) := by decide +kernel
theorem dX3_refer_1 : decode cX3_refer 1 = .ok (.iload_n 2, 1) := by decide +kernel
theorem dX3_refer_2 : decode cX3_refer 2 = .ok (.invokevirtual 56, 3) := by decide +kernel
theorem dX3_refer_5 : decode cX3_refer 5 = .ok (.istore_n 3, 1) := by decide +kernel
theorem dX3_refer_6 : decode cX3_refer 6 = .ok (.aload_n 0, 1) := by decide +kernel
theorem dX3_refer_7 : decode cX3_refer 7 = .ok (.getfield 7, 3) := by decide +kernel
theorem dX3_refer_10 : decode cX3_refer 10 = .ok (.iload_n 1, 1) := by decide +kernel
theorem dX3_refer_11 : decode cX3_refer 11 = .ok (.iconst 1, 1) := by decide +kernel
theorem dX3_refer_12 : decode cX3_refer 12 = .ok (.aload_n 0, 1) := by decide +kernel
theorem dX3_refer_13 : decode cX3_refer 13 = .ok (.invokevirtual 52, 3) := by decide +kernel
theorem dX3_refer_16 : decode cX3_refer 16 = .ok (.iadd, 1) := by decide +kernel
theorem dX3_refer_17 : decode cX3_refer 17 = .ok (.iastore, 1) := by decide +kernel
theorem dX3_refer_18 : decode cX3_refer 18 = .ok (.aload_n 0, 1) := by decide +kernel
theorem dX3_refer_19 : decode cX3_refer 19 = .ok (.getfield 13, 3) := by decide +kernel
theorem dX3_refer_22 : decode cX3_refer 22 = .ok (.iload_n 1, 1) := by decide +kernel
theorem dX3_refer_23 : decode cX3_refer 23 = .ok (.aload_n 0, 1) := by decide +kernel
theorem dX3_refer_24 : decode cX3_refer 24 = .ok (.getfield 16, 3) := by decide +kernel
theorem dX3_refer_27 : decode cX3_refer 27 = .ok (.aload_n 0, 1) := by decide +kernel
theorem dX3_refer_28 : decode cX3_refer 28 = .ok (.getfield 45, 3) := by decide +kernel
theorem dX3_refer_31 : decode cX3_refer 31 = .ok (.iload_n 2, 1) := by decide +kernel
theorem dX3_refer_32 : decode cX3_refer 32 = .ok (.invokestatic 48, 3) := by decide +kernel
theorem dX3_refer_35 : decode cX3_refer 35 = .ok (.iaload, 1) := by decide +kernel
theorem dX3_refer_36 : decode cX3_refer 36 = .ok (.iastore, 1) := by decide +kernel
theorem dX3_refer_37 : decode cX3_refer 37 = .ok (.iload_n 3, 1) := by decide +kernel
theorem dX3_refer_38 : decode cX3_refer 38 = .ok (.ireturn, 1) := by decide +kernel
set_option maxRecDepth 20000 in
theorem ggX3_take_X3_at : GoodIn wsX3_take wsX3_at := goodIn_r _ [11] (by decide +kernel) (by decide +kernel)
set_option maxRecDepth 20000 in
theorem gX3_take_X3_at : GoodIn wsX3_take (va_wsS RX3 48 yX3_at wsX3_at) := goodIn_app (goodIn_of _ (by decide +kernel)) ggX3_take_X3_at
set_option maxRecDepth 20000 in
theorem ggX3_take_X3_other : GoodIn wsX3_take wsX3_other := goodIn_r _ [15, 4, 25, 26, 27, 28, 29, 30, 31, 32, 33, 34, 35, 36, 37, 38, 39, 40, 41, 42, 43, 44, 45, 46] (by decide +kernel) (by decide +kernel)
set_option maxRecDepth 20000 in
theorem gX3_take_X3_other : GoodIn wsX3_take (wsV RX3 52 RX3 yX3_other wsX3_other) := goodIn_app (goodIn_of _ (by decide +kernel)) ggX3_take_X3_other
set_option maxRecDepth 20000 in
theorem ggX3_take_X3_refer : GoodIn wsX3_take wsX3_refer := goodIn_r _ [19, 6, 7, 5, 4, 20, 21, 22, 10, 23, 24, 8, 9, 11, 12, 13, 14, 15, 25, 26, 27, 28, 29, 30, 31, 32, 33, 34, 35, 36, 37, 38, 39, 40, 41, 42, 43, 44, 45, 46] (by decide +kernel) (by decide +kernel)
set_option maxRecDepth 20000 in
theorem gX3_take_X3_refer : GoodIn wsX3_take (wsV RX3 63 RX3 yX3_refer wsX3_refer) := goodIn_app (goodIn_of _ (by decide +kernel)) ggX3_take_X3_refer
theorem dX3_take_0 : decode cX3_take 0 = .ok (.aload_n 0, 1) := by decide +kernel
theorem dX3_take_1 : decode cX3_take 1 = .ok (.getfield 29, 3) := by decide +kernel
theorem dX3_take_4 : decode cX3_take 4 = .ok (.aload_n 0, 1) := by decide +kernel
theorem dX3_take_5 : decode cX3_take 5 = .ok (.getfield 60, 3) := by decide +kernel
theorem dX3_take_8 : decode cX3_take 8 = .ok (.iaload, 1) := by decide +kernel
theorem dX3_take_9 : decode cX3_take 9 = .ok (.istore_n 1, 1) := by decide +kernel
theorem dX3_take_10 : decode cX3_take 10 = .ok (.aload_n 0, 1) := by decide +kernel
theorem dX3_take_11 : decode cX3_take 11 = .ok (.getfield 32, 3) := by decide +kernel
theorem dX3_take_14 : decode cX3_take 14 = .ok (.aload_n 0, 1) := by decide +kernel
theorem dX3_take_15 : decode cX3_take 15 = .ok (.getfield 60, 3) := by decide +kernel
theorem dX3_take_18 : decode cX3_take 18 = .ok (.iaload, 1) := by decide +kernel
theorem dX3_take_19 : decode cX3_take 19 = .ok (.istore_n 2, 1) := by decide +kernel
theorem dX3_take_20 : decode cX3_take 20 = .ok (.aload_n 0, 1) := by decide +kernel
theorem dX3_take_21 : decode cX3_take 21 = .ok (.dup, 1) := by decide +kernel
theorem dX3_take_22 : decode cX3_take 22 = .ok (.getfield 60, 3) := by decide +kernel
theorem dX3_take_25 : decode cX3_take 25 = .ok (.iconst 1, 1) := by decide +kernel
theorem dX3_take_26 : decode cX3_take 26 = .ok (.iadd, 1) := by decide +kernel
theorem dX3_take_27 : decode cX3_take 27 = .ok (.putfield 60, 3) := by decide +kernel
theorem dX3_take_30 : decode cX3_take 30 = .ok (.aload_n 0, 1) := by decide +kernel
theorem dX3_take_31 : decode cX3_take 31 = .ok (.getfield 45, 3) := by decide +kernel
theorem dX3_take_34 : decode cX3_take 34 = .ok (.iload_n 1, 1) := by decide +kernel
theorem dX3_take_35 : decode cX3_take 35 = .ok (.invokestatic 48, 3) := by decide +kernel
theorem dX3_take_38 : decode cX3_take 38 = .ok (.istore_n 3, 1) := by decide +kernel
theorem dX3_take_39 : decode cX3_take 39 = .ok (.aload_n 0, 1) := by decide +kernel
theorem dX3_take_40 : decode cX3_take 40 = .ok (.getfield 16, 3) := by decide +kernel
theorem dX3_take_43 : decode cX3_take 43 = .ok (.iload_n 3, 1) := by decide +kernel
theorem dX3_take_44 : decode cX3_take 44 = .ok (.iaload, 1) := by decide +kernel
theorem dX3_take_45 : decode cX3_take 45 = .ok (.iconst (-1), 1) := by decide +kernel
theorem dX3_take_46 : decode cX3_take 46 = .ok (.if_icmp .ne 5, 3) := by decide +kernel
theorem dX3_take_49 : decode cX3_take 49 = .ok (.iconst 1, 1) := by decide +kernel
theorem dX3_take_50 : decode cX3_take 50 = .ok (.ireturn, 1) := by decide +kernel
theorem dX3_take_51 : decode cX3_take 51 = .ok (.aload_n 0, 1) := by decide +kernel
theorem dX3_take_52 : decode cX3_take 52 = .ok (.invokevirtual 52, 3) := by decide +kernel
theorem dX3_take_55 : decode cX3_take 55 = .ok (.aload_n 0, 1) := by decide +kernel
theorem dX3_take_56 : decode cX3_take 56 = .ok (.getfield 16, 3) := by decide +kernel
theorem dX3_take_59 : decode cX3_take 59 = .ok (.iload_n 3, 1) := by decide +kernel
theorem dX3_take_60 : decode cX3_take 60 = .ok (.iaload, 1) := by decide +kernel
theorem dX3_take_61 : decode cX3_take 61 = .ok (.invokestatic 48, 3) := by decide +kernel
theorem dX3_take_64 : decode cX3_take 64 = .ok (.iconst 1, 1) := by decide +kernel
theorem dX3_take_65 : decode cX3_take 65 = .ok (.iadd, 1) := by decide +kernel
theorem dX3_take_66 : decode cX3_take 66 = .ok (.iload_n 2, 1) := by decide +kernel
theorem dX3_take_67 : decode cX3_take 67 = .ok (.iadd, 1) := by decide +kernel
theorem dX3_take_68 : decode cX3_take 68 = .ok (.istore 4, 2) := by decide +kernel
theorem dX3_take_70 : decode cX3_take 70 = .ok (.aload_n 0, 1) := by decide +kernel
theorem dX3_take_71 : decode cX3_take 71 = .ok (.getfield 7, 3) := by decide +kernel
theorem dX3_take_74 : decode cX3_take 74 = .ok (.iload_n 3, 1) := by decide +kernel
theorem dX3_take_75 : decode cX3_take 75 = .ok (.iconst 1, 1) := by decide +kernel
theorem dX3_take_76 : decode cX3_take 76 = .ok (.iadd, 1) := by decide +kernel
theorem dX3_take_77 : decode cX3_take 77 = .ok (.iload_n 2, 1) := by decide +kernel
theorem dX3_take_78 : decode cX3_take 78 = .ok (.iadd, 1) := by decide +kernel
theorem dX3_take_79 : decode cX3_take 79 = .ok (.iaload, 1) := by decide +kernel
theorem dX3_take_80 : decode cX3_take 80 = .ok (.ifCond .eq 22, 3) := by decide +kernel
theorem dX3_take_83 : decode cX3_take 83 = .ok (.iconst 1, 1) := by decide +kernel
theorem dX3_take_84 : decode cX3_take 84 = .ok (.aload_n 0, 1) := by decide +kernel
theorem dX3_take_85 : decode cX3_take 85 = .ok (.iload 4, 2) := by decide +kernel
theorem dX3_take_87 : decode cX3_take 87 = .ok (.aload_n 0, 1) := by decide +kernel
theorem dX3_take_88 : decode cX3_take 88 = .ok (.getfield 13, 3) := by decide +kernel
theorem dX3_take_91 : decode cX3_take 91 = .ok (.iload_n 3, 1) := by decide +kernel
theorem dX3_take_92 : decode cX3_take 92 = .ok (.iconst 1, 1) := by decide +kernel
theorem dX3_take_93 : decode cX3_take 93 = .ok (.iadd, 1) := by decide +kernel
theorem dX3_take_94 : decode cX3_take 94 = .ok (.iload_n 2, 1) := by decide +kernel
theorem dX3_take_95 : decode cX3_take 95 = .ok (.iadd, 1) := by decide +kernel
theorem dX3_take_96 : decode cX3_take 96 = .ok (.iaload, 1) := by decide +kernel
theorem dX3_take_97 : decode cX3_take 97 = .ok (.invokevirtual 63, 3) := by decide +kernel
theorem dX3_take_100 : decode cX3_take 100 = .ok (.iadd, 1) := by decide +kernel
theorem dX3_take_101 : decode cX3_take 101 = .ok (.ireturn, 1) := by decide +kernel
theorem dX3_take_102 : decode cX3_take 102 = .ok (.aload_n 0, 1) := by decide +kernel
theorem dX3_take_103 : decode cX3_take 103 = .ok (.getfield 7, 3) := by decide +kernel
theorem dX3_take_106 : decode cX3_take 106 = .ok (.iload 4, 2) := by decide +kernel
theorem dX3_take_108 : decode cX3_take 108 = .ok (.iconst 0, 1) := by decide +kernel
theorem dX3_take_109 : decode cX3_take 109 = .ok (.iastore, 1) := by decide +kernel
theorem dX3_take_110 : decode cX3_take 110 = .ok (.aload_n 0, 1) := by decide +kernel
theorem dX3_take_111 : decode cX3_take 111 = .ok (.getfield 13, 3) := by decide +kernel
theorem dX3_take_114 : decode cX3_take 114 = .ok (.iload 4, 2) := by decide +kernel
theorem dX3_take_116 : decode cX3_take 116 = .ok (.aload_n 0, 1) := by decide +kernel
theorem dX3_take_117 : decode cX3_take 117 = .ok (.getfield 13, 3) := by decide +kernel
theorem dX3_take_120 : decode cX3_take 120 = .ok (.iload_n 3, 1) := by decide +kernel
theorem dX3_take_121 : decode cX3_take 121 = .ok (.iconst 1, 1) := by decide +kernel
theorem dX3_take_122 : decode cX3_take 122 = .ok (.iadd, 1) := by decide +kernel
theorem dX3_take_123 : decode cX3_take 123 = .ok (.iload_n 2, 1) := by decide +kernel
theorem dX3_take_124 : decode cX3_take 124 = .ok (.iadd, 1) := by decide +kernel
theorem dX3_take_125 : decode cX3_take 125 = .ok (.iaload, 1) := by decide +kernel
theorem dX3_take_126 : decode cX3_take 126 = .ok (.iastore, 1) := by decide +kernel
theorem dX3_take_127 : decode cX3_take 127 = .ok (.iconst 1, 1) := by decide +kernel
theorem dX3_take_128 : decode cX3_take 128 = .ok (.ireturn, 1) := by decide +kernel
set_option maxRecDepth 20000 in
theorem ggX3_look_X3_other : GoodIn wsX3_look wsX3_other := goodIn_r _ [9, 3, 23, 24, 25, 26, 27, 28, 29, 30, 31, 32, 33, 34, 35, 36, 37, 38, 39, 40, 41, 42, 43, 44] (by decide +kernel) (by decide +kernel)
set_option maxRecDepth 20000 in
theorem gX3_look_X3_other : GoodIn wsX3_look (wsV RX3 52 RX3 yX3_other wsX3_other) := goodIn_app (goodIn_of _ (by decide +kernel)) ggX3_look_X3_other
set_option maxRecDepth 20000 in
theorem ggX3_look_X3_at : GoodIn wsX3_look wsX3_at := goodIn_r _ [12] (by decide +kernel) (by decide +kernel)
set_option maxRecDepth 20000 in
theorem gX3_look_X3_at : GoodIn wsX3_look (va_wsS RX3 48 yX3_at wsX3_at) := goodIn_app (goodIn_of _ (by decide +kernel)) ggX3_look_X3_at
set_option maxRecDepth 20000 in
theorem ggX3_look_X3_refer : GoodIn wsX3_look wsX3_refer := goodIn_r _ [16, 2, 4, 17, 3, 18, 19, 20, 8, 21, 22, 10, 11, 12, 5, 6, 7, 9, 23, 24, 25, 26, 27, 28, 29, 30, 31, 32, 33, 34, 35, 36, 37, 38, 39, 40, 41, 42, 43, 44] (by decide +kernel) (by decide +kernel)
set_option maxRecDepth 20000 in
theorem gX3_look_X3_refer : GoodIn wsX3_look (wsV RX3 63 RX3 yX3_refer wsX3_refer) := goodIn_app (goodIn_of _ (by decide +kernel)) ggX3_look_X3_refer
theorem dX3_look_0 : decode cX3_look 0 = .ok (.aload_n 0, 1) := by decide +kernel
theorem dX3_look_1 : decode cX3_look 1 = .ok (.invokevirtual 52, 3) := by decide +kernel
theorem dX3_look_4 : decode cX3_look 4 = .ok (.aload_n 0, 1) := by decide +kernel
theorem dX3_look_5 : decode cX3_look 5 = .ok (.getfield 66, 3) := by decide +kernel
theorem dX3_look_8 : decode cX3_look 8 = .ok (.invokestatic 48, 3) := by decide +kernel
theorem dX3_look_11 : decode cX3_look 11 = .ok (.istore_n 1, 1) := by decide +kernel
theorem dX3_look_12 : decode cX3_look 12 = .ok (.aload_n 0, 1) := by decide +kernel
theorem dX3_look_13 : decode cX3_look 13 = .ok (.dup, 1) := by decide +kernel
theorem dX3_look_14 : decode cX3_look 14 = .ok (.getfield 66, 3) := by decide +kernel
theorem dX3_look_17 : decode cX3_look 17 = .ok (.iconst 1, 1) := by decide +kernel
theorem dX3_look_18 : decode cX3_look 18 = .ok (.iadd, 1) := by decide +kernel
theorem dX3_look_19 : decode cX3_look 19 = .ok (.putfield 66, 3) := by decide +kernel
theorem dX3_look_22 : decode cX3_look 22 = .ok (.iconst 1, 1) := by decide +kernel
theorem dX3_look_23 : decode cX3_look 23 = .ok (.aload_n 0, 1) := by decide +kernel
theorem dX3_look_24 : decode cX3_look 24 = .ok (.getfield 7, 3) := by decide +kernel
theorem dX3_look_27 : decode cX3_look 27 = .ok (.iload_n 1, 1) := by decide +kernel
theorem dX3_look_28 : decode cX3_look 28 = .ok (.iaload, 1) := by decide +kernel
theorem dX3_look_29 : decode cX3_look 29 = .ok (.iconst 1, 1) := by decide +kernel
theorem dX3_look_30 : decode cX3_look 30 = .ok (.aload_n 0, 1) := by decide +kernel
theorem dX3_look_31 : decode cX3_look 31 = .ok (.getfield 45, 3) := by decide +kernel
theorem dX3_look_34 : decode cX3_look 34 = .ok (.iadd, 1) := by decide +kernel
theorem dX3_look_35 : decode cX3_look 35 = .ok (.if_icmp .ne 17, 3) := by decide +kernel
theorem dX3_look_38 : decode cX3_look 38 = .ok (.aload_n 0, 1) := by decide +kernel
theorem dX3_look_39 : decode cX3_look 39 = .ok (.iload_n 1, 1) := by decide +kernel
theorem dX3_look_40 : decode cX3_look 40 = .ok (.aload_n 0, 1) := by decide +kernel
theorem dX3_look_41 : decode cX3_look 41 = .ok (.getfield 13, 3) := by decide +kernel
theorem dX3_look_44 : decode cX3_look 44 = .ok (.iload_n 1, 1) := by decide +kernel
theorem dX3_look_45 : decode cX3_look 45 = .ok (.iaload, 1) := by decide +kernel
theorem dX3_look_46 : decode cX3_look 46 = .ok (.invokevirtual 63, 3) := by decide +kernel
theorem dX3_look_49 : decode cX3_look 49 = .ok (.goto 4, 3) := by decide +kernel
theorem dX3_look_52 : decode cX3_look 52 = .ok (.iconst 0, 1) := by decide +kernel
theorem dX3_look_53 : decode cX3_look 53 = .ok (.iadd, 1) := by decide +kernel
theorem dX3_look_54 : decode cX3_look 54 = .ok (.ireturn, 1) := by decide +kernel
set_option maxRecDepth 20000 in
theorem ggX3_nextRoot_X3_at : GoodIn wsX3_nextRoot wsX3_at := goodIn_r _ [8] (by decide +kernel) (by decide +kernel)
set_option maxRecDepth 20000 in
theorem gX3_nextRoot_X3_at : GoodIn wsX3_nextRoot (va_wsS RX3 48 yX3_at wsX3_at) := goodIn_app (goodIn_of _ (by decide +kernel)) ggX3_nextRoot_X3_at
theorem dX3_nextRoot_0 : decode cX3_nextRoot 0 = .ok (.iconst 0, 1) := by decide +kernel
theorem dX3_nextRoot_1 : decode cX3_nextRoot 1 = .ok (.istore_n 1, 1) := by decide +kernel
theorem dX3_nextRoot_2 : decode cX3_nextRoot 2 = .ok (.iload_n 1, 1) := by decide +kernel
theorem dX3_nextRoot_3 : decode cX3_nextRoot 3 = .ok (.bipush 16, 2) := by decide +kernel
theorem dX3_nextRoot_5 : decode cX3_nextRoot 5 = .ok (.if_icmp .ge 53, 3) := by decide +kernel
theorem dX3_nextRoot_8 : decode cX3_nextRoot 8 = .ok (.aload_n 0, 1) := by decide +kernel
theorem dX3_nextRoot_9 : decode cX3_nextRoot 9 = .ok (.getfield 22, 3) := by decide +kernel
theorem dX3_nextRoot_12 : decode cX3_nextRoot 12 = .ok (.iload_n 1, 1) := by decide +kernel
theorem dX3_nextRoot_13 : decode cX3_nextRoot 13 = .ok (.baload, 1) := by decide +kernel
theorem dX3_nextRoot_14 : decode cX3_nextRoot 14 = .ok (.ifCond .eq 38, 3) := by decide +kernel
theorem dX3_nextRoot_17 : decode cX3_nextRoot 17 = .ok (.aload_n 0, 1) := by decide +kernel
theorem dX3_nextRoot_18 : decode cX3_nextRoot 18 = .ok (.getfield 16, 3) := by decide +kernel
theorem dX3_nextRoot_21 : decode cX3_nextRoot 21 = .ok (.aload_n 0, 1) := by decide +kernel
theorem dX3_nextRoot_22 : decode cX3_nextRoot 22 = .ok (.getfield 45, 3) := by decide +kernel
theorem dX3_nextRoot_25 : decode cX3_nextRoot 25 = .ok (.aload_n 0, 1) := by decide +kernel
theorem dX3_nextRoot_26 : decode cX3_nextRoot 26 = .ok (.getfield 22, 3) := by decide +kernel
theorem dX3_nextRoot_29 : decode cX3_nextRoot 29 = .ok (.iload_n 1, 1) := by decide +kernel
theorem dX3_nextRoot_30 : decode cX3_nextRoot 30 = .ok (.baload, 1) := by decide +kernel
theorem dX3_nextRoot_31 : decode cX3_nextRoot 31 = .ok (.ifCond .eq 12, 3) := by decide +kernel
theorem dX3_nextRoot_34 : decode cX3_nextRoot 34 = .ok (.aload_n 0, 1) := by decide +kernel
theorem dX3_nextRoot_35 : decode cX3_nextRoot 35 = .ok (.getfield 26, 3) := by decide +kernel
theorem dX3_nextRoot_38 : decode cX3_nextRoot 38 = .ok (.iload_n 1, 1) := by decide +kernel
theorem dX3_nextRoot_39 : decode cX3_nextRoot 39 = .ok (.iaload, 1) := by decide +kernel
theorem dX3_nextRoot_40 : decode cX3_nextRoot 40 = .ok (.goto 4, 3) := by decide +kernel
theorem dX3_nextRoot_43 : decode cX3_nextRoot 43 = .ok (.iconst 0, 1) := by decide +kernel
theorem dX3_nextRoot_44 : decode cX3_nextRoot 44 = .ok (.invokestatic 48, 3) := by decide +kernel
theorem dX3_nextRoot_47 : decode cX3_nextRoot 47 = .ok (.iaload, 1) := by decide +kernel
theorem dX3_nextRoot_48 : decode cX3_nextRoot 48 = .ok (.iconst (-1), 1) := by decide +kernel
theorem dX3_nextRoot_49 : decode cX3_nextRoot 49 = .ok (.if_icmp .eq 9, 3) := by decide +kernel
theorem dX3_nextRoot_52 : decode cX3_nextRoot 52 = .ok (.iinc 1 1, 3) := by decide +kernel
theorem dX3_nextRoot_55 : decode cX3_nextRoot 55 = .ok (.goto (-53), 3) := by decide +kernel
theorem dX3_nextRoot_58 : decode cX3_nextRoot 58 = .ok (.iload_n 1, 1) := by decide +kernel
theorem dX3_nextRoot_59 : decode cX3_nextRoot 59 = .ok (.ireturn, 1) := by decide +kernel
set_option maxRecDepth 20000 in
theorem ggX3_flip_X3_at : GoodIn wsX3_flip wsX3_at := goodIn_r _ [14] (by decide +kernel) (by decide +kernel)
set_option maxRecDepth 20000 in
theorem gX3_flip_X3_at : GoodIn wsX3_flip (va_wsS RX3 48 yX3_at wsX3_at) := goodIn_app (goodIn_of _ (by decide +kernel)) ggX3_flip_X3_at
set_option maxRecDepth 20000 in
theorem ggX3_flip_X3_other : GoodIn wsX3_flip wsX3_other := goodIn_r _ [18, 4, 19, 20, 21, 22, 23, 24, 25, 26, 27, 28, 29, 30, 31, 32, 33, 34, 35, 36, 37, 38, 39, 40] (by decide +kernel) (by decide +kernel)
set_option maxRecDepth 20000 in
theorem gX3_flip_X3_other : GoodIn wsX3_flip (wsV RX3 52 RX3 yX3_other wsX3_other) := goodIn_app (goodIn_of _ (by decide +kernel)) ggX3_flip_X3_other
theorem dX3_flip_0 : decode cX3_flip 0 = .ok (.iconst 0, 1) := by decide +kernel
theorem dX3_flip_1 : decode cX3_flip 1 = .ok (.istore_n 1, 1) := by decide +kernel
theorem dX3_flip_2 : decode cX3_flip 2 = .ok (.iload_n 1, 1) := by decide +kernel
theorem dX3_flip_3 : decode cX3_flip 3 = .ok (.bipush 16, 2) := by decide +kernel
theorem dX3_flip_5 : decode cX3_flip 5 = .ok (.if_icmp .ge 51, 3) := by decide +kernel
theorem dX3_flip_8 : decode cX3_flip 8 = .ok (.aload_n 0, 1) := by decide +kernel
theorem dX3_flip_9 : decode cX3_flip 9 = .ok (.getfield 26, 3) := by decide +kernel
theorem dX3_flip_12 : decode cX3_flip 12 = .ok (.iload_n 1, 1) := by decide +kernel
theorem dX3_flip_13 : decode cX3_flip 13 = .ok (.aload_n 0, 1) := by decide +kernel
theorem dX3_flip_14 : decode cX3_flip 14 = .ok (.getfield 22, 3) := by decide +kernel
theorem dX3_flip_17 : decode cX3_flip 17 = .ok (.iload_n 1, 1) := by decide +kernel
theorem dX3_flip_18 : decode cX3_flip 18 = .ok (.baload, 1) := by decide +kernel
theorem dX3_flip_19 : decode cX3_flip 19 = .ok (.ifCond .eq 24, 3) := by decide +kernel
theorem dX3_flip_22 : decode cX3_flip 22 = .ok (.aload_n 0, 1) := by decide +kernel
theorem dX3_flip_23 : decode cX3_flip 23 = .ok (.getfield 16, 3) := by decide +kernel
theorem dX3_flip_26 : decode cX3_flip 26 = .ok (.aload_n 0, 1) := by decide +kernel
theorem dX3_flip_27 : decode cX3_flip 27 = .ok (.getfield 45, 3) := by decide +kernel
theorem dX3_flip_30 : decode cX3_flip 30 = .ok (.aload_n 0, 1) := by decide +kernel
theorem dX3_flip_31 : decode cX3_flip 31 = .ok (.getfield 26, 3) := by decide +kernel
theorem dX3_flip_34 : decode cX3_flip 34 = .ok (.iload_n 1, 1) := by decide +kernel
theorem dX3_flip_35 : decode cX3_flip 35 = .ok (.iaload, 1) := by decide +kernel
theorem dX3_flip_36 : decode cX3_flip 36 = .ok (.invokestatic 48, 3) := by decide +kernel
theorem dX3_flip_39 : decode cX3_flip 39 = .ok (.iaload, 1) := by decide +kernel
theorem dX3_flip_40 : decode cX3_flip 40 = .ok (.goto 9, 3) := by decide +kernel
theorem dX3_flip_43 : decode cX3_flip 43 = .ok (.aload_n 0, 1) := by decide +kernel
theorem dX3_flip_44 : decode cX3_flip 44 = .ok (.getfield 26, 3) := by decide +kernel
theorem dX3_flip_47 : decode cX3_flip 47 = .ok (.iload_n 1, 1) := by decide +kernel
theorem dX3_flip_48 : decode cX3_flip 48 = .ok (.iaload, 1) := by decide +kernel
theorem dX3_flip_49 : decode cX3_flip 49 = .ok (.iastore, 1) := by decide +kernel
theorem dX3_flip_50 : decode cX3_flip 50 = .ok (.iinc 1 1, 3) := by decide +kernel
theorem dX3_flip_53 : decode cX3_flip 53 = .ok (.goto (-51), 3) := by decide +kernel
theorem dX3_flip_56 : decode cX3_flip 56 = .ok (.aload_n 0, 1) := by decide +kernel
theorem dX3_flip_57 : decode cX3_flip 57 = .ok (.getfield 19, 3) := by decide +kernel
theorem dX3_flip_60 : decode cX3_flip 60 = .ok (.aload_n 0, 1) := by decide +kernel
theorem dX3_flip_61 : decode cX3_flip 61 = .ok (.getfield 45, 3) := by decide +kernel
theorem dX3_flip_64 : decode cX3_flip 64 = .ok (.iconst 0, 1) := by decide +kernel
theorem dX3_flip_65 : decode cX3_flip 65 = .ok (.iastore, 1) := by decide +kernel
theorem dX3_flip_66 : decode cX3_flip 66 = .ok (.aload_n 0, 1) := by decide +kernel
theorem dX3_flip_67 : decode cX3_flip 67 = .ok (.aload_n 0, 1) := by decide +kernel
theorem dX3_flip_68 : decode cX3_flip 68 = .ok (.invokevirtual 52, 3) := by decide +kernel
theorem dX3_flip_71 : decode cX3_flip 71 = .ok (.putfield 45, 3) := by decide +kernel
theorem dX3_flip_74 : decode cX3_flip 74 = .ok (.aload_n 0, 1) := by decide +kernel
theorem dX3_flip_75 : decode cX3_flip 75 = .ok (.iconst 0, 1) := by decide +kernel
theorem dX3_flip_76 : decode cX3_flip 76 = .ok (.putfield 69, 3) := by decide +kernel
theorem dX3_flip_79 : decode cX3_flip 79 = .ok (.aload_n 0, 1) := by decide +kernel
theorem dX3_flip_80 : decode cX3_flip 80 = .ok (.iconst 0, 1) := by decide +kernel
theorem dX3_flip_81 : decode cX3_flip 81 = .ok (.putfield 66, 3) := by decide +kernel
theorem dX3_flip_84 : decode cX3_flip 84 = .ok (.aload_n 0, 1) := by decide +kernel
theorem dX3_flip_85 : decode cX3_flip 85 = .ok (.iconst 0, 1) := by decide +kernel
theorem dX3_flip_86 : decode cX3_flip 86 = .ok (.putfield 73, 3) := by decide +kernel
theorem dX3_flip_89 : decode cX3_flip 89 = .ok (.aload_n 0, 1) := by decide +kernel
theorem dX3_flip_90 : decode cX3_flip 90 = .ok (.iconst 0, 1) := by decide +kernel
theorem dX3_flip_91 : decode cX3_flip 91 = .ok (.putfield 60, 3) := by decide +kernel
theorem dX3_flip_94 : decode cX3_flip 94 = .ok (.aload_n 0, 1) := by decide +kernel
theorem dX3_flip_95 : decode cX3_flip 95 = .ok (.dup, 1) := by decide +kernel
theorem dX3_flip_96 : decode cX3_flip 96 = .ok (.getfield 76, 3) := by decide +kernel
theorem dX3_flip_99 : decode cX3_flip 99 = .ok (.iconst 1, 1) := by decide +kernel
theorem dX3_flip_100 : decode cX3_flip 100 = .ok (.iadd, 1) := by decide +kernel
theorem dX3_flip_101 : decode cX3_flip 101 = .ok (.putfield 76, 3) := by decide +kernel
theorem dX3_flip_104 : decode cX3_flip 104 = .ok (.bipush 16, 2) := by decide +kernel
theorem dX3_flip_106 : decode cX3_flip 106 = .ok (.ireturn, 1) := by decide +kernel
set_option maxRecDepth 20000 in
theorem ggX3_step_X3_take : GoodIn wsX3_step wsX3_take := goodIn_r _ [11, 12, 1, 13, 14, 15, 16, 17, 18, 19, 10, 20, 21, 22, 23, 24, 25, 26, 27, 28, 29, 30, 31, 32, 4, 48, 49, 50, 51, 52, 53, 54, 55, 56, 57, 58, 59, 60, 61, 62, 63, 64, 65, 66, 67, 68, 69] (by decide +kernel) (by decide +kernel)
set_option maxRecDepth 20000 in
theorem gX3_step_X3_take : GoodIn wsX3_step (wsV RX3 79 RX3 yX3_take wsX3_take) := goodIn_app (goodIn_of _ (by decide +kernel)) ggX3_step_X3_take
set_option maxRecDepth 20000 in
theorem ggX3_step_X3_other : GoodIn wsX3_step wsX3_other := goodIn_r _ [24, 14, 48, 49, 50, 51, 52, 53, 54, 55, 56, 57, 58, 59, 60, 61, 62, 63, 64, 65, 66, 67, 68, 69] (by decide +kernel) (by decide +kernel)
set_option maxRecDepth 20000 in
theorem gX3_step_X3_other : GoodIn wsX3_step (wsV RX3 52 RX3 yX3_other wsX3_other) := goodIn_app (goodIn_of _ (by decide +kernel)) ggX3_step_X3_other
set_option maxRecDepth 20000 in
theorem ggX3_step_X3_look : GoodIn wsX3_step wsX3_look := goodIn_r _ [36, 3, 16, 14, 17, 21, 22, 23, 10, 24, 18, 19, 20, 25, 26, 27, 28, 15, 29, 30, 31, 32, 4, 48, 49, 50, 51, 52, 53, 54, 55, 56, 57, 58, 59, 60, 61, 62, 63, 64, 65, 66, 67, 68, 69] (by decide +kernel) (by decide +kernel)
set_option maxRecDepth 20000 in
theorem gX3_step_X3_look : GoodIn wsX3_step (wsV RX3 82 RX3 yX3_look wsX3_look) := goodIn_app (goodIn_of _ (by decide +kernel)) ggX3_step_X3_look
set_option maxRecDepth 20000 in
theorem ggX3_step_X3_nextRoot : GoodIn wsX3_step wsX3_nextRoot := goodIn_r _ [40, 41, 15, 14, 5, 18, 19, 10, 20, 48, 49, 50, 51, 52, 53, 54, 55, 56, 57, 58, 59, 60, 61, 62, 63, 64, 65, 66, 67, 68, 69] (by decide +kernel) (by decide +kernel)
set_option maxRecDepth 20000 in
theorem gX3_step_X3_nextRoot : GoodIn wsX3_step (wsV RX3 85 RX3 yX3_nextRoot wsX3_nextRoot) := goodIn_app (goodIn_of _ (by decide +kernel)) ggX3_step_X3_nextRoot
set_option maxRecDepth 20000 in
theorem ggX3_step_X3_replicate : GoodIn wsX3_step wsX3_replicate := goodIn_r _ [32, 14, 15, 17, 4, 16, 18, 19, 10, 20, 21, 22, 23, 24, 48, 49, 50, 51, 52, 53, 54, 55, 56, 57, 58, 59, 60, 61, 62, 63, 64, 65, 66, 67, 68, 69] (by decide +kernel) (by decide +kernel)
set_option maxRecDepth 20000 in
theorem gX3_step_X3_replicate : GoodIn wsX3_step (wsV RX3 56 RX3 yX3_replicate wsX3_replicate) := goodIn_app (goodIn_of _ (by decide +kernel)) ggX3_step_X3_replicate
set_option maxRecDepth 20000 in
theorem ggX3_step_X3_flip : GoodIn wsX3_step wsX3_flip := goodIn_r _ [45, 5, 41, 15, 14, 4, 46, 3, 2, 1, 47, 18, 19, 10, 20, 21, 22, 23, 24, 48, 49, 50, 51, 52, 53, 54, 55, 56, 57, 58, 59, 60, 61, 62, 63, 64, 65, 66, 67, 68, 69] (by decide +kernel) (by decide +kernel)
set_option maxRecDepth 20000 in
theorem gX3_step_X3_flip : GoodIn wsX3_step (wsV RX3 88 RX3 yX3_flip wsX3_flip) := goodIn_app (goodIn_of _ (by decide +kernel)) ggX3_step_X3_flip
theorem dX3_step_0 : decode cX3_step 0 = .ok (.iconst 0, 1) := by decide +kernel
theorem dX3_step_1 : decode cX3_step 1 = .ok (.istore_n 1, 1) := by decide +kernel
theorem dX3_step_2 : decode cX3_step 2 = .ok (.aload_n 0, 1) := by decide +kernel
theorem dX3_step_3 : decode cX3_step 3 = .ok (.getfield 60, 3) := by decide +kernel
theorem dX3_step_6 : decode cX3_step 6 = .ok (.aload_n 0, 1) := by decide +kernel
theorem dX3_step_7 : decode cX3_step 7 = .ok (.getfield 73, 3) := by decide +kernel
theorem dX3_step_10 : decode cX3_step 10 = .ok (.if_icmp .ge 11, 3) := by decide +kernel
theorem dX3_step_13 : decode cX3_step 13 = .ok (.aload_n 0, 1) := by decide +kernel
theorem dX3_step_14 : decode cX3_step 14 = .ok (.invokevirtual 79, 3) := by decide +kernel
theorem dX3_step_17 : decode cX3_step 17 = .ok (.istore_n 1, 1) := by decide +kernel
theorem dX3_step_18 : decode cX3_step 18 = .ok (.goto 58, 3) := by decide +kernel
theorem dX3_step_21 : decode cX3_step 21 = .ok (.aload_n 0, 1) := by decide +kernel
theorem dX3_step_22 : decode cX3_step 22 = .ok (.getfield 66, 3) := by decide +kernel
theorem dX3_step_25 : decode cX3_step 25 = .ok (.aload_n 0, 1) := by decide +kernel
theorem dX3_step_26 : decode cX3_step 26 = .ok (.getfield 19, 3) := by decide +kernel
theorem dX3_step_29 : decode cX3_step 29 = .ok (.aload_n 0, 1) := by decide +kernel
theorem dX3_step_30 : decode cX3_step 30 = .ok (.invokevirtual 52, 3) := by decide +kernel
theorem dX3_step_33 : decode cX3_step 33 = .ok (.iaload, 1) := by decide +kernel
theorem dX3_step_34 : decode cX3_step 34 = .ok (.if_icmp .ge 11, 3) := by decide +kernel
theorem dX3_step_37 : decode cX3_step 37 = .ok (.aload_n 0, 1) := by decide +kernel
theorem dX3_step_38 : decode cX3_step 38 = .ok (.invokevirtual 82, 3) := by decide +kernel
theorem dX3_step_41 : decode cX3_step 41 = .ok (.istore_n 1, 1) := by decide +kernel
theorem dX3_step_42 : decode cX3_step 42 = .ok (.goto 34, 3) := by decide +kernel
theorem dX3_step_45 : decode cX3_step 45 = .ok (.aload_n 0, 1) := by decide +kernel
theorem dX3_step_46 : decode cX3_step 46 = .ok (.invokevirtual 85, 3) := by decide +kernel
theorem dX3_step_49 : decode cX3_step 49 = .ok (.bipush 16, 2) := by decide +kernel
theorem dX3_step_51 : decode cX3_step 51 = .ok (.if_icmp .ge 20, 3) := by decide +kernel
theorem dX3_step_54 : decode cX3_step 54 = .ok (.aload_n 0, 1) := by decide +kernel
theorem dX3_step_55 : decode cX3_step 55 = .ok (.aload_n 0, 1) := by decide +kernel
theorem dX3_step_56 : decode cX3_step 56 = .ok (.getfield 26, 3) := by decide +kernel
theorem dX3_step_59 : decode cX3_step 59 = .ok (.aload_n 0, 1) := by decide +kernel
theorem dX3_step_60 : decode cX3_step 60 = .ok (.invokevirtual 85, 3) := by decide +kernel
theorem dX3_step_63 : decode cX3_step 63 = .ok (.iaload, 1) := by decide +kernel
theorem dX3_step_64 : decode cX3_step 64 = .ok (.invokevirtual 56, 3) := by decide +kernel
theorem dX3_step_67 : decode cX3_step 67 = .ok (.istore_n 1, 1) := by decide +kernel
theorem dX3_step_68 : decode cX3_step 68 = .ok (.goto 8, 3) := by decide +kernel
theorem dX3_step_71 : decode cX3_step 71 = .ok (.aload_n 0, 1) := by decide +kernel
theorem dX3_step_72 : decode cX3_step 72 = .ok (.invokevirtual 88, 3) := by decide +kernel
theorem dX3_step_75 : decode cX3_step 75 = .ok (.istore_n 1, 1) := by decide +kernel
theorem dX3_step_76 : decode cX3_step 76 = .ok (.aload_n 0, 1) := by decide +kernel
theorem dX3_step_77 : decode cX3_step 77 = .ok (.dup, 1) := by decide +kernel
theorem dX3_step_78 : decode cX3_step 78 = .ok (.getfield 91, 3) := by decide +kernel
theorem dX3_step_81 : decode cX3_step 81 = .ok (.iload_n 1, 1) := by decide +kernel
theorem dX3_step_82 : decode cX3_step 82 = .ok (.iadd, 1) := by decide +kernel
theorem dX3_step_83 : decode cX3_step 83 = .ok (.putfield 91, 3) := by decide +kernel
theorem dX3_step_86 : decode cX3_step 86 = .ok (.iload_n 1, 1) := by decide +kernel
theorem dX3_step_87 : decode cX3_step 87 = .ok (.ireturn, 1) := by decide +kernel
set_option maxRecDepth 20000 in
theorem ggX3_work_X3_step : GoodIn wsX3_work wsX3_step := goodIn_r _ [6, 7, 8, 9, 10, 11, 12, 13, 14, 15, 5, 16, 17, 18, 19, 20, 21, 22, 23, 24, 25, 26, 27, 28, 29, 30, 31, 32, 33, 34, 35, 36, 37, 38, 39, 40, 41, 42, 43, 44, 45, 46, 47, 48, 49, 50, 1, 51, 52, 53, 54, 55, 56, 57, 58, 59, 60, 61, 62, 63, 64, 65, 66, 67, 68, 69, 70, 71, 72, 73] (by decide +kernel) (by decide +kernel)
set_option maxRecDepth 20000 in
theorem gX3_work_X3_step : GoodIn wsX3_work (wsV RX3 94 RX3 yX3_step wsX3_step) := goodIn_app (goodIn_of _ (by decide +kernel)) ggX3_work_X3_step
theorem dX3_work_0 : decode cX3_work 0 = .ok (.iconst 0, 1) := by decide +kernel
theorem dX3_work_1 : decode cX3_work 1 = .ok (.istore_n 2, 1) := by decide +kernel
theorem dX3_work_2 : decode cX3_work 2 = .ok (.aload_n 0, 1) := by decide +kernel
theorem dX3_work_3 : decode cX3_work 3 = .ok (.getfield 69, 3) := by decide +kernel
theorem dX3_work_6 : decode cX3_work 6 = .ok (.ifCond .eq 22, 3) := by decide +kernel
theorem dX3_work_9 : decode cX3_work 9 = .ok (.iload_n 1, 1) := by decide +kernel
theorem dX3_work_10 : decode cX3_work 10 = .ok (.ifCond .lt 8, 3) := by decide +kernel
theorem dX3_work_13 : decode cX3_work 13 = .ok (.iload_n 2, 1) := by decide +kernel
theorem dX3_work_14 : decode cX3_work 14 = .ok (.iload_n 1, 1) := by decide +kernel
theorem dX3_work_15 : decode cX3_work 15 = .ok (.if_icmp .ge 13, 3) := by decide +kernel
theorem dX3_work_18 : decode cX3_work 18 = .ok (.iload_n 2, 1) := by decide +kernel
theorem dX3_work_19 : decode cX3_work 19 = .ok (.aload_n 0, 1) := by decide +kernel
theorem dX3_work_20 : decode cX3_work 20 = .ok (.invokevirtual 94, 3) := by decide +kernel
theorem dX3_work_23 : decode cX3_work 23 = .ok (.iadd, 1) := by decide +kernel
theorem dX3_work_24 : decode cX3_work 24 = .ok (.istore_n 2, 1) := by decide +kernel
theorem dX3_work_25 : decode cX3_work 25 = .ok (.goto (-23), 3) := by decide +kernel
theorem dX3_work_28 : decode cX3_work 28 = .ok (.iload_n 2, 1) := by decide +kernel
theorem dX3_work_29 : decode cX3_work 29 = .ok (.ireturn, 1) := by decide +kernel
set_option maxRecDepth 20000 in
theorem ggX3_begin_X3_other : GoodIn wsX3_begin wsX3_other := goodIn_r _ [10, 11, 12, 13, 14, 15, 16, 17, 18, 19, 20, 21, 22, 23, 24, 25, 26, 27, 28, 29, 30, 31, 32, 33] (by decide +kernel) (by decide +kernel)
set_option maxRecDepth 20000 in
theorem gX3_begin_X3_other : GoodIn wsX3_begin (wsV RX3 52 RX3 yX3_other wsX3_other) := goodIn_app (goodIn_of _ (by decide +kernel)) ggX3_begin_X3_other
theorem dX3_begin_0 : decode cX3_begin 0 = .ok (.aload_n 0, 1) := by decide +kernel
theorem dX3_begin_1 : decode cX3_begin 1 = .ok (.getfield 69, 3) := by decide +kernel
theorem dX3_begin_4 : decode cX3_begin 4 = .ok (.ifCond .eq 4, 3) := by decide +kernel
theorem dX3_begin_7 : decode cX3_begin 7 = .ok (.return_, 1) := by decide +kernel
theorem dX3_begin_8 : decode cX3_begin 8 = .ok (.aload_n 0, 1) := by decide +kernel
theorem dX3_begin_9 : decode cX3_begin 9 = .ok (.iconst 1, 1) := by decide +kernel
theorem dX3_begin_10 : decode cX3_begin 10 = .ok (.putfield 69, 3) := by decide +kernel
theorem dX3_begin_13 : decode cX3_begin 13 = .ok (.aload_n 0, 1) := by decide +kernel
theorem dX3_begin_14 : decode cX3_begin 14 = .ok (.iconst 0, 1) := by decide +kernel
theorem dX3_begin_15 : decode cX3_begin 15 = .ok (.putfield 66, 3) := by decide +kernel
theorem dX3_begin_18 : decode cX3_begin 18 = .ok (.aload_n 0, 1) := by decide +kernel
theorem dX3_begin_19 : decode cX3_begin 19 = .ok (.iconst 0, 1) := by decide +kernel
theorem dX3_begin_20 : decode cX3_begin 20 = .ok (.putfield 73, 3) := by decide +kernel
theorem dX3_begin_23 : decode cX3_begin 23 = .ok (.aload_n 0, 1) := by decide +kernel
theorem dX3_begin_24 : decode cX3_begin 24 = .ok (.iconst 0, 1) := by decide +kernel
theorem dX3_begin_25 : decode cX3_begin 25 = .ok (.putfield 60, 3) := by decide +kernel
theorem dX3_begin_28 : decode cX3_begin 28 = .ok (.aload_n 0, 1) := by decide +kernel
theorem dX3_begin_29 : decode cX3_begin 29 = .ok (.getfield 19, 3) := by decide +kernel
theorem dX3_begin_32 : decode cX3_begin 32 = .ok (.aload_n 0, 1) := by decide +kernel
theorem dX3_begin_33 : decode cX3_begin 33 = .ok (.invokevirtual 52, 3) := by decide +kernel
theorem dX3_begin_36 : decode cX3_begin 36 = .ok (.iconst 0, 1) := by decide +kernel
theorem dX3_begin_37 : decode cX3_begin 37 = .ok (.iastore, 1) := by decide +kernel
theorem dX3_begin_38 : decode cX3_begin 38 = .ok (.return_, 1) := by decide +kernel
theorem dX3_open_0 : decode cX3_open 0 = .ok (.aload_n 0, 1) := by decide +kernel
theorem dX3_open_1 : decode cX3_open 1 = .ok (.aload_n 0, 1) := by decide +kernel
theorem dX3_open_2 : decode cX3_open 2 = .ok (.getfield 91, 3) := by decide +kernel
theorem dX3_open_5 : decode cX3_open 5 = .ok (.putfield 97, 3) := by decide +kernel
theorem dX3_open_8 : decode cX3_open 8 = .ok (.return_, 1) := by decide +kernel
theorem dX3_close_0 : decode cX3_close 0 = .ok (.aload_n 0, 1) := by decide +kernel
theorem dX3_close_1 : decode cX3_close 1 = .ok (.aload_n 0, 1) := by decide +kernel
theorem dX3_close_2 : decode cX3_close 2 = .ok (.getfield 91, 3) := by decide +kernel
theorem dX3_close_5 : decode cX3_close 5 = .ok (.aload_n 0, 1) := by decide +kernel
theorem dX3_close_6 : decode cX3_close 6 = .ok (.getfield 97, 3) := by decide +kernel
theorem dX3_close_9 : decode cX3_close 9 = .ok (.isub, 1) := by decide +kernel
theorem dX3_close_10 : decode cX3_close 10 = .ok (.aload_n 0, 1) := by decide +kernel
theorem dX3_close_11 : decode cX3_close 11 = .ok (.getfield 100, 3) := by decide +kernel
theorem dX3_close_14 : decode cX3_close 14 = .ok (.if_icmp .le 15, 3) := by decide +kernel
theorem dX3_close_17 : decode cX3_close 17 = .ok (.aload_n 0, 1) := by decide +kernel
theorem dX3_close_18 : decode cX3_close 18 = .ok (.getfield 91, 3) := by decide +kernel
theorem dX3_close_21 : decode cX3_close 21 = .ok (.aload_n 0, 1) := by decide +kernel
theorem dX3_close_22 : decode cX3_close 22 = .ok (.getfield 97, 3) := by decide +kernel
theorem dX3_close_25 : decode cX3_close 25 = .ok (.isub, 1) := by decide +kernel
theorem dX3_close_26 : decode cX3_close 26 = .ok (.goto 7, 3) := by decide +kernel
theorem dX3_close_29 : decode cX3_close 29 = .ok (.aload_n 0, 1) := by decide +kernel
theorem dX3_close_30 : decode cX3_close 30 = .ok (.getfield 100, 3) := by decide +kernel
theorem dX3_close_33 : decode cX3_close 33 = .ok (.putfield 100, 3) := by decide +kernel
theorem dX3_close_36 : decode cX3_close 36 = .ok (.return_, 1) := by decide +kernel
theorem dX3_isRoot_0 : decode cX3_isRoot 0 = .ok (.iload_n 0, 1) := by decide +kernel
theorem dX3_isRoot_1 : decode cX3_isRoot 1 = .ok (.ifCond .lt 13, 3) := by decide +kernel
theorem dX3_isRoot_4 : decode cX3_isRoot 4 = .ok (.iload_n 0, 1) := by decide +kernel
theorem dX3_isRoot_5 : decode cX3_isRoot 5 = .ok (.bipush 16, 2) := by decide +kernel
theorem dX3_isRoot_7 : decode cX3_isRoot 7 = .ok (.if_icmp .ge 7, 3) := by decide +kernel
theorem dX3_isRoot_10 : decode cX3_isRoot 10 = .ok (.iconst 1, 1) := by decide +kernel
theorem dX3_isRoot_11 : decode cX3_isRoot 11 = .ok (.goto 4, 3) := by decide +kernel
theorem dX3_isRoot_14 : decode cX3_isRoot 14 = .ok (.iconst 0, 1) := by decide +kernel
theorem dX3_isRoot_15 : decode cX3_isRoot 15 = .ok (.ireturn, 1) := by decide +kernel
theorem dX3_has_0 : decode cX3_has 0 = .ok (.aload_n 0, 1) := by decide +kernel
theorem dX3_has_1 : decode cX3_has 1 = .ok (.getfield 19, 3) := by decide +kernel
theorem dX3_has_4 : decode cX3_has 4 = .ok (.aload_n 0, 1) := by decide +kernel
theorem dX3_has_5 : decode cX3_has 5 = .ok (.getfield 45, 3) := by decide +kernel
theorem dX3_has_8 : decode cX3_has 8 = .ok (.iaload, 1) := by decide +kernel
theorem dX3_has_9 : decode cX3_has 9 = .ok (.iload_n 1, 1) := by decide +kernel
theorem dX3_has_10 : decode cX3_has 10 = .ok (.iadd, 1) := by decide +kernel
theorem dX3_has_11 : decode cX3_has 11 = .ok (.iconst 1, 1) := by decide +kernel
theorem dX3_has_12 : decode cX3_has 12 = .ok (.iadd, 1) := by decide +kernel
theorem dX3_has_13 : decode cX3_has 13 = .ok (.aload_n 0, 1) := by decide +kernel
theorem dX3_has_14 : decode cX3_has 14 = .ok (.getfield 35, 3) := by decide +kernel
theorem dX3_has_17 : decode cX3_has 17 = .ok (.if_icmp .gt 7, 3) := by decide +kernel
theorem dX3_has_20 : decode cX3_has 20 = .ok (.iconst 1, 1) := by decide +kernel
theorem dX3_has_21 : decode cX3_has 21 = .ok (.goto 4, 3) := by decide +kernel
theorem dX3_has_24 : decode cX3_has 24 = .ok (.iconst 0, 1) := by decide +kernel
theorem dX3_has_25 : decode cX3_has 25 = .ok (.ireturn, 1) := by decide +kernel
set_option maxRecDepth 20000 in
theorem ggX3_pause_X3_begin : GoodIn wsX3_pause wsX3_begin := goodIn_r _ [6, 7, 8, 9, 10, 11, 12, 13, 14, 5, 15, 16, 61, 62, 63, 64, 65, 66, 67, 68, 69, 70, 71, 72, 73, 74, 75, 76, 77, 78, 79, 80, 81, 82] (by decide +kernel) (by decide +kernel)
set_option maxRecDepth 20000 in
theorem gX3_pause_X3_begin : GoodIn wsX3_pause (wsV RX3 106 RX3 yX3_begin wsX3_begin) := goodIn_app (goodIn_of _ (by decide +kernel)) ggX3_pause_X3_begin
set_option maxRecDepth 20000 in
theorem ggX3_pause_X3_work : GoodIn wsX3_pause wsX3_work := goodIn_r _ [20, 7, 21, 22, 23, 5, 24, 10, 9, 8, 11, 25, 26, 27, 28, 29, 30, 31, 32, 16, 33, 34, 35, 36, 37, 38, 12, 13, 14, 15, 39, 40, 41, 42, 43, 44, 45, 46, 47, 48, 49, 50, 51, 52, 53, 54, 55, 56, 57, 58, 59, 60, 61, 62, 63, 64, 65, 66, 67, 68, 69, 70, 71, 72, 73, 74, 75, 76, 77, 78, 79, 80, 81, 82] (by decide +kernel) (by decide +kernel)
set_option maxRecDepth 20000 in
theorem gX3_pause_X3_work : GoodIn wsX3_pause (wsV RX3 109 RX3 yX3_work wsX3_work) := goodIn_app (goodIn_of _ (by decide +kernel)) ggX3_pause_X3_work
theorem dX3_pause_0 : decode cX3_pause 0 = .ok (.aload_n 0, 1) := by decide +kernel
theorem dX3_pause_1 : decode cX3_pause 1 = .ok (.dup, 1) := by decide +kernel
theorem dX3_pause_2 : decode cX3_pause 2 = .ok (.getfield 103, 3) := by decide +kernel
theorem dX3_pause_5 : decode cX3_pause 5 = .ok (.iconst 1, 1) := by decide +kernel
theorem dX3_pause_6 : decode cX3_pause 6 = .ok (.iadd, 1) := by decide +kernel
theorem dX3_pause_7 : decode cX3_pause 7 = .ok (.putfield 103, 3) := by decide +kernel
theorem dX3_pause_10 : decode cX3_pause 10 = .ok (.aload_n 0, 1) := by decide +kernel
theorem dX3_pause_11 : decode cX3_pause 11 = .ok (.invokevirtual 106, 3) := by decide +kernel
theorem dX3_pause_14 : decode cX3_pause 14 = .ok (.aload_n 0, 1) := by decide +kernel
theorem dX3_pause_15 : decode cX3_pause 15 = .ok (.iconst (-1), 1) := by decide +kernel
theorem dX3_pause_16 : decode cX3_pause 16 = .ok (.invokevirtual 109, 3) := by decide +kernel
theorem dX3_pause_19 : decode cX3_pause 19 = .ok (.istore_n 1, 1) := by decide +kernel
theorem dX3_pause_20 : decode cX3_pause 20 = .ok (.return_, 1) := by decide +kernel
set_option maxRecDepth 20000 in
theorem ggX3_alloc_X3_isRoot : GoodIn wsX3_alloc wsX3_isRoot := goodIn_r _ [16] (by decide +kernel) (by decide +kernel)
set_option maxRecDepth 20000 in
theorem gX3_alloc_X3_isRoot : GoodIn wsX3_alloc (va_wsS RX3 112 yX3_isRoot wsX3_isRoot) := goodIn_app (goodIn_of _ (by decide +kernel)) ggX3_alloc_X3_isRoot
set_option maxRecDepth 20000 in
theorem ggX3_alloc_X3_open : GoodIn wsX3_alloc wsX3_open := goodIn_r _ [20, 21, 22, 86, 87, 88, 89, 90, 91, 92, 93, 94, 95, 96, 97, 98, 99, 100, 101, 102, 103, 104, 105, 106, 107] (by decide +kernel) (by decide +kernel)
set_option maxRecDepth 20000 in
theorem gX3_alloc_X3_open : GoodIn wsX3_alloc (wsV RX3 116 RX3 yX3_open wsX3_open) := goodIn_app (goodIn_of _ (by decide +kernel)) ggX3_alloc_X3_open
set_option maxRecDepth 20000 in
theorem ggX3_alloc_X3_has : GoodIn wsX3_alloc wsX3_has := goodIn_r _ [26, 3, 4, 12, 86, 87, 88, 89, 90, 91, 92, 93, 94, 95, 96, 97, 98, 99, 100, 101, 102, 103, 104, 105, 106, 107] (by decide +kernel) (by decide +kernel)
set_option maxRecDepth 20000 in
theorem gX3_alloc_X3_has : GoodIn wsX3_alloc (wsV RX3 119 RX3 yX3_has wsX3_has) := goodIn_app (goodIn_of _ (by decide +kernel)) ggX3_alloc_X3_has
set_option maxRecDepth 20000 in
theorem ggX3_alloc_X3_pause : GoodIn wsX3_alloc wsX3_pause := goodIn_r _ [30, 31, 32, 33, 34, 15, 35, 2, 36, 37, 38, 3, 39, 40, 41, 42, 4, 43, 44, 45, 46, 47, 48, 49, 50, 10, 21, 51, 52, 53, 54, 55, 56, 7, 5, 6, 57, 58, 59, 60, 61, 62, 63, 64, 65, 66, 67, 68, 69, 70, 71, 72, 73, 74, 75, 9, 76, 77, 78, 79, 80, 86, 87, 88, 89, 90, 91, 92, 93, 94, 95, 96, 97, 98, 99, 100, 101, 102, 103, 104, 105, 106, 107] (by decide +kernel) (by decide +kernel)
set_option maxRecDepth 20000 in
theorem gX3_alloc_X3_pause : GoodIn wsX3_alloc (wsV RX3 121 RX3 yX3_pause wsX3_pause) := goodIn_app (goodIn_of _ (by decide +kernel)) ggX3_alloc_X3_pause
set_option maxRecDepth 20000 in
theorem ggX3_alloc_X3_at : GoodIn wsX3_alloc wsX3_at := goodIn_r _ [59] (by decide +kernel) (by decide +kernel)
set_option maxRecDepth 20000 in
theorem gX3_alloc_X3_at : GoodIn wsX3_alloc (va_wsS RX3 48 yX3_at wsX3_at) := goodIn_app (goodIn_of _ (by decide +kernel)) ggX3_alloc_X3_at
set_option maxRecDepth 20000 in
theorem ggX3_alloc_X3_work : GoodIn wsX3_alloc wsX3_work := goodIn_r _ [46, 2, 47, 48, 49, 15, 50, 38, 37, 36, 3, 10, 21, 51, 52, 53, 54, 55, 56, 4, 7, 5, 6, 57, 58, 59, 39, 40, 41, 42, 60, 61, 62, 63, 64, 65, 66, 67, 68, 69, 70, 71, 72, 73, 74, 75, 9, 76, 77, 78, 79, 80, 86, 87, 88, 89, 90, 91, 92, 93, 94, 95, 96, 97, 98, 99, 100, 101, 102, 103, 104, 105, 106, 107] (by decide +kernel) (by decide +kernel)
set_option maxRecDepth 20000 in
theorem gX3_alloc_X3_work : GoodIn wsX3_alloc (wsV RX3 109 RX3 yX3_work wsX3_work) := goodIn_app (goodIn_of _ (by decide +kernel)) ggX3_alloc_X3_work
set_option maxRecDepth 20000 in
theorem ggX3_alloc_X3_begin : GoodIn wsX3_alloc wsX3_begin := goodIn_r _ [35, 2, 36, 37, 38, 3, 39, 40, 41, 15, 42, 4, 86, 87, 88, 89, 90, 91, 92, 93, 94, 95, 96, 97, 98, 99, 100, 101, 102, 103, 104, 105, 106, 107] (by decide +kernel) (by decide +kernel)
set_option maxRecDepth 20000 in
theorem gX3_alloc_X3_begin : GoodIn wsX3_alloc (wsV RX3 106 RX3 yX3_begin wsX3_begin) := goodIn_app (goodIn_of _ (by decide +kernel)) ggX3_alloc_X3_begin
set_option maxRecDepth 20000 in
theorem ggX3_alloc_X3_close : GoodIn wsX3_alloc wsX3_close := goodIn_r _ [84, 21, 22, 85, 86, 87, 88, 89, 90, 91, 92, 93, 94, 95, 96, 97, 98, 99, 100, 101, 102, 103, 104, 105, 106, 107] (by decide +kernel) (by decide +kernel)
set_option maxRecDepth 20000 in
theorem gX3_alloc_X3_close : GoodIn wsX3_alloc (wsV RX3 127 RX3 yX3_close wsX3_close) := goodIn_app (goodIn_of _ (by decide +kernel)) ggX3_alloc_X3_close
theorem dX3_alloc_0 : decode cX3_alloc 0 = .ok (.aload_n 0, 1) := by decide +kernel
theorem dX3_alloc_1 : decode cX3_alloc 1 = .ok (.iload_n 1, 1) := by decide +kernel
theorem dX3_alloc_2 : decode cX3_alloc 2 = .ok (.invokestatic 112, 3) := by decide +kernel
theorem dX3_alloc_5 : decode cX3_alloc 5 = .ok (.ifCond .eq 18, 3) := by decide +kernel
theorem dX3_alloc_8 : decode cX3_alloc 8 = .ok (.iload_n 2, 1) := by decide +kernel
theorem dX3_alloc_9 : decode cX3_alloc 9 = .ok (.iconst 1, 1) := by decide +kernel
theorem dX3_alloc_10 : decode cX3_alloc 10 = .ok (.if_icmp .lt 13, 3) := by decide +kernel
theorem dX3_alloc_13 : decode cX3_alloc 13 = .ok (.iload_n 2, 1) := by decide +kernel
theorem dX3_alloc_14 : decode cX3_alloc 14 = .ok (.bipush 8, 2) := by decide +kernel
theorem dX3_alloc_16 : decode cX3_alloc 16 = .ok (.if_icmp .gt 7, 3) := by decide +kernel
theorem dX3_alloc_19 : decode cX3_alloc 19 = .ok (.iconst 0, 1) := by decide +kernel
theorem dX3_alloc_20 : decode cX3_alloc 20 = .ok (.goto 4, 3) := by decide +kernel
theorem dX3_alloc_23 : decode cX3_alloc 23 = .ok (.iconst 1, 1) := by decide +kernel
theorem dX3_alloc_24 : decode cX3_alloc 24 = .ok (.putfield 42, 3) := by decide +kernel
theorem dX3_alloc_27 : decode cX3_alloc 27 = .ok (.aload_n 0, 1) := by decide +kernel
theorem dX3_alloc_28 : decode cX3_alloc 28 = .ok (.getfield 42, 3) := by decide +kernel
theorem dX3_alloc_31 : decode cX3_alloc 31 = .ok (.ifCond .le 5, 3) := by decide +kernel
theorem dX3_alloc_34 : decode cX3_alloc 34 = .ok (.iconst 0, 1) := by decide +kernel
theorem dX3_alloc_35 : decode cX3_alloc 35 = .ok (.ireturn, 1) := by decide +kernel
theorem dX3_alloc_36 : decode cX3_alloc 36 = .ok (.aload_n 0, 1) := by decide +kernel
theorem dX3_alloc_37 : decode cX3_alloc 37 = .ok (.invokevirtual 116, 3) := by decide +kernel
theorem dX3_alloc_40 : decode cX3_alloc 40 = .ok (.aload_n 0, 1) := by decide +kernel
theorem dX3_alloc_41 : decode cX3_alloc 41 = .ok (.iload_n 2, 1) := by decide +kernel
theorem dX3_alloc_42 : decode cX3_alloc 42 = .ok (.invokevirtual 119, 3) := by decide +kernel
theorem dX3_alloc_45 : decode cX3_alloc 45 = .ok (.ifCond .ne 14, 3) := by decide +kernel
theorem dX3_alloc_48 : decode cX3_alloc 48 = .ok (.aload_n 0, 1) := by decide +kernel
theorem dX3_alloc_49 : decode cX3_alloc 49 = .ok (.getfield 69, 3) := by decide +kernel
theorem dX3_alloc_52 : decode cX3_alloc 52 = .ok (.ifCond .eq 7, 3) := by decide +kernel
theorem dX3_alloc_55 : decode cX3_alloc 55 = .ok (.aload_n 0, 1) := by decide +kernel
theorem dX3_alloc_56 : decode cX3_alloc 56 = .ok (.invokevirtual 121, 3) := by decide +kernel
theorem dX3_alloc_59 : decode cX3_alloc 59 = .ok (.aload_n 0, 1) := by decide +kernel
theorem dX3_alloc_60 : decode cX3_alloc 60 = .ok (.iload_n 2, 1) := by decide +kernel
theorem dX3_alloc_61 : decode cX3_alloc 61 = .ok (.invokevirtual 119, 3) := by decide +kernel
theorem dX3_alloc_64 : decode cX3_alloc 64 = .ok (.ifCond .ne 7, 3) := by decide +kernel
theorem dX3_alloc_67 : decode cX3_alloc 67 = .ok (.aload_n 0, 1) := by decide +kernel
theorem dX3_alloc_68 : decode cX3_alloc 68 = .ok (.invokevirtual 121, 3) := by decide +kernel
theorem dX3_alloc_71 : decode cX3_alloc 71 = .ok (.aload_n 0, 1) := by decide +kernel
theorem dX3_alloc_72 : decode cX3_alloc 72 = .ok (.iload_n 2, 1) := by decide +kernel
theorem dX3_alloc_73 : decode cX3_alloc 73 = .ok (.invokevirtual 119, 3) := by decide +kernel
theorem dX3_alloc_76 : decode cX3_alloc 76 = .ok (.istore_n 3, 1) := by decide +kernel
theorem dX3_alloc_77 : decode cX3_alloc 77 = .ok (.iload_n 3, 1) := by decide +kernel
theorem dX3_alloc_78 : decode cX3_alloc 78 = .ok (.ifCond .eq 184, 3) := by decide +kernel
theorem dX3_alloc_81 : decode cX3_alloc 81 = .ok (.aload_n 0, 1) := by decide +kernel
theorem dX3_alloc_82 : decode cX3_alloc 82 = .ok (.getfield 19, 3) := by decide +kernel
theorem dX3_alloc_85 : decode cX3_alloc 85 = .ok (.aload_n 0, 1) := by decide +kernel
theorem dX3_alloc_86 : decode cX3_alloc 86 = .ok (.getfield 45, 3) := by decide +kernel
theorem dX3_alloc_89 : decode cX3_alloc 89 = .ok (.iaload, 1) := by decide +kernel
theorem dX3_alloc_90 : decode cX3_alloc 90 = .ok (.istore 4, 2) := by decide +kernel
theorem dX3_alloc_92 : decode cX3_alloc 92 = .ok (.iconst 0, 1) := by decide +kernel
theorem dX3_alloc_93 : decode cX3_alloc 93 = .ok (.istore 5, 2) := by decide +kernel
theorem dX3_alloc_95 : decode cX3_alloc 95 = .ok (.iload 5, 2) := by decide +kernel
theorem dX3_alloc_97 : decode cX3_alloc 97 = .ok (.iload_n 2, 1) := by decide +kernel
theorem dX3_alloc_98 : decode cX3_alloc 98 = .ok (.if_icmp .gt 63, 3) := by decide +kernel
theorem dX3_alloc_101 : decode cX3_alloc 101 = .ok (.aload_n 0, 1) := by decide +kernel
theorem dX3_alloc_102 : decode cX3_alloc 102 = .ok (.getfield 7, 3) := by decide +kernel
theorem dX3_alloc_105 : decode cX3_alloc 105 = .ok (.aload_n 0, 1) := by decide +kernel
theorem dX3_alloc_106 : decode cX3_alloc 106 = .ok (.getfield 45, 3) := by decide +kernel
theorem dX3_alloc_109 : decode cX3_alloc 109 = .ok (.iload 4, 2) := by decide +kernel
theorem dX3_alloc_111 : decode cX3_alloc 111 = .ok (.invokestatic 48, 3) := by decide +kernel
theorem dX3_alloc_114 : decode cX3_alloc 114 = .ok (.iload 5, 2) := by decide +kernel
theorem dX3_alloc_116 : decode cX3_alloc 116 = .ok (.iadd, 1) := by decide +kernel
theorem dX3_alloc_117 : decode cX3_alloc 117 = .ok (.iload 5, 2) := by decide +kernel
theorem dX3_alloc_119 : decode cX3_alloc 119 = .ok (.ifCond .ne 7, 3) := by decide +kernel
theorem dX3_alloc_122 : decode cX3_alloc 122 = .ok (.iconst 3, 1) := by decide +kernel
theorem dX3_alloc_123 : decode cX3_alloc 123 = .ok (.goto 4, 3) := by decide +kernel
theorem dX3_alloc_126 : decode cX3_alloc 126 = .ok (.iconst 0, 1) := by decide +kernel
theorem dX3_alloc_127 : decode cX3_alloc 127 = .ok (.iastore, 1) := by decide +kernel
theorem dX3_alloc_128 : decode cX3_alloc 128 = .ok (.aload_n 0, 1) := by decide +kernel
theorem dX3_alloc_129 : decode cX3_alloc 129 = .ok (.getfield 13, 3) := by decide +kernel
theorem dX3_alloc_132 : decode cX3_alloc 132 = .ok (.aload_n 0, 1) := by decide +kernel
theorem dX3_alloc_133 : decode cX3_alloc 133 = .ok (.getfield 45, 3) := by decide +kernel
theorem dX3_alloc_136 : decode cX3_alloc 136 = .ok (.iload 4, 2) := by decide +kernel
theorem dX3_alloc_138 : decode cX3_alloc 138 = .ok (.invokestatic 48, 3) := by decide +kernel
theorem dX3_alloc_141 : decode cX3_alloc 141 = .ok (.iload 5, 2) := by decide +kernel
theorem dX3_alloc_143 : decode cX3_alloc 143 = .ok (.iadd, 1) := by decide +kernel
theorem dX3_alloc_144 : decode cX3_alloc 144 = .ok (.iload 5, 2) := by decide +kernel
theorem dX3_alloc_146 : decode cX3_alloc 146 = .ok (.ifCond .ne 7, 3) := by decide +kernel
theorem dX3_alloc_149 : decode cX3_alloc 149 = .ok (.iload_n 2, 1) := by decide +kernel
theorem dX3_alloc_150 : decode cX3_alloc 150 = .ok (.goto 4, 3) := by decide +kernel
theorem dX3_alloc_153 : decode cX3_alloc 153 = .ok (.iconst 0, 1) := by decide +kernel
theorem dX3_alloc_154 : decode cX3_alloc 154 = .ok (.iastore, 1) := by decide +kernel
theorem dX3_alloc_155 : decode cX3_alloc 155 = .ok (.iinc 5 1, 3) := by decide +kernel
theorem dX3_alloc_158 : decode cX3_alloc 158 = .ok (.goto (-63), 3) := by decide +kernel
theorem dX3_alloc_161 : decode cX3_alloc 161 = .ok (.aload_n 0, 1) := by decide +kernel
theorem dX3_alloc_162 : decode cX3_alloc 162 = .ok (.getfield 16, 3) := by decide +kernel
theorem dX3_alloc_165 : decode cX3_alloc 165 = .ok (.aload_n 0, 1) := by decide +kernel
theorem dX3_alloc_166 : decode cX3_alloc 166 = .ok (.getfield 45, 3) := by decide +kernel
theorem dX3_alloc_169 : decode cX3_alloc 169 = .ok (.iload 4, 2) := by decide +kernel
theorem dX3_alloc_171 : decode cX3_alloc 171 = .ok (.invokestatic 48, 3) := by decide +kernel
theorem dX3_alloc_174 : decode cX3_alloc 174 = .ok (.iconst (-1), 1) := by decide +kernel
theorem dX3_alloc_175 : decode cX3_alloc 175 = .ok (.iastore, 1) := by decide +kernel
theorem dX3_alloc_176 : decode cX3_alloc 176 = .ok (.aload_n 0, 1) := by decide +kernel
theorem dX3_alloc_177 : decode cX3_alloc 177 = .ok (.getfield 19, 3) := by decide +kernel
theorem dX3_alloc_180 : decode cX3_alloc 180 = .ok (.aload_n 0, 1) := by decide +kernel
theorem dX3_alloc_181 : decode cX3_alloc 181 = .ok (.getfield 45, 3) := by decide +kernel
theorem dX3_alloc_184 : decode cX3_alloc 184 = .ok (.dup2, 1) := by decide +kernel
theorem dX3_alloc_185 : decode cX3_alloc 185 = .ok (.iaload, 1) := by decide +kernel
theorem dX3_alloc_186 : decode cX3_alloc 186 = .ok (.iload_n 2, 1) := by decide +kernel
theorem dX3_alloc_187 : decode cX3_alloc 187 = .ok (.iconst 1, 1) := by decide +kernel
theorem dX3_alloc_188 : decode cX3_alloc 188 = .ok (.iadd, 1) := by decide +kernel
theorem dX3_alloc_189 : decode cX3_alloc 189 = .ok (.iadd, 1) := by decide +kernel
theorem dX3_alloc_190 : decode cX3_alloc 190 = .ok (.iastore, 1) := by decide +kernel
theorem dX3_alloc_191 : decode cX3_alloc 191 = .ok (.aload_n 0, 1) := by decide +kernel
theorem dX3_alloc_192 : decode cX3_alloc 192 = .ok (.dup, 1) := by decide +kernel
theorem dX3_alloc_193 : decode cX3_alloc 193 = .ok (.getfield 124, 3) := by decide +kernel
theorem dX3_alloc_196 : decode cX3_alloc 196 = .ok (.iconst 1, 1) := by decide +kernel
theorem dX3_alloc_197 : decode cX3_alloc 197 = .ok (.iadd, 1) := by decide +kernel
theorem dX3_alloc_198 : decode cX3_alloc 198 = .ok (.putfield 124, 3) := by decide +kernel
theorem dX3_alloc_201 : decode cX3_alloc 201 = .ok (.aload_n 0, 1) := by decide +kernel
theorem dX3_alloc_202 : decode cX3_alloc 202 = .ok (.getfield 22, 3) := by decide +kernel
theorem dX3_alloc_205 : decode cX3_alloc 205 = .ok (.iload_n 1, 1) := by decide +kernel
theorem dX3_alloc_206 : decode cX3_alloc 206 = .ok (.iconst 1, 1) := by decide +kernel
theorem dX3_alloc_207 : decode cX3_alloc 207 = .ok (.bastore, 1) := by decide +kernel
theorem dX3_alloc_208 : decode cX3_alloc 208 = .ok (.aload_n 0, 1) := by decide +kernel
theorem dX3_alloc_209 : decode cX3_alloc 209 = .ok (.getfield 26, 3) := by decide +kernel
theorem dX3_alloc_212 : decode cX3_alloc 212 = .ok (.iload_n 1, 1) := by decide +kernel
theorem dX3_alloc_213 : decode cX3_alloc 213 = .ok (.iload 4, 2) := by decide +kernel
theorem dX3_alloc_215 : decode cX3_alloc 215 = .ok (.iastore, 1) := by decide +kernel
theorem dX3_alloc_216 : decode cX3_alloc 216 = .ok (.aload_n 0, 1) := by decide +kernel
theorem dX3_alloc_217 : decode cX3_alloc 217 = .ok (.getfield 69, 3) := by decide +kernel
theorem dX3_alloc_220 : decode cX3_alloc 220 = .ok (.ifCond .eq 20, 3) := by decide +kernel
theorem dX3_alloc_223 : decode cX3_alloc 223 = .ok (.aload_n 0, 1) := by decide +kernel
theorem dX3_alloc_224 : decode cX3_alloc 224 = .ok (.aload_n 0, 1) := by decide +kernel
theorem dX3_alloc_225 : decode cX3_alloc 225 = .ok (.getfield 39, 3) := by decide +kernel
theorem dX3_alloc_228 : decode cX3_alloc 228 = .ok (.iload_n 2, 1) := by decide +kernel
theorem dX3_alloc_229 : decode cX3_alloc 229 = .ok (.iconst 1, 1) := by decide +kernel
theorem dX3_alloc_230 : decode cX3_alloc 230 = .ok (.iadd, 1) := by decide +kernel
theorem dX3_alloc_231 : decode cX3_alloc 231 = .ok (.imul, 1) := by decide +kernel
theorem dX3_alloc_232 : decode cX3_alloc 232 = .ok (.invokevirtual 109, 3) := by decide +kernel
theorem dX3_alloc_235 : decode cX3_alloc 235 = .ok (.istore 5, 2) := by decide +kernel
theorem dX3_alloc_237 : decode cX3_alloc 237 = .ok (.goto 25, 3) := by decide +kernel
theorem dX3_alloc_240 : decode cX3_alloc 240 = .ok (.iconst 2, 1) := by decide +kernel
theorem dX3_alloc_241 : decode cX3_alloc 241 = .ok (.aload_n 0, 1) := by decide +kernel
theorem dX3_alloc_242 : decode cX3_alloc 242 = .ok (.getfield 19, 3) := by decide +kernel
theorem dX3_alloc_245 : decode cX3_alloc 245 = .ok (.aload_n 0, 1) := by decide +kernel
theorem dX3_alloc_246 : decode cX3_alloc 246 = .ok (.getfield 45, 3) := by decide +kernel
theorem dX3_alloc_249 : decode cX3_alloc 249 = .ok (.iaload, 1) := by decide +kernel
theorem dX3_alloc_250 : decode cX3_alloc 250 = .ok (.imul, 1) := by decide +kernel
theorem dX3_alloc_251 : decode cX3_alloc 251 = .ok (.aload_n 0, 1) := by decide +kernel
theorem dX3_alloc_252 : decode cX3_alloc 252 = .ok (.getfield 35, 3) := by decide +kernel
theorem dX3_alloc_255 : decode cX3_alloc 255 = .ok (.if_icmp .le 7, 3) := by decide +kernel
theorem dX3_alloc_258 : decode cX3_alloc 258 = .ok (.aload_n 0, 1) := by decide +kernel
theorem dX3_alloc_259 : decode cX3_alloc 259 = .ok (.invokevirtual 106, 3) := by decide +kernel
theorem dX3_alloc_262 : decode cX3_alloc 262 = .ok (.aload_n 0, 1) := by decide +kernel
theorem dX3_alloc_263 : decode cX3_alloc 263 = .ok (.invokevirtual 127, 3) := by decide +kernel
theorem dX3_alloc_266 : decode cX3_alloc 266 = .ok (.iload_n 3, 1) := by decide +kernel
theorem dX3_alloc_267 : decode cX3_alloc 267 = .ok (.ireturn, 1) := by decide +kernel
set_option maxRecDepth 20000 in
theorem ggX3_hasField_X3_at : GoodIn wsX3_hasField wsX3_at := goodIn_r _ [8] (by decide +kernel) (by decide +kernel)
set_option maxRecDepth 20000 in
theorem gX3_hasField_X3_at : GoodIn wsX3_hasField (va_wsS RX3 48 yX3_at wsX3_at) := goodIn_app (goodIn_of _ (by decide +kernel)) ggX3_hasField_X3_at
theorem dX3_hasField_0 : decode cX3_hasField 0 = .ok (.aload_n 0, 1) := by decide +kernel
theorem dX3_hasField_1 : decode cX3_hasField 1 = .ok (.getfield 22, 3) := by decide +kernel
theorem dX3_hasField_4 : decode cX3_hasField 4 = .ok (.iload_n 1, 1) := by decide +kernel
theorem dX3_hasField_5 : decode cX3_hasField 5 = .ok (.baload, 1) := by decide +kernel
theorem dX3_hasField_6 : decode cX3_hasField 6 = .ok (.ifCond .eq 46, 3) := by decide +kernel
theorem dX3_hasField_9 : decode cX3_hasField 9 = .ok (.iload_n 2, 1) := by decide +kernel
theorem dX3_hasField_10 : decode cX3_hasField 10 = .ok (.ifCond .lt 42, 3) := by decide +kernel
theorem dX3_hasField_13 : decode cX3_hasField 13 = .ok (.iload_n 2, 1) := by decide +kernel
theorem dX3_hasField_14 : decode cX3_hasField 14 = .ok (.aload_n 0, 1) := by decide +kernel
theorem dX3_hasField_15 : decode cX3_hasField 15 = .ok (.getfield 13, 3) := by decide +kernel
theorem dX3_hasField_18 : decode cX3_hasField 18 = .ok (.aload_n 0, 1) := by decide +kernel
theorem dX3_hasField_19 : decode cX3_hasField 19 = .ok (.getfield 45, 3) := by decide +kernel
theorem dX3_hasField_22 : decode cX3_hasField 22 = .ok (.aload_n 0, 1) := by decide +kernel
theorem dX3_hasField_23 : decode cX3_hasField 23 = .ok (.getfield 22, 3) := by decide +kernel
theorem dX3_hasField_26 : decode cX3_hasField 26 = .ok (.iload_n 1, 1) := by decide +kernel
theorem dX3_hasField_27 : decode cX3_hasField 27 = .ok (.baload, 1) := by decide +kernel
theorem dX3_hasField_28 : decode cX3_hasField 28 = .ok (.ifCond .eq 12, 3) := by decide +kernel
theorem dX3_hasField_31 : decode cX3_hasField 31 = .ok (.aload_n 0, 1) := by decide +kernel
theorem dX3_hasField_32 : decode cX3_hasField 32 = .ok (.getfield 26, 3) := by decide +kernel
theorem dX3_hasField_35 : decode cX3_hasField 35 = .ok (.iload_n 1, 1) := by decide +kernel
theorem dX3_hasField_36 : decode cX3_hasField 36 = .ok (.iaload, 1) := by decide +kernel
theorem dX3_hasField_37 : decode cX3_hasField 37 = .ok (.goto 4, 3) := by decide +kernel
theorem dX3_hasField_40 : decode cX3_hasField 40 = .ok (.iconst 0, 1) := by decide +kernel
theorem dX3_hasField_41 : decode cX3_hasField 41 = .ok (.invokestatic 48, 3) := by decide +kernel
theorem dX3_hasField_44 : decode cX3_hasField 44 = .ok (.iaload, 1) := by decide +kernel
theorem dX3_hasField_45 : decode cX3_hasField 45 = .ok (.if_icmp .ge 7, 3) := by decide +kernel
theorem dX3_hasField_48 : decode cX3_hasField 48 = .ok (.iconst 1, 1) := by decide +kernel
theorem dX3_hasField_49 : decode cX3_hasField 49 = .ok (.goto 4, 3) := by decide +kernel
theorem dX3_hasField_52 : decode cX3_hasField 52 = .ok (.iconst 0, 1) := by decide +kernel
theorem dX3_hasField_53 : decode cX3_hasField 53 = .ok (.ireturn, 1) := by decide +kernel
set_option maxRecDepth 20000 in
theorem ggX3_change_X3_at : GoodIn wsX3_change wsX3_at := goodIn_r _ [13] (by decide +kernel) (by decide +kernel)
set_option maxRecDepth 20000 in
theorem gX3_change_X3_at : GoodIn wsX3_change (va_wsS RX3 48 yX3_at wsX3_at) := goodIn_app (goodIn_of _ (by decide +kernel)) ggX3_change_X3_at
set_option maxRecDepth 20000 in
theorem ggX3_change_X3_open : GoodIn wsX3_change wsX3_open := goodIn_r _ [17, 18, 19, 67, 68, 69, 70, 71, 72, 73, 74, 75, 76, 77, 78, 79, 80, 81, 82, 83, 84, 85, 86, 87, 88] (by decide +kernel) (by decide +kernel)
set_option maxRecDepth 20000 in
theorem gX3_change_X3_open : GoodIn wsX3_change (wsV RX3 116 RX3 yX3_open wsX3_open) := goodIn_app (goodIn_of _ (by decide +kernel)) ggX3_change_X3_open
set_option maxRecDepth 20000 in
theorem ggX3_change_X3_work : GoodIn wsX3_change wsX3_work := goodIn_r _ [23, 5, 24, 25, 26, 12, 27, 28, 7, 29, 30, 2, 18, 31, 32, 33, 34, 6, 8, 1, 35, 3, 4, 10, 11, 13, 36, 37, 38, 39, 40, 41, 42, 43, 44, 45, 46, 47, 48, 49, 50, 51, 52, 53, 54, 55, 56, 57, 58, 59, 60, 61, 67, 68, 69, 70, 71, 72, 73, 74, 75, 76, 77, 78, 79, 80, 81, 82, 83, 84, 85, 86, 87, 88] (by decide +kernel) (by decide +kernel)
set_option maxRecDepth 20000 in
theorem gX3_change_X3_work : GoodIn wsX3_change (wsV RX3 109 RX3 yX3_work wsX3_work) := goodIn_app (goodIn_of _ (by decide +kernel)) ggX3_change_X3_work
set_option maxRecDepth 20000 in
theorem ggX3_change_X3_close : GoodIn wsX3_change wsX3_close := goodIn_r _ [65, 18, 19, 66, 67, 68, 69, 70, 71, 72, 73, 74, 75, 76, 77, 78, 79, 80, 81, 82, 83, 84, 85, 86, 87, 88] (by decide +kernel) (by decide +kernel)
set_option maxRecDepth 20000 in
theorem gX3_change_X3_close : GoodIn wsX3_change (wsV RX3 127 RX3 yX3_close wsX3_close) := goodIn_app (goodIn_of _ (by decide +kernel)) ggX3_change_X3_close
theorem dX3_change_0 : decode cX3_change 0 = .ok (.aload_n 0, 1) := by decide +kernel
theorem dX3_change_1 : decode cX3_change 1 = .ok (.getfield 45, 3) := by decide +kernel
theorem dX3_change_4 : decode cX3_change 4 = .ok (.aload_n 0, 1) := by decide +kernel
theorem dX3_change_5 : decode cX3_change 5 = .ok (.getfield 26, 3) := by decide +kernel
theorem dX3_change_8 : decode cX3_change 8 = .ok (.iload_n 1, 1) := by decide +kernel
theorem dX3_change_9 : decode cX3_change 9 = .ok (.iaload, 1) := by decide +kernel
theorem dX3_change_10 : decode cX3_change 10 = .ok (.invokestatic 48, 3) := by decide +kernel
theorem dX3_change_13 : decode cX3_change 13 = .ok (.iconst 1, 1) := by decide +kernel
theorem dX3_change_14 : decode cX3_change 14 = .ok (.iadd, 1) := by decide +kernel
theorem dX3_change_15 : decode cX3_change 15 = .ok (.iload_n 2, 1) := by decide +kernel
theorem dX3_change_16 : decode cX3_change 16 = .ok (.iadd, 1) := by decide +kernel
theorem dX3_change_17 : decode cX3_change 17 = .ok (.istore 5, 2) := by decide +kernel
theorem dX3_change_19 : decode cX3_change 19 = .ok (.aload_n 0, 1) := by decide +kernel
theorem dX3_change_20 : decode cX3_change 20 = .ok (.getfield 7, 3) := by decide +kernel
theorem dX3_change_23 : decode cX3_change 23 = .ok (.iload 5, 2) := by decide +kernel
theorem dX3_change_25 : decode cX3_change 25 = .ok (.iload_n 3, 1) := by decide +kernel
theorem dX3_change_26 : decode cX3_change 26 = .ok (.iastore, 1) := by decide +kernel
theorem dX3_change_27 : decode cX3_change 27 = .ok (.aload_n 0, 1) := by decide +kernel
theorem dX3_change_28 : decode cX3_change 28 = .ok (.getfield 13, 3) := by decide +kernel
theorem dX3_change_31 : decode cX3_change 31 = .ok (.iload 5, 2) := by decide +kernel
theorem dX3_change_33 : decode cX3_change 33 = .ok (.iload 4, 2) := by decide +kernel
theorem dX3_change_35 : decode cX3_change 35 = .ok (.iastore, 1) := by decide +kernel
theorem dX3_change_36 : decode cX3_change 36 = .ok (.aload_n 0, 1) := by decide +kernel
theorem dX3_change_37 : decode cX3_change 37 = .ok (.getfield 69, 3) := by decide +kernel
theorem dX3_change_40 : decode cX3_change 40 = .ok (.ifCond .ne 4, 3) := by decide +kernel
theorem dX3_change_43 : decode cX3_change 43 = .ok (.return_, 1) := by decide +kernel
theorem dX3_change_44 : decode cX3_change 44 = .ok (.aload_n 0, 1) := by decide +kernel
theorem dX3_change_45 : decode cX3_change 45 = .ok (.invokevirtual 116, 3) := by decide +kernel
theorem dX3_change_48 : decode cX3_change 48 = .ok (.aload_n 0, 1) := by decide +kernel
theorem dX3_change_49 : decode cX3_change 49 = .ok (.getfield 29, 3) := by decide +kernel
theorem dX3_change_52 : decode cX3_change 52 = .ok (.aload_n 0, 1) := by decide +kernel
theorem dX3_change_53 : decode cX3_change 53 = .ok (.getfield 73, 3) := by decide +kernel
theorem dX3_change_56 : decode cX3_change 56 = .ok (.aload_n 0, 1) := by decide +kernel
theorem dX3_change_57 : decode cX3_change 57 = .ok (.getfield 26, 3) := by decide +kernel
theorem dX3_change_60 : decode cX3_change 60 = .ok (.iload_n 1, 1) := by decide +kernel
theorem dX3_change_61 : decode cX3_change 61 = .ok (.iaload, 1) := by decide +kernel
theorem dX3_change_62 : decode cX3_change 62 = .ok (.iastore, 1) := by decide +kernel
theorem dX3_change_63 : decode cX3_change 63 = .ok (.aload_n 0, 1) := by decide +kernel
theorem dX3_change_64 : decode cX3_change 64 = .ok (.getfield 32, 3) := by decide +kernel
theorem dX3_change_67 : decode cX3_change 67 = .ok (.aload_n 0, 1) := by decide +kernel
theorem dX3_change_68 : decode cX3_change 68 = .ok (.getfield 73, 3) := by decide +kernel
theorem dX3_change_71 : decode cX3_change 71 = .ok (.iload_n 2, 1) := by decide +kernel
theorem dX3_change_72 : decode cX3_change 72 = .ok (.iastore, 1) := by decide +kernel
theorem dX3_change_73 : decode cX3_change 73 = .ok (.aload_n 0, 1) := by decide +kernel
theorem dX3_change_74 : decode cX3_change 74 = .ok (.dup, 1) := by decide +kernel
theorem dX3_change_75 : decode cX3_change 75 = .ok (.getfield 73, 3) := by decide +kernel
theorem dX3_change_78 : decode cX3_change 78 = .ok (.iconst 1, 1) := by decide +kernel
theorem dX3_change_79 : decode cX3_change 79 = .ok (.iadd, 1) := by decide +kernel
theorem dX3_change_80 : decode cX3_change 80 = .ok (.putfield 73, 3) := by decide +kernel
theorem dX3_change_83 : decode cX3_change 83 = .ok (.aload_n 0, 1) := by decide +kernel
theorem dX3_change_84 : decode cX3_change 84 = .ok (.aload_n 0, 1) := by decide +kernel
theorem dX3_change_85 : decode cX3_change 85 = .ok (.getfield 39, 3) := by decide +kernel
theorem dX3_change_88 : decode cX3_change 88 = .ok (.invokevirtual 109, 3) := by decide +kernel
theorem dX3_change_91 : decode cX3_change 91 = .ok (.istore 6, 2) := by decide +kernel
theorem dX3_change_93 : decode cX3_change 93 = .ok (.aload_n 0, 1) := by decide +kernel
theorem dX3_change_94 : decode cX3_change 94 = .ok (.invokevirtual 127, 3) := by decide +kernel
theorem dX3_change_97 : decode cX3_change 97 = .ok (.return_, 1) := by decide +kernel
set_option maxRecDepth 20000 in
theorem ggX3_put_X3_isRoot : GoodIn wsX3_put wsX3_isRoot := goodIn_r _ [8] (by decide +kernel) (by decide +kernel)
set_option maxRecDepth 20000 in
theorem gX3_put_X3_isRoot : GoodIn wsX3_put (va_wsS RX3 112 yX3_isRoot wsX3_isRoot) := goodIn_app (goodIn_of _ (by decide +kernel)) ggX3_put_X3_isRoot
set_option maxRecDepth 20000 in
theorem ggX3_put_X3_hasField : GoodIn wsX3_put wsX3_hasField := goodIn_r _ [12, 2, 13, 3, 4, 14, 15, 7, 16, 79, 80, 81, 82, 83, 84, 85, 86, 87, 88, 89, 90, 91, 92, 93, 94, 95, 96, 97, 98, 99, 100] (by decide +kernel) (by decide +kernel)
set_option maxRecDepth 20000 in
theorem gX3_put_X3_hasField : GoodIn wsX3_put (wsV RX3 130 RX3 yX3_hasField wsX3_hasField) := goodIn_app (goodIn_of _ (by decide +kernel)) ggX3_put_X3_hasField
set_option maxRecDepth 20000 in
theorem ggX3_put_X3_change : GoodIn wsX3_put wsX3_change := goodIn_r _ [20, 3, 4, 21, 13, 22, 23, 24, 25, 26, 14, 15, 7, 16, 27, 28, 29, 30, 31, 32, 33, 34, 35, 36, 37, 38, 39, 40, 41, 42, 43, 44, 45, 46, 47, 48, 49, 50, 51, 52, 53, 54, 55, 56, 57, 58, 59, 60, 61, 62, 63, 64, 65, 66, 67, 68, 2, 69, 70, 71, 72, 73, 74, 75, 76, 77, 78, 79, 80, 81, 82, 83, 84, 85, 86, 87, 88, 89, 90, 91, 92, 93, 94, 95, 96, 97, 98, 99, 100] (by decide +kernel) (by decide +kernel)
set_option maxRecDepth 20000 in
theorem gX3_put_X3_change : GoodIn wsX3_put (wsV RX3 134 RX3 yX3_change wsX3_change) := goodIn_app (goodIn_of _ (by decide +kernel)) ggX3_put_X3_change
theorem dX3_put_0 : decode cX3_put 0 = .ok (.aload_n 0, 1) := by decide +kernel
theorem dX3_put_1 : decode cX3_put 1 = .ok (.iload_n 1, 1) := by decide +kernel
theorem dX3_put_2 : decode cX3_put 2 = .ok (.invokestatic 112, 3) := by decide +kernel
theorem dX3_put_5 : decode cX3_put 5 = .ok (.ifCond .eq 10, 3) := by decide +kernel
theorem dX3_put_8 : decode cX3_put 8 = .ok (.iload_n 3, 1) := by decide +kernel
theorem dX3_put_9 : decode cX3_put 9 = .ok (.invokestatic 112, 3) := by decide +kernel
theorem dX3_put_12 : decode cX3_put 12 = .ok (.ifCond .ne 7, 3) := by decide +kernel
theorem dX3_put_15 : decode cX3_put 15 = .ok (.iconst 1, 1) := by decide +kernel
theorem dX3_put_16 : decode cX3_put 16 = .ok (.goto 17, 3) := by decide +kernel
theorem dX3_put_19 : decode cX3_put 19 = .ok (.aload_n 0, 1) := by decide +kernel
theorem dX3_put_20 : decode cX3_put 20 = .ok (.iload_n 1, 1) := by decide +kernel
theorem dX3_put_21 : decode cX3_put 21 = .ok (.iload_n 2, 1) := by decide +kernel
theorem dX3_put_22 : decode cX3_put 22 = .ok (.invokevirtual 130, 3) := by decide +kernel
theorem dX3_put_25 : decode cX3_put 25 = .ok (.ifCond .ne 7, 3) := by decide +kernel
theorem dX3_put_28 : decode cX3_put 28 = .ok (.iconst 2, 1) := by decide +kernel
theorem dX3_put_29 : decode cX3_put 29 = .ok (.goto 4, 3) := by decide +kernel
theorem dX3_put_32 : decode cX3_put 32 = .ok (.iconst 0, 1) := by decide +kernel
theorem dX3_put_33 : decode cX3_put 33 = .ok (.putfield 42, 3) := by decide +kernel
theorem dX3_put_36 : decode cX3_put 36 = .ok (.aload_n 0, 1) := by decide +kernel
theorem dX3_put_37 : decode cX3_put 37 = .ok (.getfield 42, 3) := by decide +kernel
theorem dX3_put_40 : decode cX3_put 40 = .ok (.ifCond .ne 34, 3) := by decide +kernel
theorem dX3_put_43 : decode cX3_put 43 = .ok (.aload_n 0, 1) := by decide +kernel
theorem dX3_put_44 : decode cX3_put 44 = .ok (.iload_n 1, 1) := by decide +kernel
theorem dX3_put_45 : decode cX3_put 45 = .ok (.iload_n 2, 1) := by decide +kernel
theorem dX3_put_46 : decode cX3_put 46 = .ok (.aload_n 0, 1) := by decide +kernel
theorem dX3_put_47 : decode cX3_put 47 = .ok (.getfield 22, 3) := by decide +kernel
theorem dX3_put_50 : decode cX3_put 50 = .ok (.iload_n 3, 1) := by decide +kernel
theorem dX3_put_51 : decode cX3_put 51 = .ok (.baload, 1) := by decide +kernel
theorem dX3_put_52 : decode cX3_put 52 = .ok (.ifCond .eq 12, 3) := by decide +kernel
theorem dX3_put_55 : decode cX3_put 55 = .ok (.iconst 1, 1) := by decide +kernel
theorem dX3_put_56 : decode cX3_put 56 = .ok (.aload_n 0, 1) := by decide +kernel
theorem dX3_put_57 : decode cX3_put 57 = .ok (.getfield 45, 3) := by decide +kernel
theorem dX3_put_60 : decode cX3_put 60 = .ok (.iadd, 1) := by decide +kernel
theorem dX3_put_61 : decode cX3_put 61 = .ok (.goto 4, 3) := by decide +kernel
theorem dX3_put_64 : decode cX3_put 64 = .ok (.iconst 0, 1) := by decide +kernel
theorem dX3_put_65 : decode cX3_put 65 = .ok (.aload_n 0, 1) := by decide +kernel
theorem dX3_put_66 : decode cX3_put 66 = .ok (.getfield 26, 3) := by decide +kernel
theorem dX3_put_69 : decode cX3_put 69 = .ok (.iload_n 3, 1) := by decide +kernel
theorem dX3_put_70 : decode cX3_put 70 = .ok (.iaload, 1) := by decide +kernel
theorem dX3_put_71 : decode cX3_put 71 = .ok (.invokevirtual 134, 3) := by decide +kernel
theorem dX3_put_74 : decode cX3_put 74 = .ok (.return_, 1) := by decide +kernel
set_option maxRecDepth 20000 in
theorem ggX3_putNumber_X3_isRoot : GoodIn wsX3_putNumber wsX3_isRoot := goodIn_r _ [5] (by decide +kernel) (by decide +kernel)
set_option maxRecDepth 20000 in
theorem gX3_putNumber_X3_isRoot : GoodIn wsX3_putNumber (va_wsS RX3 112 yX3_isRoot wsX3_isRoot) := goodIn_app (goodIn_of _ (by decide +kernel)) ggX3_putNumber_X3_isRoot
set_option maxRecDepth 20000 in
theorem ggX3_putNumber_X3_hasField : GoodIn wsX3_putNumber wsX3_hasField := goodIn_r _ [9, 10, 11, 12, 13, 14, 15, 4, 16, 79, 80, 81, 82, 83, 84, 85, 86, 87, 88, 89, 90, 91, 92, 93, 94, 95, 96, 97, 98, 99, 100] (by decide +kernel) (by decide +kernel)
set_option maxRecDepth 20000 in
theorem gX3_putNumber_X3_hasField : GoodIn wsX3_putNumber (wsV RX3 130 RX3 yX3_hasField wsX3_hasField) := goodIn_app (goodIn_of _ (by decide +kernel)) ggX3_putNumber_X3_hasField
set_option maxRecDepth 20000 in
theorem ggX3_putNumber_X3_change : GoodIn wsX3_putNumber wsX3_change := goodIn_r _ [20, 12, 13, 21, 11, 22, 23, 24, 25, 26, 14, 15, 4, 16, 27, 28, 29, 30, 31, 32, 33, 34, 35, 36, 37, 38, 39, 40, 41, 42, 43, 44, 45, 46, 47, 48, 49, 50, 51, 52, 53, 54, 55, 56, 57, 58, 59, 60, 61, 62, 63, 64, 65, 66, 67, 68, 10, 69, 70, 71, 72, 73, 74, 75, 76, 77, 78, 79, 80, 81, 82, 83, 84, 85, 86, 87, 88, 89, 90, 91, 92, 93, 94, 95, 96, 97, 98, 99, 100] (by decide +kernel) (by decide +kernel)
set_option maxRecDepth 20000 in
theorem gX3_putNumber_X3_change : GoodIn wsX3_putNumber (wsV RX3 134 RX3 yX3_change wsX3_change) := goodIn_app (goodIn_of _ (by decide +kernel)) ggX3_putNumber_X3_change
theorem dX3_putNumber_0 : decode cX3_putNumber 0 = .ok (.aload_n 0, 1) := by decide +kernel
theorem dX3_putNumber_1 : decode cX3_putNumber 1 = .ok (.iload_n 1, 1) := by decide +kernel
theorem dX3_putNumber_2 : decode cX3_putNumber 2 = .ok (.invokestatic 112, 3) := by decide +kernel
theorem dX3_putNumber_5 : decode cX3_putNumber 5 = .ok (.ifCond .ne 7, 3) := by decide +kernel
theorem dX3_putNumber_8 : decode cX3_putNumber 8 = .ok (.iconst 1, 1) := by decide +kernel
theorem dX3_putNumber_9 : decode cX3_putNumber 9 = .ok (.goto 17, 3) := by decide +kernel
theorem dX3_putNumber_12 : decode cX3_putNumber 12 = .ok (.aload_n 0, 1) := by decide +kernel
theorem dX3_putNumber_13 : decode cX3_putNumber 13 = .ok (.iload_n 1, 1) := by decide +kernel
theorem dX3_putNumber_14 : decode cX3_putNumber 14 = .ok (.iload_n 2, 1) := by decide +kernel
theorem dX3_putNumber_15 : decode cX3_putNumber 15 = .ok (.invokevirtual 130, 3) := by decide +kernel
theorem dX3_putNumber_18 : decode cX3_putNumber 18 = .ok (.ifCond .ne 7, 3) := by decide +kernel
theorem dX3_putNumber_21 : decode cX3_putNumber 21 = .ok (.iconst 2, 1) := by decide +kernel
theorem dX3_putNumber_22 : decode cX3_putNumber 22 = .ok (.goto 4, 3) := by decide +kernel
theorem dX3_putNumber_25 : decode cX3_putNumber 25 = .ok (.iconst 0, 1) := by decide +kernel
theorem dX3_putNumber_26 : decode cX3_putNumber 26 = .ok (.putfield 42, 3) := by decide +kernel
theorem dX3_putNumber_29 : decode cX3_putNumber 29 = .ok (.aload_n 0, 1) := by decide +kernel
theorem dX3_putNumber_30 : decode cX3_putNumber 30 = .ok (.getfield 42, 3) := by decide +kernel
theorem dX3_putNumber_33 : decode cX3_putNumber 33 = .ok (.ifCond .ne 11, 3) := by decide +kernel
theorem dX3_putNumber_36 : decode cX3_putNumber 36 = .ok (.aload_n 0, 1) := by decide +kernel
theorem dX3_putNumber_37 : decode cX3_putNumber 37 = .ok (.iload_n 1, 1) := by decide +kernel
theorem dX3_putNumber_38 : decode cX3_putNumber 38 = .ok (.iload_n 2, 1) := by decide +kernel
theorem dX3_putNumber_39 : decode cX3_putNumber 39 = .ok (.iconst 0, 1) := by decide +kernel
theorem dX3_putNumber_40 : decode cX3_putNumber 40 = .ok (.iload_n 3, 1) := by decide +kernel
theorem dX3_putNumber_41 : decode cX3_putNumber 41 = .ok (.invokevirtual 134, 3) := by decide +kernel
theorem dX3_putNumber_44 : decode cX3_putNumber 44 = .ok (.return_, 1) := by decide +kernel
set_option maxRecDepth 20000 in
theorem ggX3_get_X3_isRoot : GoodIn wsX3_get wsX3_isRoot := goodIn_r _ [10] (by decide +kernel) (by decide +kernel)
set_option maxRecDepth 20000 in
theorem gX3_get_X3_isRoot : GoodIn wsX3_get (va_wsS RX3 112 yX3_isRoot wsX3_isRoot) := goodIn_app (goodIn_of _ (by decide +kernel)) ggX3_get_X3_isRoot
set_option maxRecDepth 20000 in
theorem ggX3_get_X3_hasField : GoodIn wsX3_get wsX3_hasField := goodIn_r _ [14, 4, 6, 2, 3, 15, 16, 9, 17, 18, 19, 20, 21, 22, 23, 24, 25, 26, 27, 28, 29, 30, 31, 32, 33, 34, 35, 36, 37, 38, 39] (by decide +kernel) (by decide +kernel)
set_option maxRecDepth 20000 in
theorem gX3_get_X3_hasField : GoodIn wsX3_get (wsV RX3 130 RX3 yX3_hasField wsX3_hasField) := goodIn_app (goodIn_of _ (by decide +kernel)) ggX3_get_X3_hasField
set_option maxRecDepth 20000 in
theorem ggX3_get_X3_at : GoodIn wsX3_get wsX3_at := goodIn_r _ [17] (by decide +kernel) (by decide +kernel)
set_option maxRecDepth 20000 in
theorem gX3_get_X3_at : GoodIn wsX3_get (va_wsS RX3 48 yX3_at wsX3_at) := goodIn_app (goodIn_of _ (by decide +kernel)) ggX3_get_X3_at
theorem dX3_get_0 : decode cX3_get 0 = .ok (.aload_n 0, 1) := by decide +kernel
theorem dX3_get_1 : decode cX3_get 1 = .ok (.iload_n 1, 1) := by decide +kernel
theorem dX3_get_2 : decode cX3_get 2 = .ok (.invokestatic 112, 3) := by decide +kernel
theorem dX3_get_5 : decode cX3_get 5 = .ok (.ifCond .eq 10, 3) := by decide +kernel
theorem dX3_get_8 : decode cX3_get 8 = .ok (.iload_n 2, 1) := by decide +kernel
theorem dX3_get_9 : decode cX3_get 9 = .ok (.invokestatic 112, 3) := by decide +kernel
theorem dX3_get_12 : decode cX3_get 12 = .ok (.ifCond .ne 7, 3) := by decide +kernel
theorem dX3_get_15 : decode cX3_get 15 = .ok (.iconst 1, 1) := by decide +kernel
theorem dX3_get_16 : decode cX3_get 16 = .ok (.goto 17, 3) := by decide +kernel
theorem dX3_get_19 : decode cX3_get 19 = .ok (.aload_n 0, 1) := by decide +kernel
theorem dX3_get_20 : decode cX3_get 20 = .ok (.iload_n 2, 1) := by decide +kernel
theorem dX3_get_21 : decode cX3_get 21 = .ok (.iload_n 3, 1) := by decide +kernel
theorem dX3_get_22 : decode cX3_get 22 = .ok (.invokevirtual 130, 3) := by decide +kernel
theorem dX3_get_25 : decode cX3_get 25 = .ok (.ifCond .ne 7, 3) := by decide +kernel
theorem dX3_get_28 : decode cX3_get 28 = .ok (.iconst 2, 1) := by decide +kernel
theorem dX3_get_29 : decode cX3_get 29 = .ok (.goto 4, 3) := by decide +kernel
theorem dX3_get_32 : decode cX3_get 32 = .ok (.iconst 0, 1) := by decide +kernel
theorem dX3_get_33 : decode cX3_get 33 = .ok (.putfield 42, 3) := by decide +kernel
theorem dX3_get_36 : decode cX3_get 36 = .ok (.aload_n 0, 1) := by decide +kernel
theorem dX3_get_37 : decode cX3_get 37 = .ok (.getfield 42, 3) := by decide +kernel
theorem dX3_get_40 : decode cX3_get 40 = .ok (.ifCond .le 4, 3) := by decide +kernel
theorem dX3_get_43 : decode cX3_get 43 = .ok (.return_, 1) := by decide +kernel
theorem dX3_get_44 : decode cX3_get 44 = .ok (.aload_n 0, 1) := by decide +kernel
theorem dX3_get_45 : decode cX3_get 45 = .ok (.getfield 45, 3) := by decide +kernel
theorem dX3_get_48 : decode cX3_get 48 = .ok (.aload_n 0, 1) := by decide +kernel
theorem dX3_get_49 : decode cX3_get 49 = .ok (.getfield 26, 3) := by decide +kernel
theorem dX3_get_52 : decode cX3_get 52 = .ok (.iload_n 2, 1) := by decide +kernel
theorem dX3_get_53 : decode cX3_get 53 = .ok (.iaload, 1) := by decide +kernel
theorem dX3_get_54 : decode cX3_get 54 = .ok (.invokestatic 48, 3) := by decide +kernel
theorem dX3_get_57 : decode cX3_get 57 = .ok (.iconst 1, 1) := by decide +kernel
theorem dX3_get_58 : decode cX3_get 58 = .ok (.iadd, 1) := by decide +kernel
theorem dX3_get_59 : decode cX3_get 59 = .ok (.iload_n 3, 1) := by decide +kernel
theorem dX3_get_60 : decode cX3_get 60 = .ok (.iadd, 1) := by decide +kernel
theorem dX3_get_61 : decode cX3_get 61 = .ok (.istore 4, 2) := by decide +kernel
theorem dX3_get_63 : decode cX3_get 63 = .ok (.aload_n 0, 1) := by decide +kernel
theorem dX3_get_64 : decode cX3_get 64 = .ok (.getfield 22, 3) := by decide +kernel
theorem dX3_get_67 : decode cX3_get 67 = .ok (.iload_n 1, 1) := by decide +kernel
theorem dX3_get_68 : decode cX3_get 68 = .ok (.aload_n 0, 1) := by decide +kernel
theorem dX3_get_69 : decode cX3_get 69 = .ok (.getfield 7, 3) := by decide +kernel
theorem dX3_get_72 : decode cX3_get 72 = .ok (.iload 4, 2) := by decide +kernel
theorem dX3_get_74 : decode cX3_get 74 = .ok (.iaload, 1) := by decide +kernel
theorem dX3_get_75 : decode cX3_get 75 = .ok (.ifCond .eq 7, 3) := by decide +kernel
theorem dX3_get_78 : decode cX3_get 78 = .ok (.iconst 1, 1) := by decide +kernel
theorem dX3_get_79 : decode cX3_get 79 = .ok (.goto 4, 3) := by decide +kernel
theorem dX3_get_82 : decode cX3_get 82 = .ok (.iconst 0, 1) := by decide +kernel
theorem dX3_get_83 : decode cX3_get 83 = .ok (.bastore, 1) := by decide +kernel
theorem dX3_get_84 : decode cX3_get 84 = .ok (.aload_n 0, 1) := by decide +kernel
theorem dX3_get_85 : decode cX3_get 85 = .ok (.getfield 26, 3) := by decide +kernel
theorem dX3_get_88 : decode cX3_get 88 = .ok (.iload_n 1, 1) := by decide +kernel
theorem dX3_get_89 : decode cX3_get 89 = .ok (.aload_n 0, 1) := by decide +kernel
theorem dX3_get_90 : decode cX3_get 90 = .ok (.getfield 13, 3) := by decide +kernel
theorem dX3_get_93 : decode cX3_get 93 = .ok (.iload 4, 2) := by decide +kernel
theorem dX3_get_95 : decode cX3_get 95 = .ok (.iaload, 1) := by decide +kernel
theorem dX3_get_96 : decode cX3_get 96 = .ok (.iastore, 1) := by decide +kernel
theorem dX3_get_97 : decode cX3_get 97 = .ok (.return_, 1) := by decide +kernel
set_option maxRecDepth 20000 in
theorem ggX3_move_X3_isRoot : GoodIn wsX3_move wsX3_isRoot := goodIn_r _ [7] (by decide +kernel) (by decide +kernel)
set_option maxRecDepth 20000 in
theorem gX3_move_X3_isRoot : GoodIn wsX3_move (va_wsS RX3 112 yX3_isRoot wsX3_isRoot) := goodIn_app (goodIn_of _ (by decide +kernel)) ggX3_move_X3_isRoot
theorem dX3_move_0 : decode cX3_move 0 = .ok (.aload_n 0, 1) := by decide +kernel
theorem dX3_move_1 : decode cX3_move 1 = .ok (.iconst 0, 1) := by decide +kernel
theorem dX3_move_2 : decode cX3_move 2 = .ok (.putfield 42, 3) := by decide +kernel
theorem dX3_move_5 : decode cX3_move 5 = .ok (.iload_n 1, 1) := by decide +kernel
theorem dX3_move_6 : decode cX3_move 6 = .ok (.invokestatic 112, 3) := by decide +kernel
theorem dX3_move_9 : decode cX3_move 9 = .ok (.ifCond .eq 10, 3) := by decide +kernel
theorem dX3_move_12 : decode cX3_move 12 = .ok (.iload_n 2, 1) := by decide +kernel
theorem dX3_move_13 : decode cX3_move 13 = .ok (.invokestatic 112, 3) := by decide +kernel
theorem dX3_move_16 : decode cX3_move 16 = .ok (.ifCond .ne 5, 3) := by decide +kernel
theorem dX3_move_19 : decode cX3_move 19 = .ok (.iconst 0, 1) := by decide +kernel
theorem dX3_move_20 : decode cX3_move 20 = .ok (.ireturn, 1) := by decide +kernel
theorem dX3_move_21 : decode cX3_move 21 = .ok (.aload_n 0, 1) := by decide +kernel
theorem dX3_move_22 : decode cX3_move 22 = .ok (.getfield 22, 3) := by decide +kernel
theorem dX3_move_25 : decode cX3_move 25 = .ok (.iload_n 1, 1) := by decide +kernel
theorem dX3_move_26 : decode cX3_move 26 = .ok (.aload_n 0, 1) := by decide +kernel
theorem dX3_move_27 : decode cX3_move 27 = .ok (.getfield 22, 3) := by decide +kernel
theorem dX3_move_30 : decode cX3_move 30 = .ok (.iload_n 2, 1) := by decide +kernel
theorem dX3_move_31 : decode cX3_move 31 = .ok (.baload, 1) := by decide +kernel
theorem dX3_move_32 : decode cX3_move 32 = .ok (.bastore, 1) := by decide +kernel
theorem dX3_move_33 : decode cX3_move 33 = .ok (.aload_n 0, 1) := by decide +kernel
theorem dX3_move_34 : decode cX3_move 34 = .ok (.getfield 26, 3) := by decide +kernel
theorem dX3_move_37 : decode cX3_move 37 = .ok (.iload_n 1, 1) := by decide +kernel
theorem dX3_move_38 : decode cX3_move 38 = .ok (.aload_n 0, 1) := by decide +kernel
theorem dX3_move_39 : decode cX3_move 39 = .ok (.getfield 26, 3) := by decide +kernel
theorem dX3_move_42 : decode cX3_move 42 = .ok (.iload_n 2, 1) := by decide +kernel
theorem dX3_move_43 : decode cX3_move 43 = .ok (.iaload, 1) := by decide +kernel
theorem dX3_move_44 : decode cX3_move 44 = .ok (.iastore, 1) := by decide +kernel
theorem dX3_move_45 : decode cX3_move 45 = .ok (.iconst 1, 1) := by decide +kernel
theorem dX3_move_46 : decode cX3_move 46 = .ok (.ireturn, 1) := by decide +kernel
set_option maxRecDepth 20000 in
theorem ggX3_number_X3_isRoot : GoodIn wsX3_number wsX3_isRoot := goodIn_r _ [7] (by decide +kernel) (by decide +kernel)
set_option maxRecDepth 20000 in
theorem gX3_number_X3_isRoot : GoodIn wsX3_number (va_wsS RX3 112 yX3_isRoot wsX3_isRoot) := goodIn_app (goodIn_of _ (by decide +kernel)) ggX3_number_X3_isRoot
theorem dX3_number_0 : decode cX3_number 0 = .ok (.aload_n 0, 1) := by decide +kernel
theorem dX3_number_1 : decode cX3_number 1 = .ok (.iconst 0, 1) := by decide +kernel
theorem dX3_number_2 : decode cX3_number 2 = .ok (.putfield 42, 3) := by decide +kernel
theorem dX3_number_5 : decode cX3_number 5 = .ok (.iload_n 1, 1) := by decide +kernel
theorem dX3_number_6 : decode cX3_number 6 = .ok (.invokestatic 112, 3) := by decide +kernel
theorem dX3_number_9 : decode cX3_number 9 = .ok (.ifCond .ne 5, 3) := by decide +kernel
theorem dX3_number_12 : decode cX3_number 12 = .ok (.iconst 0, 1) := by decide +kernel
theorem dX3_number_13 : decode cX3_number 13 = .ok (.ireturn, 1) := by decide +kernel
theorem dX3_number_14 : decode cX3_number 14 = .ok (.aload_n 0, 1) := by decide +kernel
theorem dX3_number_15 : decode cX3_number 15 = .ok (.getfield 22, 3) := by decide +kernel
theorem dX3_number_18 : decode cX3_number 18 = .ok (.iload_n 1, 1) := by decide +kernel
theorem dX3_number_19 : decode cX3_number 19 = .ok (.iconst 0, 1) := by decide +kernel
theorem dX3_number_20 : decode cX3_number 20 = .ok (.bastore, 1) := by decide +kernel
theorem dX3_number_21 : decode cX3_number 21 = .ok (.aload_n 0, 1) := by decide +kernel
theorem dX3_number_22 : decode cX3_number 22 = .ok (.getfield 26, 3) := by decide +kernel
theorem dX3_number_25 : decode cX3_number 25 = .ok (.iload_n 1, 1) := by decide +kernel
theorem dX3_number_26 : decode cX3_number 26 = .ok (.iload_n 2, 1) := by decide +kernel
theorem dX3_number_27 : decode cX3_number 27 = .ok (.iastore, 1) := by decide +kernel
theorem dX3_number_28 : decode cX3_number 28 = .ok (.iconst 1, 1) := by decide +kernel
theorem dX3_number_29 : decode cX3_number 29 = .ok (.ireturn, 1) := by decide +kernel
set_option maxRecDepth 20000 in
theorem ggX3_collect_X3_open : GoodIn wsX3_collect wsX3_open := goodIn_r _ [6, 7, 8, 71, 72, 73, 74, 75, 76, 77, 78, 79, 80, 81, 82, 83, 84, 85, 86, 87, 88, 89, 90, 91, 92] (by decide +kernel) (by decide +kernel)
set_option maxRecDepth 20000 in
theorem gX3_collect_X3_open : GoodIn wsX3_collect (wsV RX3 116 RX3 yX3_open wsX3_open) := goodIn_app (goodIn_of _ (by decide +kernel)) ggX3_collect_X3_open
set_option maxRecDepth 20000 in
theorem ggX3_collect_X3_begin : GoodIn wsX3_collect wsX3_begin := goodIn_r _ [12, 13, 14, 15, 16, 17, 18, 19, 20, 5, 21, 22, 71, 72, 73, 74, 75, 76, 77, 78, 79, 80, 81, 82, 83, 84, 85, 86, 87, 88, 89, 90, 91, 92] (by decide +kernel) (by decide +kernel)
set_option maxRecDepth 20000 in
theorem gX3_collect_X3_begin : GoodIn wsX3_collect (wsV RX3 106 RX3 yX3_begin wsX3_begin) := goodIn_app (goodIn_of _ (by decide +kernel)) ggX3_collect_X3_begin
set_option maxRecDepth 20000 in
theorem ggX3_collect_X3_work : GoodIn wsX3_collect wsX3_work := goodIn_r _ [26, 13, 27, 28, 29, 5, 30, 16, 15, 14, 17, 31, 7, 32, 33, 34, 35, 36, 37, 22, 38, 39, 40, 41, 42, 43, 18, 19, 20, 21, 44, 45, 46, 47, 48, 49, 50, 51, 52, 53, 54, 55, 56, 57, 58, 59, 60, 61, 62, 63, 64, 65, 71, 72, 73, 74, 75, 76, 77, 78, 79, 80, 81, 82, 83, 84, 85, 86, 87, 88, 89, 90, 91, 92] (by decide +kernel) (by decide +kernel)
set_option maxRecDepth 20000 in
theorem gX3_collect_X3_work : GoodIn wsX3_collect (wsV RX3 109 RX3 yX3_work wsX3_work) := goodIn_app (goodIn_of _ (by decide +kernel)) ggX3_collect_X3_work
set_option maxRecDepth 20000 in
theorem ggX3_collect_X3_close : GoodIn wsX3_collect wsX3_close := goodIn_r _ [69, 7, 8, 70, 71, 72, 73, 74, 75, 76, 77, 78, 79, 80, 81, 82, 83, 84, 85, 86, 87, 88, 89, 90, 91, 92] (by decide +kernel) (by decide +kernel)
set_option maxRecDepth 20000 in
theorem gX3_collect_X3_close : GoodIn wsX3_collect (wsV RX3 127 RX3 yX3_close wsX3_close) := goodIn_app (goodIn_of _ (by decide +kernel)) ggX3_collect_X3_close
theorem dX3_collect_0 : decode cX3_collect 0 = .ok (.aload_n 0, 1) := by decide +kernel
theorem dX3_collect_1 : decode cX3_collect 1 = .ok (.iload_n 1, 1) := by decide +kernel
theorem dX3_collect_2 : decode cX3_collect 2 = .ok (.iconst (-1), 1) := by decide +kernel
theorem dX3_collect_3 : decode cX3_collect 3 = .ok (.if_icmp .ge 7, 3) := by decide +kernel
theorem dX3_collect_6 : decode cX3_collect 6 = .ok (.iconst 1, 1) := by decide +kernel
theorem dX3_collect_7 : decode cX3_collect 7 = .ok (.goto 4, 3) := by decide +kernel
theorem dX3_collect_10 : decode cX3_collect 10 = .ok (.iconst 0, 1) := by decide +kernel
theorem dX3_collect_11 : decode cX3_collect 11 = .ok (.putfield 42, 3) := by decide +kernel
theorem dX3_collect_14 : decode cX3_collect 14 = .ok (.aload_n 0, 1) := by decide +kernel
theorem dX3_collect_15 : decode cX3_collect 15 = .ok (.getfield 42, 3) := by decide +kernel
theorem dX3_collect_18 : decode cX3_collect 18 = .ok (.ifCond .le 5, 3) := by decide +kernel
theorem dX3_collect_21 : decode cX3_collect 21 = .ok (.iconst 0, 1) := by decide +kernel
theorem dX3_collect_22 : decode cX3_collect 22 = .ok (.ireturn, 1) := by decide +kernel
theorem dX3_collect_23 : decode cX3_collect 23 = .ok (.aload_n 0, 1) := by decide +kernel
theorem dX3_collect_24 : decode cX3_collect 24 = .ok (.invokevirtual 116, 3) := by decide +kernel
theorem dX3_collect_27 : decode cX3_collect 27 = .ok (.aload_n 0, 1) := by decide +kernel
theorem dX3_collect_28 : decode cX3_collect 28 = .ok (.invokevirtual 106, 3) := by decide +kernel
theorem dX3_collect_31 : decode cX3_collect 31 = .ok (.aload_n 0, 1) := by decide +kernel
theorem dX3_collect_32 : decode cX3_collect 32 = .ok (.iload_n 1, 1) := by decide +kernel
theorem dX3_collect_33 : decode cX3_collect 33 = .ok (.invokevirtual 109, 3) := by decide +kernel
theorem dX3_collect_36 : decode cX3_collect 36 = .ok (.istore_n 2, 1) := by decide +kernel
theorem dX3_collect_37 : decode cX3_collect 37 = .ok (.aload_n 0, 1) := by decide +kernel
theorem dX3_collect_38 : decode cX3_collect 38 = .ok (.invokevirtual 127, 3) := by decide +kernel
theorem dX3_collect_41 : decode cX3_collect 41 = .ok (.iload_n 2, 1) := by decide +kernel
theorem dX3_collect_42 : decode cX3_collect 42 = .ok (.ireturn, 1) := by decide +kernel
set_option maxRecDepth 20000 in
theorem ggX3_look__X3_isRoot : GoodIn wsX3_look_ wsX3_isRoot := goodIn_r _ [10] (by decide +kernel) (by decide +kernel)
set_option maxRecDepth 20000 in
theorem gX3_look__X3_isRoot : GoodIn wsX3_look_ (va_wsS RX3 112 yX3_isRoot wsX3_isRoot) := goodIn_app (goodIn_of _ (by decide +kernel)) ggX3_look__X3_isRoot
set_option maxRecDepth 20000 in
theorem ggX3_look__X3_at : GoodIn wsX3_look_ wsX3_at := goodIn_r _ [13] (by decide +kernel) (by decide +kernel)
set_option maxRecDepth 20000 in
theorem gX3_look__X3_at : GoodIn wsX3_look_ (va_wsS RX3 48 yX3_at wsX3_at) := goodIn_app (goodIn_of _ (by decide +kernel)) ggX3_look__X3_at
theorem dX3_look__0 : decode cX3_look_ 0 = .ok (.aload_n 0, 1) := by decide +kernel
theorem dX3_look__1 : decode cX3_look_ 1 = .ok (.iload_n 1, 1) := by decide +kernel
theorem dX3_look__2 : decode cX3_look_ 2 = .ok (.invokestatic 112, 3) := by decide +kernel
theorem dX3_look__5 : decode cX3_look_ 5 = .ok (.ifCond .eq 16, 3) := by decide +kernel
theorem dX3_look__8 : decode cX3_look_ 8 = .ok (.iload_n 2, 1) := by decide +kernel
theorem dX3_look__9 : decode cX3_look_ 9 = .ok (.ifCond .lt 12, 3) := by decide +kernel
theorem dX3_look__12 : decode cX3_look_ 12 = .ok (.iload_n 2, 1) := by decide +kernel
theorem dX3_look__13 : decode cX3_look_ 13 = .ok (.iconst 4, 1) := by decide +kernel
theorem dX3_look__14 : decode cX3_look_ 14 = .ok (.if_icmp .ge 7, 3) := by decide +kernel
theorem dX3_look__17 : decode cX3_look_ 17 = .ok (.iconst 0, 1) := by decide +kernel
theorem dX3_look__18 : decode cX3_look_ 18 = .ok (.goto 4, 3) := by decide +kernel
theorem dX3_look__21 : decode cX3_look_ 21 = .ok (.iconst 1, 1) := by decide +kernel
theorem dX3_look__22 : decode cX3_look_ 22 = .ok (.putfield 42, 3) := by decide +kernel
theorem dX3_look__25 : decode cX3_look_ 25 = .ok (.aload_n 0, 1) := by decide +kernel
theorem dX3_look__26 : decode cX3_look_ 26 = .ok (.getfield 42, 3) := by decide +kernel
theorem dX3_look__29 : decode cX3_look_ 29 = .ok (.ifCond .le 5, 3) := by decide +kernel
theorem dX3_look__32 : decode cX3_look_ 32 = .ok (.iconst 0, 1) := by decide +kernel
theorem dX3_look__33 : decode cX3_look_ 33 = .ok (.ireturn, 1) := by decide +kernel
theorem dX3_look__34 : decode cX3_look_ 34 = .ok (.aload_n 0, 1) := by decide +kernel
theorem dX3_look__35 : decode cX3_look_ 35 = .ok (.getfield 45, 3) := by decide +kernel
theorem dX3_look__38 : decode cX3_look_ 38 = .ok (.aload_n 0, 1) := by decide +kernel
theorem dX3_look__39 : decode cX3_look_ 39 = .ok (.getfield 22, 3) := by decide +kernel
theorem dX3_look__42 : decode cX3_look_ 42 = .ok (.iload_n 1, 1) := by decide +kernel
theorem dX3_look__43 : decode cX3_look_ 43 = .ok (.baload, 1) := by decide +kernel
theorem dX3_look__44 : decode cX3_look_ 44 = .ok (.ifCond .eq 12, 3) := by decide +kernel
theorem dX3_look__47 : decode cX3_look_ 47 = .ok (.aload_n 0, 1) := by decide +kernel
theorem dX3_look__48 : decode cX3_look_ 48 = .ok (.getfield 26, 3) := by decide +kernel
theorem dX3_look__51 : decode cX3_look_ 51 = .ok (.iload_n 1, 1) := by decide +kernel
theorem dX3_look__52 : decode cX3_look_ 52 = .ok (.iaload, 1) := by decide +kernel
theorem dX3_look__53 : decode cX3_look_ 53 = .ok (.goto 4, 3) := by decide +kernel
theorem dX3_look__56 : decode cX3_look_ 56 = .ok (.iconst 0, 1) := by decide +kernel
theorem dX3_look__57 : decode cX3_look_ 57 = .ok (.invokestatic 48, 3) := by decide +kernel
theorem dX3_look__60 : decode cX3_look_ 60 = .ok (.istore_n 3, 1) := by decide +kernel
theorem dX3_look__61 : decode cX3_look_ 61 = .ok (.iload_n 2, 1) := by decide +kernel
theorem dX3_look__62 : decode cX3_look_ 62 = .ok (.tableswitch 68 0 2 #[26, 41, 48], 26) := by decide +kernel
theorem dX3_look__88 : decode cX3_look_ 88 = .ok (.aload_n 0, 1) := by decide +kernel
theorem dX3_look__89 : decode cX3_look_ 89 = .ok (.getfield 22, 3) := by decide +kernel
theorem dX3_look__92 : decode cX3_look_ 92 = .ok (.iload_n 1, 1) := by decide +kernel
theorem dX3_look__93 : decode cX3_look_ 93 = .ok (.baload, 1) := by decide +kernel
theorem dX3_look__94 : decode cX3_look_ 94 = .ok (.ifCond .eq 7, 3) := by decide +kernel
theorem dX3_look__97 : decode cX3_look_ 97 = .ok (.iconst 1, 1) := by decide +kernel
theorem dX3_look__98 : decode cX3_look_ 98 = .ok (.goto 4, 3) := by decide +kernel
theorem dX3_look__101 : decode cX3_look_ 101 = .ok (.iconst 0, 1) := by decide +kernel
theorem dX3_look__102 : decode cX3_look_ 102 = .ok (.ireturn, 1) := by decide +kernel
theorem dX3_look__103 : decode cX3_look_ 103 = .ok (.aload_n 0, 1) := by decide +kernel
theorem dX3_look__104 : decode cX3_look_ 104 = .ok (.getfield 26, 3) := by decide +kernel
theorem dX3_look__107 : decode cX3_look_ 107 = .ok (.iload_n 1, 1) := by decide +kernel
theorem dX3_look__108 : decode cX3_look_ 108 = .ok (.iaload, 1) := by decide +kernel
theorem dX3_look__109 : decode cX3_look_ 109 = .ok (.ireturn, 1) := by decide +kernel
theorem dX3_look__110 : decode cX3_look_ 110 = .ok (.aload_n 0, 1) := by decide +kernel
theorem dX3_look__111 : decode cX3_look_ 111 = .ok (.getfield 22, 3) := by decide +kernel
theorem dX3_look__114 : decode cX3_look_ 114 = .ok (.iload_n 1, 1) := by decide +kernel
theorem dX3_look__115 : decode cX3_look_ 115 = .ok (.baload, 1) := by decide +kernel
theorem dX3_look__116 : decode cX3_look_ 116 = .ok (.ifCond .eq 12, 3) := by decide +kernel
theorem dX3_look__119 : decode cX3_look_ 119 = .ok (.aload_n 0, 1) := by decide +kernel
theorem dX3_look__120 : decode cX3_look_ 120 = .ok (.getfield 13, 3) := by decide +kernel
theorem dX3_look__123 : decode cX3_look_ 123 = .ok (.iload_n 3, 1) := by decide +kernel
theorem dX3_look__124 : decode cX3_look_ 124 = .ok (.iaload, 1) := by decide +kernel
theorem dX3_look__125 : decode cX3_look_ 125 = .ok (.goto 4, 3) := by decide +kernel
theorem dX3_look__128 : decode cX3_look_ 128 = .ok (.iconst 0, 1) := by decide +kernel
theorem dX3_look__129 : decode cX3_look_ 129 = .ok (.ireturn, 1) := by decide +kernel
theorem dX3_look__130 : decode cX3_look_ 130 = .ok (.aload_n 0, 1) := by decide +kernel
theorem dX3_look__131 : decode cX3_look_ 131 = .ok (.getfield 22, 3) := by decide +kernel
theorem dX3_look__134 : decode cX3_look_ 134 = .ok (.iload_n 1, 1) := by decide +kernel
theorem dX3_look__135 : decode cX3_look_ 135 = .ok (.baload, 1) := by decide +kernel
theorem dX3_look__136 : decode cX3_look_ 136 = .ok (.ifCond .eq 12, 3) := by decide +kernel
theorem dX3_look__139 : decode cX3_look_ 139 = .ok (.aload_n 0, 1) := by decide +kernel
theorem dX3_look__140 : decode cX3_look_ 140 = .ok (.getfield 16, 3) := by decide +kernel
theorem dX3_look__143 : decode cX3_look_ 143 = .ok (.iload_n 3, 1) := by decide +kernel
theorem dX3_look__144 : decode cX3_look_ 144 = .ok (.iaload, 1) := by decide +kernel
theorem dX3_look__145 : decode cX3_look_ 145 = .ok (.goto 4, 3) := by decide +kernel
theorem dX3_look__148 : decode cX3_look_ 148 = .ok (.iconst (-1), 1) := by decide +kernel
theorem dX3_look__149 : decode cX3_look_ 149 = .ok (.ireturn, 1) := by decide +kernel
set_option maxRecDepth 20000 in
theorem ggX3_field_X3_isRoot : GoodIn wsX3_field wsX3_isRoot := goodIn_r _ [9] (by decide +kernel) (by decide +kernel)
set_option maxRecDepth 20000 in
theorem gX3_field_X3_isRoot : GoodIn wsX3_field (va_wsS RX3 112 yX3_isRoot wsX3_isRoot) := goodIn_app (goodIn_of _ (by decide +kernel)) ggX3_field_X3_isRoot
set_option maxRecDepth 20000 in
theorem ggX3_field_X3_hasField : GoodIn wsX3_field wsX3_hasField := goodIn_r _ [13, 14, 4, 2, 3, 15, 16, 8, 17, 18, 19, 20, 21, 22, 23, 24, 25, 26, 27, 28, 29, 30, 31, 32, 33, 34, 35, 36, 37, 38, 39] (by decide +kernel) (by decide +kernel)
set_option maxRecDepth 20000 in
theorem gX3_field_X3_hasField : GoodIn wsX3_field (wsV RX3 130 RX3 yX3_hasField wsX3_hasField) := goodIn_app (goodIn_of _ (by decide +kernel)) ggX3_field_X3_hasField
set_option maxRecDepth 20000 in
theorem ggX3_field_X3_at : GoodIn wsX3_field wsX3_at := goodIn_r _ [17] (by decide +kernel) (by decide +kernel)
set_option maxRecDepth 20000 in
theorem gX3_field_X3_at : GoodIn wsX3_field (va_wsS RX3 48 yX3_at wsX3_at) := goodIn_app (goodIn_of _ (by decide +kernel)) ggX3_field_X3_at
theorem dX3_field_0 : decode cX3_field 0 = .ok (.aload_n 0, 1) := by decide +kernel
theorem dX3_field_1 : decode cX3_field 1 = .ok (.iload_n 1, 1) := by decide +kernel
theorem dX3_field_2 : decode cX3_field 2 = .ok (.invokestatic 112, 3) := by decide +kernel
theorem dX3_field_5 : decode cX3_field 5 = .ok (.ifCond .eq 36, 3) := by decide +kernel
theorem dX3_field_8 : decode cX3_field 8 = .ok (.iload_n 3, 1) := by decide +kernel
theorem dX3_field_9 : decode cX3_field 9 = .ok (.ifCond .lt 32, 3) := by decide +kernel
theorem dX3_field_12 : decode cX3_field 12 = .ok (.iload_n 3, 1) := by decide +kernel
theorem dX3_field_13 : decode cX3_field 13 = .ok (.iconst 2, 1) := by decide +kernel
theorem dX3_field_14 : decode cX3_field 14 = .ok (.if_icmp .ge 27, 3) := by decide +kernel
theorem dX3_field_17 : decode cX3_field 17 = .ok (.aload_n 0, 1) := by decide +kernel
theorem dX3_field_18 : decode cX3_field 18 = .ok (.iload_n 1, 1) := by decide +kernel
theorem dX3_field_19 : decode cX3_field 19 = .ok (.invokestatic 112, 3) := by decide +kernel
theorem dX3_field_22 : decode cX3_field 22 = .ok (.ifCond .eq 7, 3) := by decide +kernel
theorem dX3_field_25 : decode cX3_field 25 = .ok (.iload_n 1, 1) := by decide +kernel
theorem dX3_field_26 : decode cX3_field 26 = .ok (.goto 4, 3) := by decide +kernel
theorem dX3_field_29 : decode cX3_field 29 = .ok (.iconst 0, 1) := by decide +kernel
theorem dX3_field_30 : decode cX3_field 30 = .ok (.iload_n 2, 1) := by decide +kernel
theorem dX3_field_31 : decode cX3_field 31 = .ok (.invokevirtual 130, 3) := by decide +kernel
theorem dX3_field_34 : decode cX3_field 34 = .ok (.ifCond .eq 7, 3) := by decide +kernel
theorem dX3_field_37 : decode cX3_field 37 = .ok (.iconst 0, 1) := by decide +kernel
theorem dX3_field_38 : decode cX3_field 38 = .ok (.goto 4, 3) := by decide +kernel
theorem dX3_field_41 : decode cX3_field 41 = .ok (.iconst 1, 1) := by decide +kernel
theorem dX3_field_42 : decode cX3_field 42 = .ok (.putfield 42, 3) := by decide +kernel
theorem dX3_field_45 : decode cX3_field 45 = .ok (.aload_n 0, 1) := by decide +kernel
theorem dX3_field_46 : decode cX3_field 46 = .ok (.getfield 42, 3) := by decide +kernel
theorem dX3_field_49 : decode cX3_field 49 = .ok (.ifCond .le 5, 3) := by decide +kernel
theorem dX3_field_52 : decode cX3_field 52 = .ok (.iconst 0, 1) := by decide +kernel
theorem dX3_field_53 : decode cX3_field 53 = .ok (.ireturn, 1) := by decide +kernel
theorem dX3_field_54 : decode cX3_field 54 = .ok (.aload_n 0, 1) := by decide +kernel
theorem dX3_field_55 : decode cX3_field 55 = .ok (.getfield 45, 3) := by decide +kernel
theorem dX3_field_58 : decode cX3_field 58 = .ok (.aload_n 0, 1) := by decide +kernel
theorem dX3_field_59 : decode cX3_field 59 = .ok (.getfield 26, 3) := by decide +kernel
theorem dX3_field_62 : decode cX3_field 62 = .ok (.iload_n 1, 1) := by decide +kernel
theorem dX3_field_63 : decode cX3_field 63 = .ok (.iaload, 1) := by decide +kernel
theorem dX3_field_64 : decode cX3_field 64 = .ok (.invokestatic 48, 3) := by decide +kernel
theorem dX3_field_67 : decode cX3_field 67 = .ok (.iconst 1, 1) := by decide +kernel
theorem dX3_field_68 : decode cX3_field 68 = .ok (.iadd, 1) := by decide +kernel
theorem dX3_field_69 : decode cX3_field 69 = .ok (.iload_n 2, 1) := by decide +kernel
theorem dX3_field_70 : decode cX3_field 70 = .ok (.iadd, 1) := by decide +kernel
theorem dX3_field_71 : decode cX3_field 71 = .ok (.istore 4, 2) := by decide +kernel
theorem dX3_field_73 : decode cX3_field 73 = .ok (.iload_n 3, 1) := by decide +kernel
theorem dX3_field_74 : decode cX3_field 74 = .ok (.iconst 1, 1) := by decide +kernel
theorem dX3_field_75 : decode cX3_field 75 = .ok (.if_icmp .ne 13, 3) := by decide +kernel
theorem dX3_field_78 : decode cX3_field 78 = .ok (.aload_n 0, 1) := by decide +kernel
theorem dX3_field_79 : decode cX3_field 79 = .ok (.getfield 13, 3) := by decide +kernel
theorem dX3_field_82 : decode cX3_field 82 = .ok (.iload 4, 2) := by decide +kernel
theorem dX3_field_84 : decode cX3_field 84 = .ok (.iaload, 1) := by decide +kernel
theorem dX3_field_85 : decode cX3_field 85 = .ok (.goto 18, 3) := by decide +kernel
theorem dX3_field_88 : decode cX3_field 88 = .ok (.aload_n 0, 1) := by decide +kernel
theorem dX3_field_89 : decode cX3_field 89 = .ok (.getfield 7, 3) := by decide +kernel
theorem dX3_field_92 : decode cX3_field 92 = .ok (.iload 4, 2) := by decide +kernel
theorem dX3_field_94 : decode cX3_field 94 = .ok (.iaload, 1) := by decide +kernel
theorem dX3_field_95 : decode cX3_field 95 = .ok (.ifCond .ne 7, 3) := by decide +kernel
theorem dX3_field_98 : decode cX3_field 98 = .ok (.iconst 0, 1) := by decide +kernel
theorem dX3_field_99 : decode cX3_field 99 = .ok (.goto 4, 3) := by decide +kernel
theorem dX3_field_102 : decode cX3_field 102 = .ok (.iconst 1, 1) := by decide +kernel
theorem dX3_field_103 : decode cX3_field 103 = .ok (.ireturn, 1) := by decide +kernel
set_option maxRecDepth 20000 in
theorem ggX3_cell_X3_at : GoodIn wsX3_cell wsX3_at := goodIn_r _ [9] (by decide +kernel) (by decide +kernel)
set_option maxRecDepth 20000 in
theorem gX3_cell_X3_at : GoodIn wsX3_cell (va_wsS RX3 48 yX3_at wsX3_at) := goodIn_app (goodIn_of _ (by decide +kernel)) ggX3_cell_X3_at
theorem dX3_cell_0 : decode cX3_cell 0 = .ok (.iload_n 1, 1) := by decide +kernel
theorem dX3_cell_1 : decode cX3_cell 1 = .ok (.ifCond .eq 8, 3) := by decide +kernel
theorem dX3_cell_4 : decode cX3_cell 4 = .ok (.iload_n 1, 1) := by decide +kernel
theorem dX3_cell_5 : decode cX3_cell 5 = .ok (.iconst 1, 1) := by decide +kernel
theorem dX3_cell_6 : decode cX3_cell 6 = .ok (.if_icmp .ne 20, 3) := by decide +kernel
theorem dX3_cell_9 : decode cX3_cell 9 = .ok (.iload_n 3, 1) := by decide +kernel
theorem dX3_cell_10 : decode cX3_cell 10 = .ok (.ifCond .lt 16, 3) := by decide +kernel
theorem dX3_cell_13 : decode cX3_cell 13 = .ok (.iload_n 3, 1) := by decide +kernel
theorem dX3_cell_14 : decode cX3_cell 14 = .ok (.iconst 3, 1) := by decide +kernel
theorem dX3_cell_15 : decode cX3_cell 15 = .ok (.if_icmp .ge 11, 3) := by decide +kernel
theorem dX3_cell_18 : decode cX3_cell 18 = .ok (.iload_n 2, 1) := by decide +kernel
theorem dX3_cell_19 : decode cX3_cell 19 = .ok (.ifCond .lt 7, 3) := by decide +kernel
theorem dX3_cell_22 : decode cX3_cell 22 = .ok (.iconst 1, 1) := by decide +kernel
theorem dX3_cell_23 : decode cX3_cell 23 = .ok (.goto 4, 3) := by decide +kernel
theorem dX3_cell_26 : decode cX3_cell 26 = .ok (.iconst 0, 1) := by decide +kernel
theorem dX3_cell_27 : decode cX3_cell 27 = .ok (.istore 4, 2) := by decide +kernel
theorem dX3_cell_29 : decode cX3_cell 29 = .ok (.aload_n 0, 1) := by decide +kernel
theorem dX3_cell_30 : decode cX3_cell 30 = .ok (.iload 4, 2) := by decide +kernel
theorem dX3_cell_32 : decode cX3_cell 32 = .ok (.ifCond .eq 26, 3) := by decide +kernel
theorem dX3_cell_35 : decode cX3_cell 35 = .ok (.iload_n 2, 1) := by decide +kernel
theorem dX3_cell_36 : decode cX3_cell 36 = .ok (.aload_n 0, 1) := by decide +kernel
theorem dX3_cell_37 : decode cX3_cell 37 = .ok (.getfield 19, 3) := by decide +kernel
theorem dX3_cell_40 : decode cX3_cell 40 = .ok (.iload 4, 2) := by decide +kernel
theorem dX3_cell_42 : decode cX3_cell 42 = .ok (.ifCond .eq 7, 3) := by decide +kernel
theorem dX3_cell_45 : decode cX3_cell 45 = .ok (.iload_n 1, 1) := by decide +kernel
theorem dX3_cell_46 : decode cX3_cell 46 = .ok (.goto 4, 3) := by decide +kernel
theorem dX3_cell_49 : decode cX3_cell 49 = .ok (.iconst 0, 1) := by decide +kernel
theorem dX3_cell_50 : decode cX3_cell 50 = .ok (.iaload, 1) := by decide +kernel
theorem dX3_cell_51 : decode cX3_cell 51 = .ok (.if_icmp .ge 7, 3) := by decide +kernel
theorem dX3_cell_54 : decode cX3_cell 54 = .ok (.iconst 0, 1) := by decide +kernel
theorem dX3_cell_55 : decode cX3_cell 55 = .ok (.goto 4, 3) := by decide +kernel
theorem dX3_cell_58 : decode cX3_cell 58 = .ok (.iconst 1, 1) := by decide +kernel
theorem dX3_cell_59 : decode cX3_cell 59 = .ok (.putfield 42, 3) := by decide +kernel
theorem dX3_cell_62 : decode cX3_cell 62 = .ok (.aload_n 0, 1) := by decide +kernel
theorem dX3_cell_63 : decode cX3_cell 63 = .ok (.getfield 42, 3) := by decide +kernel
theorem dX3_cell_66 : decode cX3_cell 66 = .ok (.ifCond .le 5, 3) := by decide +kernel
theorem dX3_cell_69 : decode cX3_cell 69 = .ok (.iconst 0, 1) := by decide +kernel
theorem dX3_cell_70 : decode cX3_cell 70 = .ok (.ireturn, 1) := by decide +kernel
theorem dX3_cell_71 : decode cX3_cell 71 = .ok (.iload_n 1, 1) := by decide +kernel
theorem dX3_cell_72 : decode cX3_cell 72 = .ok (.iload_n 2, 1) := by decide +kernel
theorem dX3_cell_73 : decode cX3_cell 73 = .ok (.invokestatic 48, 3) := by decide +kernel
theorem dX3_cell_76 : decode cX3_cell 76 = .ok (.istore 5, 2) := by decide +kernel
theorem dX3_cell_78 : decode cX3_cell 78 = .ok (.iload_n 3, 1) := by decide +kernel
theorem dX3_cell_79 : decode cX3_cell 79 = .ok (.ifCond .ne 13, 3) := by decide +kernel
theorem dX3_cell_82 : decode cX3_cell 82 = .ok (.aload_n 0, 1) := by decide +kernel
theorem dX3_cell_83 : decode cX3_cell 83 = .ok (.getfield 7, 3) := by decide +kernel
theorem dX3_cell_86 : decode cX3_cell 86 = .ok (.iload 5, 2) := by decide +kernel
theorem dX3_cell_88 : decode cX3_cell 88 = .ok (.iaload, 1) := by decide +kernel
theorem dX3_cell_89 : decode cX3_cell 89 = .ok (.goto 40, 3) := by decide +kernel
theorem dX3_cell_92 : decode cX3_cell 92 = .ok (.iload_n 3, 1) := by decide +kernel
theorem dX3_cell_93 : decode cX3_cell 93 = .ok (.iconst 1, 1) := by decide +kernel
theorem dX3_cell_94 : decode cX3_cell 94 = .ok (.if_icmp .ne 13, 3) := by decide +kernel
theorem dX3_cell_97 : decode cX3_cell 97 = .ok (.aload_n 0, 1) := by decide +kernel
theorem dX3_cell_98 : decode cX3_cell 98 = .ok (.getfield 13, 3) := by decide +kernel
theorem dX3_cell_101 : decode cX3_cell 101 = .ok (.iload 5, 2) := by decide +kernel
theorem dX3_cell_103 : decode cX3_cell 103 = .ok (.iaload, 1) := by decide +kernel
theorem dX3_cell_104 : decode cX3_cell 104 = .ok (.goto 25, 3) := by decide +kernel
theorem dX3_cell_107 : decode cX3_cell 107 = .ok (.aload_n 0, 1) := by decide +kernel
theorem dX3_cell_108 : decode cX3_cell 108 = .ok (.getfield 7, 3) := by decide +kernel
theorem dX3_cell_111 : decode cX3_cell 111 = .ok (.iload 5, 2) := by decide +kernel
theorem dX3_cell_113 : decode cX3_cell 113 = .ok (.iaload, 1) := by decide +kernel
theorem dX3_cell_114 : decode cX3_cell 114 = .ok (.iconst 3, 1) := by decide +kernel
theorem dX3_cell_115 : decode cX3_cell 115 = .ok (.if_icmp .ne 13, 3) := by decide +kernel
theorem dX3_cell_118 : decode cX3_cell 118 = .ok (.aload_n 0, 1) := by decide +kernel
theorem dX3_cell_119 : decode cX3_cell 119 = .ok (.getfield 16, 3) := by decide +kernel
theorem dX3_cell_122 : decode cX3_cell 122 = .ok (.iload 5, 2) := by decide +kernel
theorem dX3_cell_124 : decode cX3_cell 124 = .ok (.iaload, 1) := by decide +kernel
theorem dX3_cell_125 : decode cX3_cell 125 = .ok (.goto 4, 3) := by decide +kernel
theorem dX3_cell_128 : decode cX3_cell 128 = .ok (.iconst (-1), 1) := by decide +kernel
theorem dX3_cell_129 : decode cX3_cell 129 = .ok (.ireturn, 1) := by decide +kernel
theorem dX3_entry_0 : decode cX3_entry 0 = .ok (.aload_n 0, 1) := by decide +kernel
theorem dX3_entry_1 : decode cX3_entry 1 = .ok (.iload_n 1, 1) := by decide +kernel
theorem dX3_entry_2 : decode cX3_entry 2 = .ok (.ifCond .lt 24, 3) := by decide +kernel
theorem dX3_entry_5 : decode cX3_entry 5 = .ok (.iload_n 1, 1) := by decide +kernel
theorem dX3_entry_6 : decode cX3_entry 6 = .ok (.aload_n 0, 1) := by decide +kernel
theorem dX3_entry_7 : decode cX3_entry 7 = .ok (.getfield 73, 3) := by decide +kernel
theorem dX3_entry_10 : decode cX3_entry 10 = .ok (.if_icmp .ge 16, 3) := by decide +kernel
theorem dX3_entry_13 : decode cX3_entry 13 = .ok (.iload_n 2, 1) := by decide +kernel
theorem dX3_entry_14 : decode cX3_entry 14 = .ok (.ifCond .lt 12, 3) := by decide +kernel
theorem dX3_entry_17 : decode cX3_entry 17 = .ok (.iload_n 2, 1) := by decide +kernel
theorem dX3_entry_18 : decode cX3_entry 18 = .ok (.iconst 2, 1) := by decide +kernel
theorem dX3_entry_19 : decode cX3_entry 19 = .ok (.if_icmp .ge 7, 3) := by decide +kernel
theorem dX3_entry_22 : decode cX3_entry 22 = .ok (.iconst 0, 1) := by decide +kernel
theorem dX3_entry_23 : decode cX3_entry 23 = .ok (.goto 4, 3) := by decide +kernel
theorem dX3_entry_26 : decode cX3_entry 26 = .ok (.iconst 1, 1) := by decide +kernel
theorem dX3_entry_27 : decode cX3_entry 27 = .ok (.putfield 42, 3) := by decide +kernel
theorem dX3_entry_30 : decode cX3_entry 30 = .ok (.aload_n 0, 1) := by decide +kernel
theorem dX3_entry_31 : decode cX3_entry 31 = .ok (.getfield 42, 3) := by decide +kernel
theorem dX3_entry_34 : decode cX3_entry 34 = .ok (.ifCond .le 7, 3) := by decide +kernel
theorem dX3_entry_37 : decode cX3_entry 37 = .ok (.iconst 0, 1) := by decide +kernel
theorem dX3_entry_38 : decode cX3_entry 38 = .ok (.goto 22, 3) := by decide +kernel
theorem dX3_entry_41 : decode cX3_entry 41 = .ok (.iload_n 2, 1) := by decide +kernel
theorem dX3_entry_42 : decode cX3_entry 42 = .ok (.ifCond .ne 12, 3) := by decide +kernel
theorem dX3_entry_45 : decode cX3_entry 45 = .ok (.aload_n 0, 1) := by decide +kernel
theorem dX3_entry_46 : decode cX3_entry 46 = .ok (.getfield 29, 3) := by decide +kernel
theorem dX3_entry_49 : decode cX3_entry 49 = .ok (.iload_n 1, 1) := by decide +kernel
theorem dX3_entry_50 : decode cX3_entry 50 = .ok (.iaload, 1) := by decide +kernel
theorem dX3_entry_51 : decode cX3_entry 51 = .ok (.goto 9, 3) := by decide +kernel
theorem dX3_entry_54 : decode cX3_entry 54 = .ok (.aload_n 0, 1) := by decide +kernel
theorem dX3_entry_55 : decode cX3_entry 55 = .ok (.getfield 32, 3) := by decide +kernel
theorem dX3_entry_58 : decode cX3_entry 58 = .ok (.iload_n 1, 1) := by decide +kernel
theorem dX3_entry_59 : decode cX3_entry 59 = .ok (.iaload, 1) := by decide +kernel
theorem dX3_entry_60 : decode cX3_entry 60 = .ok (.ireturn, 1) := by decide +kernel
set_option maxRecDepth 20000 in
theorem ggX3_count_X3_other : GoodIn wsX3_count wsX3_other := goodIn_r _ [18, 2, 19, 20, 21, 22, 23, 24, 25, 26, 27, 28, 29, 30, 31, 32, 33, 34, 35, 36, 37, 38, 39, 40] (by decide +kernel) (by decide +kernel)
set_option maxRecDepth 20000 in
theorem gX3_count_X3_other : GoodIn wsX3_count (wsV RX3 52 RX3 yX3_other wsX3_other) := goodIn_app (goodIn_of _ (by decide +kernel)) ggX3_count_X3_other
theorem dX3_count_0 : decode cX3_count 0 = .ok (.aload_n 0, 1) := by decide +kernel
theorem dX3_count_1 : decode cX3_count 1 = .ok (.iconst 0, 1) := by decide +kernel
theorem dX3_count_2 : decode cX3_count 2 = .ok (.putfield 42, 3) := by decide +kernel
theorem dX3_count_5 : decode cX3_count 5 = .ok (.iload_n 1, 1) := by decide +kernel
theorem dX3_count_6 : decode cX3_count 6 = .ok (.tableswitch 149 0 12 #[66, 71, 84, 94, 104, 109, 114, 119, 124, 129, 134, 139, 144], 66) := by decide +kernel
theorem dX3_count_72 : decode cX3_count 72 = .ok (.aload_n 0, 1) := by decide +kernel
theorem dX3_count_73 : decode cX3_count 73 = .ok (.getfield 45, 3) := by decide +kernel
theorem dX3_count_76 : decode cX3_count 76 = .ok (.ireturn, 1) := by decide +kernel
theorem dX3_count_77 : decode cX3_count 77 = .ok (.aload_n 0, 1) := by decide +kernel
theorem dX3_count_78 : decode cX3_count 78 = .ok (.getfield 69, 3) := by decide +kernel
theorem dX3_count_81 : decode cX3_count 81 = .ok (.ifCond .eq 7, 3) := by decide +kernel
theorem dX3_count_84 : decode cX3_count 84 = .ok (.iconst 1, 1) := by decide +kernel
theorem dX3_count_85 : decode cX3_count 85 = .ok (.goto 4, 3) := by decide +kernel
theorem dX3_count_88 : decode cX3_count 88 = .ok (.iconst 0, 1) := by decide +kernel
theorem dX3_count_89 : decode cX3_count 89 = .ok (.ireturn, 1) := by decide +kernel
theorem dX3_count_90 : decode cX3_count 90 = .ok (.aload_n 0, 1) := by decide +kernel
theorem dX3_count_91 : decode cX3_count 91 = .ok (.getfield 19, 3) := by decide +kernel
theorem dX3_count_94 : decode cX3_count 94 = .ok (.aload_n 0, 1) := by decide +kernel
theorem dX3_count_95 : decode cX3_count 95 = .ok (.getfield 45, 3) := by decide +kernel
theorem dX3_count_98 : decode cX3_count 98 = .ok (.iaload, 1) := by decide +kernel
theorem dX3_count_99 : decode cX3_count 99 = .ok (.ireturn, 1) := by decide +kernel
theorem dX3_count_100 : decode cX3_count 100 = .ok (.aload_n 0, 1) := by decide +kernel
theorem dX3_count_101 : decode cX3_count 101 = .ok (.getfield 19, 3) := by decide +kernel
theorem dX3_count_104 : decode cX3_count 104 = .ok (.aload_n 0, 1) := by decide +kernel
theorem dX3_count_105 : decode cX3_count 105 = .ok (.invokevirtual 52, 3) := by decide +kernel
theorem dX3_count_108 : decode cX3_count 108 = .ok (.iaload, 1) := by decide +kernel
theorem dX3_count_109 : decode cX3_count 109 = .ok (.ireturn, 1) := by decide +kernel
theorem dX3_count_110 : decode cX3_count 110 = .ok (.aload_n 0, 1) := by decide +kernel
theorem dX3_count_111 : decode cX3_count 111 = .ok (.getfield 66, 3) := by decide +kernel
theorem dX3_count_114 : decode cX3_count 114 = .ok (.ireturn, 1) := by decide +kernel
theorem dX3_count_115 : decode cX3_count 115 = .ok (.aload_n 0, 1) := by decide +kernel
theorem dX3_count_116 : decode cX3_count 116 = .ok (.getfield 73, 3) := by decide +kernel
theorem dX3_count_119 : decode cX3_count 119 = .ok (.ireturn, 1) := by decide +kernel
theorem dX3_count_120 : decode cX3_count 120 = .ok (.aload_n 0, 1) := by decide +kernel
theorem dX3_count_121 : decode cX3_count 121 = .ok (.getfield 60, 3) := by decide +kernel
theorem dX3_count_124 : decode cX3_count 124 = .ok (.ireturn, 1) := by decide +kernel
theorem dX3_count_125 : decode cX3_count 125 = .ok (.aload_n 0, 1) := by decide +kernel
theorem dX3_count_126 : decode cX3_count 126 = .ok (.getfield 76, 3) := by decide +kernel
theorem dX3_count_129 : decode cX3_count 129 = .ok (.ireturn, 1) := by decide +kernel
theorem dX3_count_130 : decode cX3_count 130 = .ok (.aload_n 0, 1) := by decide +kernel
theorem dX3_count_131 : decode cX3_count 131 = .ok (.getfield 103, 3) := by decide +kernel
theorem dX3_count_134 : decode cX3_count 134 = .ok (.ireturn, 1) := by decide +kernel
theorem dX3_count_135 : decode cX3_count 135 = .ok (.aload_n 0, 1) := by decide +kernel
theorem dX3_count_136 : decode cX3_count 136 = .ok (.getfield 91, 3) := by decide +kernel
theorem dX3_count_139 : decode cX3_count 139 = .ok (.ireturn, 1) := by decide +kernel
theorem dX3_count_140 : decode cX3_count 140 = .ok (.aload_n 0, 1) := by decide +kernel
theorem dX3_count_141 : decode cX3_count 141 = .ok (.getfield 100, 3) := by decide +kernel
theorem dX3_count_144 : decode cX3_count 144 = .ok (.ireturn, 1) := by decide +kernel
theorem dX3_count_145 : decode cX3_count 145 = .ok (.aload_n 0, 1) := by decide +kernel
theorem dX3_count_146 : decode cX3_count 146 = .ok (.getfield 124, 3) := by decide +kernel
theorem dX3_count_149 : decode cX3_count 149 = .ok (.ireturn, 1) := by decide +kernel
theorem dX3_count_150 : decode cX3_count 150 = .ok (.aload_n 0, 1) := by decide +kernel
theorem dX3_count_151 : decode cX3_count 151 = .ok (.getfield 35, 3) := by decide +kernel
theorem dX3_count_154 : decode cX3_count 154 = .ok (.ireturn, 1) := by decide +kernel
theorem dX3_count_155 : decode cX3_count 155 = .ok (.iconst (-1), 1) := by decide +kernel
theorem dX3_count_156 : decode cX3_count 156 = .ok (.ireturn, 1) := by decide +kernel
