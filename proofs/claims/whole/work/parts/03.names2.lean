theorem dX0_init_0 : decode cX0_init 0 = .ok (.aload_n 0, 1) := by decide +kernel
theorem dX0_init_1 : decode cX0_init 1 = .ok (.invokespecial 3, 3) := by decide +kernel
theorem dX0_init_4 : decode cX0_init 4 = .ok (.aload_n 0, 1) := by decide +kernel
theorem dX0_init_5 : decode cX0_init 5 = .ok (.sipush 400, 3) := by decide +kernel
theorem dX0_init_8 : decode cX0_init 8 = .ok (.newarray .boolean, 2) := by decide +kernel
theorem dX0_init_10 : decode cX0_init 10 = .ok (.putfield 9, 3) := by decide +kernel
theorem dX0_init_13 : decode cX0_init 13 = .ok (.aload_n 0, 1) := by decide +kernel
theorem dX0_init_14 : decode cX0_init 14 = .ok (.sipush 400, 3) := by decide +kernel
theorem dX0_init_17 : decode cX0_init 17 = .ok (.newarray .int, 2) := by decide +kernel
theorem dX0_init_19 : decode cX0_init 19 = .ok (.putfield 15, 3) := by decide +kernel
theorem dX0_init_22 : decode cX0_init 22 = .ok (.aload_n 0, 1) := by decide +kernel
theorem dX0_init_23 : decode cX0_init 23 = .ok (.bipush 8, 2) := by decide +kernel
theorem dX0_init_25 : decode cX0_init 25 = .ok (.newarray .int, 2) := by decide +kernel
theorem dX0_init_27 : decode cX0_init 27 = .ok (.putfield 19, 3) := by decide +kernel
theorem dX0_init_30 : decode cX0_init 30 = .ok (.aload_n 0, 1) := by decide +kernel
theorem dX0_init_31 : decode cX0_init 31 = .ok (.bipush 8, 2) := by decide +kernel
theorem dX0_init_33 : decode cX0_init 33 = .ok (.newarray .int, 2) := by decide +kernel
theorem dX0_init_35 : decode cX0_init 35 = .ok (.putfield 22, 3) := by decide +kernel
theorem dX0_init_38 : decode cX0_init 38 = .ok (.aload_n 0, 1) := by decide +kernel
theorem dX0_init_39 : decode cX0_init 39 = .ok (.bipush 8, 2) := by decide +kernel
theorem dX0_init_41 : decode cX0_init 41 = .ok (.newarray .int, 2) := by decide +kernel
theorem dX0_init_43 : decode cX0_init 43 = .ok (.putfield 25, 3) := by decide +kernel
theorem dX0_init_46 : decode cX0_init 46 = .ok (.aload_n 0, 1) := by decide +kernel
theorem dX0_init_47 : decode cX0_init 47 = .ok (.bipush 8, 2) := by decide +kernel
theorem dX0_init_49 : decode cX0_init 49 = .ok (.newarray .int, 2) := by decide +kernel
theorem dX0_init_51 : decode cX0_init 51 = .ok (.putfield 28, 3) := by decide +kernel
theorem dX0_init_54 : decode cX0_init 54 = .ok (.aload_n 0, 1) := by decide +kernel
theorem dX0_init_55 : decode cX0_init 55 = .ok (.bipush 8, 2) := by decide +kernel
theorem dX0_init_57 : decode cX0_init 57 = .ok (.newarray .int, 2) := by decide +kernel
theorem dX0_init_59 : decode cX0_init 59 = .ok (.putfield 31, 3) := by decide +kernel
theorem dX0_init_62 : decode cX0_init 62 = .ok (.aload_n 0, 1) := by decide +kernel
theorem dX0_init_63 : decode cX0_init 63 = .ok (.bipush 8, 2) := by decide +kernel
theorem dX0_init_65 : decode cX0_init 65 = .ok (.newarray .boolean, 2) := by decide +kernel
theorem dX0_init_67 : decode cX0_init 67 = .ok (.putfield 34, 3) := by decide +kernel
theorem dX0_init_70 : decode cX0_init 70 = .ok (.aload_n 0, 1) := by decide +kernel
theorem dX0_init_71 : decode cX0_init 71 = .ok (.bipush 8, 2) := by decide +kernel
theorem dX0_init_73 : decode cX0_init 73 = .ok (.newarray .int, 2) := by decide +kernel
theorem dX0_init_75 : decode cX0_init 75 = .ok (.putfield 37, 3) := by decide +kernel
theorem dX0_init_78 : decode cX0_init 78 = .ok (.return_, 1) := by decide +kernel
theorem dX0_forget_0 : decode cX0_forget 0 = .ok (.aload_n 0, 1) := by decide +kernel
theorem dX0_forget_1 : decode cX0_forget 1 = .ok (.iconst 0, 1) := by decide +kernel
theorem dX0_forget_2 : decode cX0_forget 2 = .ok (.putfield 40, 3) := by decide +kernel
theorem dX0_forget_5 : decode cX0_forget 5 = .ok (.aload_n 0, 1) := by decide +kernel
theorem dX0_forget_6 : decode cX0_forget 6 = .ok (.iconst 0, 1) := by decide +kernel
theorem dX0_forget_7 : decode cX0_forget 7 = .ok (.putfield 44, 3) := by decide +kernel
theorem dX0_forget_10 : decode cX0_forget 10 = .ok (.aload_n 0, 1) := by decide +kernel
theorem dX0_forget_11 : decode cX0_forget 11 = .ok (.iconst 0, 1) := by decide +kernel
theorem dX0_forget_12 : decode cX0_forget 12 = .ok (.putfield 47, 3) := by decide +kernel
theorem dX0_forget_15 : decode cX0_forget 15 = .ok (.aload_n 0, 1) := by decide +kernel
theorem dX0_forget_16 : decode cX0_forget 16 = .ok (.iconst 0, 1) := by decide +kernel
theorem dX0_forget_17 : decode cX0_forget 17 = .ok (.putfield 50, 3) := by decide +kernel
theorem dX0_forget_20 : decode cX0_forget 20 = .ok (.aload_n 0, 1) := by decide +kernel
theorem dX0_forget_21 : decode cX0_forget 21 = .ok (.iconst 0, 1) := by decide +kernel
theorem dX0_forget_22 : decode cX0_forget 22 = .ok (.putfield 53, 3) := by decide +kernel
theorem dX0_forget_25 : decode cX0_forget 25 = .ok (.aload_n 0, 1) := by decide +kernel
theorem dX0_forget_26 : decode cX0_forget 26 = .ok (.iconst 0, 1) := by decide +kernel
theorem dX0_forget_27 : decode cX0_forget 27 = .ok (.putfield 56, 3) := by decide +kernel
theorem dX0_forget_30 : decode cX0_forget 30 = .ok (.iconst 0, 1) := by decide +kernel
theorem dX0_forget_31 : decode cX0_forget 31 = .ok (.istore_n 1, 1) := by decide +kernel
theorem dX0_forget_32 : decode cX0_forget 32 = .ok (.iload_n 1, 1) := by decide +kernel
theorem dX0_forget_33 : decode cX0_forget 33 = .ok (.bipush 8, 2) := by decide +kernel
theorem dX0_forget_35 : decode cX0_forget 35 = .ok (.if_icmp .ge 16, 3) := by decide +kernel
theorem dX0_forget_38 : decode cX0_forget 38 = .ok (.aload_n 0, 1) := by decide +kernel
theorem dX0_forget_39 : decode cX0_forget 39 = .ok (.getfield 37, 3) := by decide +kernel
theorem dX0_forget_42 : decode cX0_forget 42 = .ok (.iload_n 1, 1) := by decide +kernel
theorem dX0_forget_43 : decode cX0_forget 43 = .ok (.iconst 0, 1) := by decide +kernel
theorem dX0_forget_44 : decode cX0_forget 44 = .ok (.iastore, 1) := by decide +kernel
theorem dX0_forget_45 : decode cX0_forget 45 = .ok (.iinc 1 1, 3) := by decide +kernel
theorem dX0_forget_48 : decode cX0_forget 48 = .ok (.goto (-16), 3) := by decide +kernel
theorem dX0_forget_51 : decode cX0_forget 51 = .ok (.return_, 1) := by decide +kernel
theorem dX0_stands_0 : decode cX0_stands 0 = .ok (.aload_n 0, 1) := by decide +kernel
theorem dX0_stands_1 : decode cX0_stands 1 = .ok (.getfield 40, 3) := by decide +kernel
theorem dX0_stands_4 : decode cX0_stands 4 = .ok (.ifCond .le 7, 3) := by decide +kernel
theorem dX0_stands_7 : decode cX0_stands 7 = .ok (.iconst 1, 1) := by decide +kernel
theorem dX0_stands_8 : decode cX0_stands 8 = .ok (.goto 4, 3) := by decide +kernel
theorem dX0_stands_11 : decode cX0_stands 11 = .ok (.iconst 0, 1) := by decide +kernel
theorem dX0_stands_12 : decode cX0_stands 12 = .ok (.ireturn, 1) := by decide +kernel
set_option maxRecDepth 20000 in
theorem ggX0_makeOf_X0_forget : GoodIn wsX0_makeOf wsX0_forget := goodIn_r _ [11, 1, 2, 3, 12, 13, 14, 15, 63, 64, 65, 66, 67, 68, 69, 70, 71, 72, 73, 74, 75, 76, 77] (by decide +kernel) (by decide +kernel)
set_option maxRecDepth 20000 in
theorem gX0_makeOf_X0_forget : GoodIn wsX0_makeOf (wsV RX0 59 RX0 yX0_forget wsX0_forget) := goodIn_app (goodIn_of _ (by decide +kernel)) ggX0_makeOf_X0_forget
set_option maxRecDepth 20000 in
theorem ggX0_makeOf_X0_takeSamples : GoodIn wsX0_makeOf wsX0_takeSamples := goodIn_r _ [19, 20, 21, 2, 22, 23, 24, 25, 26, 27, 28, 29, 30, 31, 32, 33, 34, 35, 36, 37, 38, 39, 40, 41, 42, 43, 44, 45, 46, 47, 63, 64, 65, 66, 67, 68, 69, 70, 71, 72, 73, 74, 75, 76, 77, 78, 79, 80, 81, 82, 83, 84, 85, 86, 87] (by decide +kernel) (by decide +kernel)
set_option maxRecDepth 20000 in
theorem gX0_makeOf_X0_takeSamples : GoodIn wsX0_makeOf (wsV RX0 62 RX0 yX0_takeSamples wsX0_takeSamples) := goodIn_app (goodIn_of _ (by decide +kernel)) ggX0_makeOf_X0_takeSamples
set_option maxRecDepth 20000 in
theorem ggX0_makeOf_X0_lastStanding : GoodIn wsX0_makeOf wsX0_lastStanding := goodIn_r _ [51, 2, 21, 33, 34, 35, 63, 64, 65, 66, 67, 68, 69, 70, 71, 72, 73, 74, 75, 76, 77] (by decide +kernel) (by decide +kernel)
set_option maxRecDepth 20000 in
theorem gX0_makeOf_X0_lastStanding : GoodIn wsX0_makeOf (wsV RX0 74 RX0 yX0_lastStanding wsX0_lastStanding) := goodIn_app (goodIn_of _ (by decide +kernel)) ggX0_makeOf_X0_lastStanding
set_option maxRecDepth 20000 in
theorem ggX0_makeOf_X5_rowInOrder : GoodIn wsX0_makeOf wsX5_rowInOrder := goodIn_r _ [55, 46, 56, 33, 34, 35, 78, 79, 80, 81, 82, 83, 84, 85, 86, 87] (by decide +kernel) (by decide +kernel)
set_option maxRecDepth 20000 in
theorem gX0_makeOf_X5_rowInOrder : GoodIn wsX0_makeOf (wsV RX0 78 RX5 yX5_rowInOrder wsX5_rowInOrder) := goodIn_app (goodIn_of _ (by decide +kernel)) ggX0_makeOf_X5_rowInOrder
set_option maxRecDepth 20000 in
theorem ggX0_makeOf_X0_beginAnew : GoodIn wsX0_makeOf wsX0_beginAnew := goodIn_r _ [60, 61, 62, 63, 64, 65, 66, 67, 68, 69, 70, 71, 72, 73, 74, 75, 76, 77] (by decide +kernel) (by decide +kernel)
set_option maxRecDepth 20000 in
theorem gX0_makeOf_X0_beginAnew : GoodIn wsX0_makeOf (wsV RX0 81 RX0 yX0_beginAnew wsX0_beginAnew) := goodIn_app (goodIn_of _ (by decide +kernel)) ggX0_makeOf_X0_beginAnew
theorem dX0_makeOf_0 : decode cX0_makeOf 0 = .ok (.aload_n 0, 1) := by decide +kernel
theorem dX0_makeOf_1 : decode cX0_makeOf 1 = .ok (.invokevirtual 59, 3) := by decide +kernel
theorem dX0_makeOf_4 : decode cX0_makeOf 4 = .ok (.iload_n 2, 1) := by decide +kernel
theorem dX0_makeOf_5 : decode cX0_makeOf 5 = .ok (.iconst 1, 1) := by decide +kernel
theorem dX0_makeOf_6 : decode cX0_makeOf 6 = .ok (.if_icmp .lt 14, 3) := by decide +kernel
theorem dX0_makeOf_9 : decode cX0_makeOf 9 = .ok (.iload_n 2, 1) := by decide +kernel
theorem dX0_makeOf_10 : decode cX0_makeOf 10 = .ok (.bipush 8, 2) := by decide +kernel
theorem dX0_makeOf_12 : decode cX0_makeOf 12 = .ok (.if_icmp .gt 8, 3) := by decide +kernel
theorem dX0_makeOf_15 : decode cX0_makeOf 15 = .ok (.iload_n 3, 1) := by decide +kernel
theorem dX0_makeOf_16 : decode cX0_makeOf 16 = .ok (.iconst 1, 1) := by decide +kernel
theorem dX0_makeOf_17 : decode cX0_makeOf 17 = .ok (.if_icmp .ge 4, 3) := by decide +kernel
theorem dX0_makeOf_20 : decode cX0_makeOf 20 = .ok (.return_, 1) := by decide +kernel
theorem dX0_makeOf_21 : decode cX0_makeOf 21 = .ok (.aload_n 0, 1) := by decide +kernel
theorem dX0_makeOf_22 : decode cX0_makeOf 22 = .ok (.aload_n 1, 1) := by decide +kernel
theorem dX0_makeOf_23 : decode cX0_makeOf 23 = .ok (.iload_n 3, 1) := by decide +kernel
theorem dX0_makeOf_24 : decode cX0_makeOf 24 = .ok (.invokevirtual 62, 3) := by decide +kernel
theorem dX0_makeOf_27 : decode cX0_makeOf 27 = .ok (.aload_n 0, 1) := by decide +kernel
theorem dX0_makeOf_28 : decode cX0_makeOf 28 = .ok (.iload_n 2, 1) := by decide +kernel
theorem dX0_makeOf_29 : decode cX0_makeOf 29 = .ok (.putfield 40, 3) := by decide +kernel
theorem dX0_makeOf_32 : decode cX0_makeOf 32 = .ok (.aload_n 0, 1) := by decide +kernel
theorem dX0_makeOf_33 : decode cX0_makeOf 33 = .ok (.iload_n 3, 1) := by decide +kernel
theorem dX0_makeOf_34 : decode cX0_makeOf 34 = .ok (.aload_n 0, 1) := by decide +kernel
theorem dX0_makeOf_35 : decode cX0_makeOf 35 = .ok (.getfield 44, 3) := by decide +kernel
theorem dX0_makeOf_38 : decode cX0_makeOf 38 = .ok (.iload_n 2, 1) := by decide +kernel
theorem dX0_makeOf_39 : decode cX0_makeOf 39 = .ok (.iadd, 1) := by decide +kernel
theorem dX0_makeOf_40 : decode cX0_makeOf 40 = .ok (.iconst 1, 1) := by decide +kernel
theorem dX0_makeOf_41 : decode cX0_makeOf 41 = .ok (.isub, 1) := by decide +kernel
theorem dX0_makeOf_42 : decode cX0_makeOf 42 = .ok (.iload_n 2, 1) := by decide +kernel
theorem dX0_makeOf_43 : decode cX0_makeOf 43 = .ok (.idiv, 1) := by decide +kernel
theorem dX0_makeOf_44 : decode cX0_makeOf 44 = .ok (.imul, 1) := by decide +kernel
theorem dX0_makeOf_45 : decode cX0_makeOf 45 = .ok (.iload_n 3, 1) := by decide +kernel
theorem dX0_makeOf_46 : decode cX0_makeOf 46 = .ok (.iconst 1, 1) := by decide +kernel
theorem dX0_makeOf_47 : decode cX0_makeOf 47 = .ok (.isub, 1) := by decide +kernel
theorem dX0_makeOf_48 : decode cX0_makeOf 48 = .ok (.aload_n 1, 1) := by decide +kernel
theorem dX0_makeOf_49 : decode cX0_makeOf 49 = .ok (.getfield 66, 3) := by decide +kernel
theorem dX0_makeOf_52 : decode cX0_makeOf 52 = .ok (.imul, 1) := by decide +kernel
theorem dX0_makeOf_53 : decode cX0_makeOf 53 = .ok (.iadd, 1) := by decide +kernel
theorem dX0_makeOf_54 : decode cX0_makeOf 54 = .ok (.putfield 47, 3) := by decide +kernel
theorem dX0_makeOf_57 : decode cX0_makeOf 57 = .ok (.iconst 0, 1) := by decide +kernel
theorem dX0_makeOf_58 : decode cX0_makeOf 58 = .ok (.istore 4, 2) := by decide +kernel
theorem dX0_makeOf_60 : decode cX0_makeOf 60 = .ok (.iconst 0, 1) := by decide +kernel
theorem dX0_makeOf_61 : decode cX0_makeOf 61 = .ok (.istore 5, 2) := by decide +kernel
theorem dX0_makeOf_63 : decode cX0_makeOf 63 = .ok (.iload 5, 2) := by decide +kernel
theorem dX0_makeOf_65 : decode cX0_makeOf 65 = .ok (.iload_n 2, 1) := by decide +kernel
theorem dX0_makeOf_66 : decode cX0_makeOf 66 = .ok (.if_icmp .ge 104, 3) := by decide +kernel
theorem dX0_makeOf_69 : decode cX0_makeOf 69 = .ok (.iload 5, 2) := by decide +kernel
theorem dX0_makeOf_71 : decode cX0_makeOf 71 = .ok (.iload_n 2, 1) := by decide +kernel
theorem dX0_makeOf_72 : decode cX0_makeOf 72 = .ok (.iconst 1, 1) := by decide +kernel
theorem dX0_makeOf_73 : decode cX0_makeOf 73 = .ok (.isub, 1) := by decide +kernel
theorem dX0_makeOf_74 : decode cX0_makeOf 74 = .ok (.if_icmp .ne 12, 3) := by decide +kernel
theorem dX0_makeOf_77 : decode cX0_makeOf 77 = .ok (.aload_n 1, 1) := by decide +kernel
theorem dX0_makeOf_78 : decode cX0_makeOf 78 = .ok (.getfield 71, 3) := by decide +kernel
theorem dX0_makeOf_81 : decode cX0_makeOf 81 = .ok (.iconst 1, 1) := by decide +kernel
theorem dX0_makeOf_82 : decode cX0_makeOf 82 = .ok (.isub, 1) := by decide +kernel
theorem dX0_makeOf_83 : decode cX0_makeOf 83 = .ok (.goto 20, 3) := by decide +kernel
theorem dX0_makeOf_86 : decode cX0_makeOf 86 = .ok (.aload_n 0, 1) := by decide +kernel
theorem dX0_makeOf_87 : decode cX0_makeOf 87 = .ok (.iload 5, 2) := by decide +kernel
theorem dX0_makeOf_89 : decode cX0_makeOf 89 = .ok (.iconst 1, 1) := by decide +kernel
theorem dX0_makeOf_90 : decode cX0_makeOf 90 = .ok (.iadd, 1) := by decide +kernel
theorem dX0_makeOf_91 : decode cX0_makeOf 91 = .ok (.aload_n 0, 1) := by decide +kernel
theorem dX0_makeOf_92 : decode cX0_makeOf 92 = .ok (.getfield 44, 3) := by decide +kernel
theorem dX0_makeOf_95 : decode cX0_makeOf 95 = .ok (.imul, 1) := by decide +kernel
theorem dX0_makeOf_96 : decode cX0_makeOf 96 = .ok (.iload_n 2, 1) := by decide +kernel
theorem dX0_makeOf_97 : decode cX0_makeOf 97 = .ok (.idiv, 1) := by decide +kernel
theorem dX0_makeOf_98 : decode cX0_makeOf 98 = .ok (.iconst 1, 1) := by decide +kernel
theorem dX0_makeOf_99 : decode cX0_makeOf 99 = .ok (.isub, 1) := by decide +kernel
theorem dX0_makeOf_100 : decode cX0_makeOf 100 = .ok (.invokevirtual 74, 3) := by decide +kernel
theorem dX0_makeOf_103 : decode cX0_makeOf 103 = .ok (.istore 6, 2) := by decide +kernel
theorem dX0_makeOf_105 : decode cX0_makeOf 105 = .ok (.aload_n 0, 1) := by decide +kernel
theorem dX0_makeOf_106 : decode cX0_makeOf 106 = .ok (.getfield 22, 3) := by decide +kernel
theorem dX0_makeOf_109 : decode cX0_makeOf 109 = .ok (.iload 5, 2) := by decide +kernel
theorem dX0_makeOf_111 : decode cX0_makeOf 111 = .ok (.iload 5, 2) := by decide +kernel
theorem dX0_makeOf_113 : decode cX0_makeOf 113 = .ok (.iload_n 2, 1) := by decide +kernel
theorem dX0_makeOf_114 : decode cX0_makeOf 114 = .ok (.iconst 1, 1) := by decide +kernel
theorem dX0_makeOf_115 : decode cX0_makeOf 115 = .ok (.isub, 1) := by decide +kernel
theorem dX0_makeOf_116 : decode cX0_makeOf 116 = .ok (.if_icmp .ne 7, 3) := by decide +kernel
theorem dX0_makeOf_119 : decode cX0_makeOf 119 = .ok (.iconst (-1), 1) := by decide +kernel
theorem dX0_makeOf_120 : decode cX0_makeOf 120 = .ok (.goto 9, 3) := by decide +kernel
theorem dX0_makeOf_123 : decode cX0_makeOf 123 = .ok (.aload_n 1, 1) := by decide +kernel
theorem dX0_makeOf_124 : decode cX0_makeOf 124 = .ok (.iload 6, 2) := by decide +kernel
theorem dX0_makeOf_126 : decode cX0_makeOf 126 = .ok (.invokevirtual 78, 3) := by decide +kernel
theorem dX0_makeOf_129 : decode cX0_makeOf 129 = .ok (.iastore, 1) := by decide +kernel
theorem dX0_makeOf_130 : decode cX0_makeOf 130 = .ok (.aload_n 0, 1) := by decide +kernel
theorem dX0_makeOf_131 : decode cX0_makeOf 131 = .ok (.getfield 19, 3) := by decide +kernel
theorem dX0_makeOf_134 : decode cX0_makeOf 134 = .ok (.iload 5, 2) := by decide +kernel
theorem dX0_makeOf_136 : decode cX0_makeOf 136 = .ok (.iload 6, 2) := by decide +kernel
theorem dX0_makeOf_138 : decode cX0_makeOf 138 = .ok (.iconst 1, 1) := by decide +kernel
theorem dX0_makeOf_139 : decode cX0_makeOf 139 = .ok (.iadd, 1) := by decide +kernel
theorem dX0_makeOf_140 : decode cX0_makeOf 140 = .ok (.iload 4, 2) := by decide +kernel
theorem dX0_makeOf_142 : decode cX0_makeOf 142 = .ok (.isub, 1) := by decide +kernel
theorem dX0_makeOf_143 : decode cX0_makeOf 143 = .ok (.iastore, 1) := by decide +kernel
theorem dX0_makeOf_144 : decode cX0_makeOf 144 = .ok (.iload 6, 2) := by decide +kernel
theorem dX0_makeOf_146 : decode cX0_makeOf 146 = .ok (.iconst 1, 1) := by decide +kernel
theorem dX0_makeOf_147 : decode cX0_makeOf 147 = .ok (.iadd, 1) := by decide +kernel
theorem dX0_makeOf_148 : decode cX0_makeOf 148 = .ok (.istore 4, 2) := by decide +kernel
theorem dX0_makeOf_150 : decode cX0_makeOf 150 = .ok (.aload_n 0, 1) := by decide +kernel
theorem dX0_makeOf_151 : decode cX0_makeOf 151 = .ok (.getfield 31, 3) := by decide +kernel
theorem dX0_makeOf_154 : decode cX0_makeOf 154 = .ok (.iload 5, 2) := by decide +kernel
theorem dX0_makeOf_156 : decode cX0_makeOf 156 = .ok (.iconst 0, 1) := by decide +kernel
theorem dX0_makeOf_157 : decode cX0_makeOf 157 = .ok (.iastore, 1) := by decide +kernel
theorem dX0_makeOf_158 : decode cX0_makeOf 158 = .ok (.aload_n 0, 1) := by decide +kernel
theorem dX0_makeOf_159 : decode cX0_makeOf 159 = .ok (.iload 5, 2) := by decide +kernel
theorem dX0_makeOf_161 : decode cX0_makeOf 161 = .ok (.invokevirtual 81, 3) := by decide +kernel
theorem dX0_makeOf_164 : decode cX0_makeOf 164 = .ok (.iinc 5 1, 3) := by decide +kernel
theorem dX0_makeOf_167 : decode cX0_makeOf 167 = .ok (.goto (-104), 3) := by decide +kernel
theorem dX0_makeOf_170 : decode cX0_makeOf 170 = .ok (.return_, 1) := by decide +kernel
set_option maxRecDepth 20000 in
theorem ggX0_lastStanding_X6_isIn : GoodIn wsX0_lastStanding wsX6_isIn := goodIn_r _ [5] (by decide +kernel) (by decide +kernel)
set_option maxRecDepth 20000 in
theorem gX0_lastStanding_X6_isIn_n85 : GoodIn wsX0_lastStanding (wsX6_isIn) := ggX0_lastStanding_X6_isIn
theorem dX0_lastStanding_0 : decode cX0_lastStanding 0 = .ok (.iload_n 1, 1) := by decide +kernel
theorem dX0_lastStanding_1 : decode cX0_lastStanding 1 = .ok (.iconst 0, 1) := by decide +kernel
theorem dX0_lastStanding_2 : decode cX0_lastStanding 2 = .ok (.aload_n 0, 1) := by decide +kernel
theorem dX0_lastStanding_3 : decode cX0_lastStanding 3 = .ok (.getfield 44, 3) := by decide +kernel
theorem dX0_lastStanding_6 : decode cX0_lastStanding 6 = .ok (.iconst 1, 1) := by decide +kernel
theorem dX0_lastStanding_7 : decode cX0_lastStanding 7 = .ok (.isub, 1) := by decide +kernel
theorem dX0_lastStanding_8 : decode cX0_lastStanding 8 = .ok (.invokestatic 85, 3) := by decide +kernel
theorem dX0_lastStanding_11 : decode cX0_lastStanding 11 = .ok (.ifCond .eq 12, 3) := by decide +kernel
theorem dX0_lastStanding_14 : decode cX0_lastStanding 14 = .ok (.aload_n 0, 1) := by decide +kernel
theorem dX0_lastStanding_15 : decode cX0_lastStanding 15 = .ok (.getfield 15, 3) := by decide +kernel
theorem dX0_lastStanding_18 : decode cX0_lastStanding 18 = .ok (.iload_n 1, 1) := by decide +kernel
theorem dX0_lastStanding_19 : decode cX0_lastStanding 19 = .ok (.iaload, 1) := by decide +kernel
theorem dX0_lastStanding_20 : decode cX0_lastStanding 20 = .ok (.goto 4, 3) := by decide +kernel
theorem dX0_lastStanding_23 : decode cX0_lastStanding 23 = .ok (.iconst (-1), 1) := by decide +kernel
theorem dX0_lastStanding_24 : decode cX0_lastStanding 24 = .ok (.ireturn, 1) := by decide +kernel
set_option maxRecDepth 20000 in
theorem ggX0_takeSamples_X5_sizeOf : GoodIn wsX0_takeSamples wsX5_sizeOf := goodIn_r _ [8, 9, 10, 11, 12, 7, 13, 14, 15, 16, 17, 45, 46, 47, 48, 49, 50, 51, 52, 53, 54] (by decide +kernel) (by decide +kernel)
set_option maxRecDepth 20000 in
theorem gX0_takeSamples_X5_sizeOf : GoodIn wsX0_takeSamples (wsV RX0 89 RX5 yX5_sizeOf wsX5_sizeOf) := goodIn_app (goodIn_of _ (by decide +kernel)) ggX0_takeSamples_X5_sizeOf
set_option maxRecDepth 20000 in
theorem ggX0_takeSamples_X5_rowIn : GoodIn wsX0_takeSamples wsX5_rowIn := goodIn_r _ [21, 22, 9, 23, 5, 6, 7, 8, 10, 11, 12, 13, 14, 15, 16, 17, 45, 46, 47, 48, 49, 50, 51, 52, 53, 54] (by decide +kernel) (by decide +kernel)
set_option maxRecDepth 20000 in
theorem gX0_takeSamples_X5_rowIn : GoodIn wsX0_takeSamples (wsV RX0 92 RX5 yX5_rowIn wsX5_rowIn) := goodIn_app (goodIn_of _ (by decide +kernel)) ggX0_takeSamples_X5_rowIn
set_option maxRecDepth 20000 in
theorem ggX0_takeSamples_X5_standingOf : GoodIn wsX0_takeSamples wsX5_standingOf := goodIn_r _ [27, 28, 29, 15, 16, 17, 45, 46, 47, 48, 49, 50, 51, 52, 53, 54] (by decide +kernel) (by decide +kernel)
set_option maxRecDepth 20000 in
theorem gX0_takeSamples_X5_standingOf : GoodIn wsX0_takeSamples (wsV RX0 96 RX5 yX5_standingOf wsX5_standingOf) := goodIn_app (goodIn_of _ (by decide +kernel)) ggX0_takeSamples_X5_standingOf
theorem dX0_takeSamples_0 : decode cX0_takeSamples 0 = .ok (.iconst 0, 1) := by decide +kernel
theorem dX0_takeSamples_1 : decode cX0_takeSamples 1 = .ok (.istore_n 3, 1) := by decide +kernel
theorem dX0_takeSamples_2 : decode cX0_takeSamples 2 = .ok (.iload_n 3, 1) := by decide +kernel
theorem dX0_takeSamples_3 : decode cX0_takeSamples 3 = .ok (.sipush 400, 3) := by decide +kernel
theorem dX0_takeSamples_6 : decode cX0_takeSamples 6 = .ok (.if_icmp .ge 16, 3) := by decide +kernel
theorem dX0_takeSamples_9 : decode cX0_takeSamples 9 = .ok (.aload_n 0, 1) := by decide +kernel
theorem dX0_takeSamples_10 : decode cX0_takeSamples 10 = .ok (.getfield 9, 3) := by decide +kernel
theorem dX0_takeSamples_13 : decode cX0_takeSamples 13 = .ok (.iload_n 3, 1) := by decide +kernel
theorem dX0_takeSamples_14 : decode cX0_takeSamples 14 = .ok (.iconst 0, 1) := by decide +kernel
theorem dX0_takeSamples_15 : decode cX0_takeSamples 15 = .ok (.bastore, 1) := by decide +kernel
theorem dX0_takeSamples_16 : decode cX0_takeSamples 16 = .ok (.iinc 3 1, 3) := by decide +kernel
theorem dX0_takeSamples_19 : decode cX0_takeSamples 19 = .ok (.goto (-17), 3) := by decide +kernel
theorem dX0_takeSamples_22 : decode cX0_takeSamples 22 = .ok (.iconst 0, 1) := by decide +kernel
theorem dX0_takeSamples_23 : decode cX0_takeSamples 23 = .ok (.istore_n 3, 1) := by decide +kernel
theorem dX0_takeSamples_24 : decode cX0_takeSamples 24 = .ok (.iload_n 3, 1) := by decide +kernel
theorem dX0_takeSamples_25 : decode cX0_takeSamples 25 = .ok (.aload_n 1, 1) := by decide +kernel
theorem dX0_takeSamples_26 : decode cX0_takeSamples 26 = .ok (.getfield 66, 3) := by decide +kernel
theorem dX0_takeSamples_29 : decode cX0_takeSamples 29 = .ok (.if_icmp .ge 64, 3) := by decide +kernel
theorem dX0_takeSamples_32 : decode cX0_takeSamples 32 = .ok (.aload_n 1, 1) := by decide +kernel
theorem dX0_takeSamples_33 : decode cX0_takeSamples 33 = .ok (.iload_n 3, 1) := by decide +kernel
theorem dX0_takeSamples_34 : decode cX0_takeSamples 34 = .ok (.invokevirtual 89, 3) := by decide +kernel
theorem dX0_takeSamples_37 : decode cX0_takeSamples 37 = .ok (.istore 4, 2) := by decide +kernel
theorem dX0_takeSamples_39 : decode cX0_takeSamples 39 = .ok (.iload_n 2, 1) := by decide +kernel
theorem dX0_takeSamples_40 : decode cX0_takeSamples 40 = .ok (.iconst 1, 1) := by decide +kernel
theorem dX0_takeSamples_41 : decode cX0_takeSamples 41 = .ok (.isub, 1) := by decide +kernel
theorem dX0_takeSamples_42 : decode cX0_takeSamples 42 = .ok (.istore 5, 2) := by decide +kernel
theorem dX0_takeSamples_44 : decode cX0_takeSamples 44 = .ok (.iload 5, 2) := by decide +kernel
theorem dX0_takeSamples_46 : decode cX0_takeSamples 46 = .ok (.iload 4, 2) := by decide +kernel
theorem dX0_takeSamples_48 : decode cX0_takeSamples 48 = .ok (.if_icmp .ge 39, 3) := by decide +kernel
theorem dX0_takeSamples_51 : decode cX0_takeSamples 51 = .ok (.aload_n 1, 1) := by decide +kernel
theorem dX0_takeSamples_52 : decode cX0_takeSamples 52 = .ok (.aload_n 1, 1) := by decide +kernel
theorem dX0_takeSamples_53 : decode cX0_takeSamples 53 = .ok (.iload_n 3, 1) := by decide +kernel
theorem dX0_takeSamples_54 : decode cX0_takeSamples 54 = .ok (.iload 5, 2) := by decide +kernel
theorem dX0_takeSamples_56 : decode cX0_takeSamples 56 = .ok (.invokevirtual 92, 3) := by decide +kernel
theorem dX0_takeSamples_59 : decode cX0_takeSamples 59 = .ok (.invokevirtual 96, 3) := by decide +kernel
theorem dX0_takeSamples_62 : decode cX0_takeSamples 62 = .ok (.istore 6, 2) := by decide +kernel
theorem dX0_takeSamples_64 : decode cX0_takeSamples 64 = .ok (.iload 6, 2) := by decide +kernel
theorem dX0_takeSamples_66 : decode cX0_takeSamples 66 = .ok (.iconst (-1), 1) := by decide +kernel
theorem dX0_takeSamples_67 : decode cX0_takeSamples 67 = .ok (.if_icmp .eq 11, 3) := by decide +kernel
theorem dX0_takeSamples_70 : decode cX0_takeSamples 70 = .ok (.aload_n 0, 1) := by decide +kernel
theorem dX0_takeSamples_71 : decode cX0_takeSamples 71 = .ok (.getfield 9, 3) := by decide +kernel
theorem dX0_takeSamples_74 : decode cX0_takeSamples 74 = .ok (.iload 6, 2) := by decide +kernel
theorem dX0_takeSamples_76 : decode cX0_takeSamples 76 = .ok (.iconst 1, 1) := by decide +kernel
theorem dX0_takeSamples_77 : decode cX0_takeSamples 77 = .ok (.bastore, 1) := by decide +kernel
theorem dX0_takeSamples_78 : decode cX0_takeSamples 78 = .ok (.iload 5, 2) := by decide +kernel
theorem dX0_takeSamples_80 : decode cX0_takeSamples 80 = .ok (.iload_n 2, 1) := by decide +kernel
theorem dX0_takeSamples_81 : decode cX0_takeSamples 81 = .ok (.iadd, 1) := by decide +kernel
theorem dX0_takeSamples_82 : decode cX0_takeSamples 82 = .ok (.istore 5, 2) := by decide +kernel
theorem dX0_takeSamples_84 : decode cX0_takeSamples 84 = .ok (.goto (-40), 3) := by decide +kernel
theorem dX0_takeSamples_87 : decode cX0_takeSamples 87 = .ok (.iinc 3 1, 3) := by decide +kernel
theorem dX0_takeSamples_90 : decode cX0_takeSamples 90 = .ok (.goto (-66), 3) := by decide +kernel
theorem dX0_takeSamples_93 : decode cX0_takeSamples 93 = .ok (.iconst 0, 1) := by decide +kernel
theorem dX0_takeSamples_94 : decode cX0_takeSamples 94 = .ok (.istore_n 3, 1) := by decide +kernel
theorem dX0_takeSamples_95 : decode cX0_takeSamples 95 = .ok (.iload_n 3, 1) := by decide +kernel
theorem dX0_takeSamples_96 : decode cX0_takeSamples 96 = .ok (.sipush 400, 3) := by decide +kernel
theorem dX0_takeSamples_99 : decode cX0_takeSamples 99 = .ok (.if_icmp .ge 38, 3) := by decide +kernel
theorem dX0_takeSamples_102 : decode cX0_takeSamples 102 = .ok (.aload_n 0, 1) := by decide +kernel
theorem dX0_takeSamples_103 : decode cX0_takeSamples 103 = .ok (.getfield 9, 3) := by decide +kernel
theorem dX0_takeSamples_106 : decode cX0_takeSamples 106 = .ok (.iload_n 3, 1) := by decide +kernel
theorem dX0_takeSamples_107 : decode cX0_takeSamples 107 = .ok (.baload, 1) := by decide +kernel
theorem dX0_takeSamples_108 : decode cX0_takeSamples 108 = .ok (.ifCond .eq 23, 3) := by decide +kernel
theorem dX0_takeSamples_111 : decode cX0_takeSamples 111 = .ok (.aload_n 0, 1) := by decide +kernel
theorem dX0_takeSamples_112 : decode cX0_takeSamples 112 = .ok (.getfield 15, 3) := by decide +kernel
theorem dX0_takeSamples_115 : decode cX0_takeSamples 115 = .ok (.aload_n 0, 1) := by decide +kernel
theorem dX0_takeSamples_116 : decode cX0_takeSamples 116 = .ok (.getfield 44, 3) := by decide +kernel
theorem dX0_takeSamples_119 : decode cX0_takeSamples 119 = .ok (.iload_n 3, 1) := by decide +kernel
theorem dX0_takeSamples_120 : decode cX0_takeSamples 120 = .ok (.iastore, 1) := by decide +kernel
theorem dX0_takeSamples_121 : decode cX0_takeSamples 121 = .ok (.aload_n 0, 1) := by decide +kernel
theorem dX0_takeSamples_122 : decode cX0_takeSamples 122 = .ok (.dup, 1) := by decide +kernel
theorem dX0_takeSamples_123 : decode cX0_takeSamples 123 = .ok (.getfield 44, 3) := by decide +kernel
theorem dX0_takeSamples_126 : decode cX0_takeSamples 126 = .ok (.iconst 1, 1) := by decide +kernel
theorem dX0_takeSamples_127 : decode cX0_takeSamples 127 = .ok (.iadd, 1) := by decide +kernel
theorem dX0_takeSamples_128 : decode cX0_takeSamples 128 = .ok (.putfield 44, 3) := by decide +kernel
theorem dX0_takeSamples_131 : decode cX0_takeSamples 131 = .ok (.iinc 3 1, 3) := by decide +kernel
theorem dX0_takeSamples_134 : decode cX0_takeSamples 134 = .ok (.goto (-39), 3) := by decide +kernel
theorem dX0_takeSamples_137 : decode cX0_takeSamples 137 = .ok (.return_, 1) := by decide +kernel
set_option maxRecDepth 20000 in
theorem ggX0_layOn_X0_moveFrom : GoodIn wsX0_layOn wsX0_moveFrom := goodIn_r _ [7, 1, 2, 8, 9, 10, 6, 11, 12, 13, 14, 15, 16, 17, 18, 19, 20, 21, 22, 23, 24, 25, 26, 27, 28, 29, 30, 31, 32, 33, 34, 35, 36, 37, 38, 39] (by decide +kernel) (by decide +kernel)
set_option maxRecDepth 20000 in
theorem gX0_layOn_X0_moveFrom : GoodIn wsX0_layOn (wsV RX0 104 RX0 yX0_moveFrom wsX0_moveFrom) := goodIn_app (goodIn_of _ (by decide +kernel)) ggX0_layOn_X0_moveFrom
theorem dX0_layOn_0 : decode cX0_layOn 0 = .ok (.iconst 0, 1) := by decide +kernel
theorem dX0_layOn_1 : decode cX0_layOn 1 = .ok (.istore_n 2, 1) := by decide +kernel
theorem dX0_layOn_2 : decode cX0_layOn 2 = .ok (.iload_n 2, 1) := by decide +kernel
theorem dX0_layOn_3 : decode cX0_layOn 3 = .ok (.aload_n 0, 1) := by decide +kernel
theorem dX0_layOn_4 : decode cX0_layOn 4 = .ok (.getfield 40, 3) := by decide +kernel
theorem dX0_layOn_7 : decode cX0_layOn 7 = .ok (.if_icmp .ge 16, 3) := by decide +kernel
theorem dX0_layOn_10 : decode cX0_layOn 10 = .ok (.aload_n 0, 1) := by decide +kernel
theorem dX0_layOn_11 : decode cX0_layOn 11 = .ok (.getfield 25, 3) := by decide +kernel
theorem dX0_layOn_14 : decode cX0_layOn 14 = .ok (.iload_n 2, 1) := by decide +kernel
theorem dX0_layOn_15 : decode cX0_layOn 15 = .ok (.iload_n 2, 1) := by decide +kernel
theorem dX0_layOn_16 : decode cX0_layOn 16 = .ok (.iastore, 1) := by decide +kernel
theorem dX0_layOn_17 : decode cX0_layOn 17 = .ok (.iinc 2 1, 3) := by decide +kernel
theorem dX0_layOn_20 : decode cX0_layOn 20 = .ok (.goto (-18), 3) := by decide +kernel
theorem dX0_layOn_23 : decode cX0_layOn 23 = .ok (.iconst 0, 1) := by decide +kernel
theorem dX0_layOn_24 : decode cX0_layOn 24 = .ok (.istore_n 2, 1) := by decide +kernel
theorem dX0_layOn_25 : decode cX0_layOn 25 = .ok (.iload_n 2, 1) := by decide +kernel
theorem dX0_layOn_26 : decode cX0_layOn 26 = .ok (.bipush 8, 2) := by decide +kernel
theorem dX0_layOn_28 : decode cX0_layOn 28 = .ok (.if_icmp .ge 25, 3) := by decide +kernel
theorem dX0_layOn_31 : decode cX0_layOn 31 = .ok (.aload_n 1, 1) := by decide +kernel
theorem dX0_layOn_32 : decode cX0_layOn 32 = .ok (.getfield 99, 3) := by decide +kernel
theorem dX0_layOn_35 : decode cX0_layOn 35 = .ok (.iload_n 2, 1) := by decide +kernel
theorem dX0_layOn_36 : decode cX0_layOn 36 = .ok (.baload, 1) := by decide +kernel
theorem dX0_layOn_37 : decode cX0_layOn 37 = .ok (.ifCond .ne 10, 3) := by decide +kernel
theorem dX0_layOn_40 : decode cX0_layOn 40 = .ok (.aload_n 0, 1) := by decide +kernel
theorem dX0_layOn_41 : decode cX0_layOn 41 = .ok (.iload_n 2, 1) := by decide +kernel
theorem dX0_layOn_42 : decode cX0_layOn 42 = .ok (.aload_n 1, 1) := by decide +kernel
theorem dX0_layOn_43 : decode cX0_layOn 43 = .ok (.invokevirtual 104, 3) := by decide +kernel
theorem dX0_layOn_46 : decode cX0_layOn 46 = .ok (.pop, 1) := by decide +kernel
theorem dX0_layOn_47 : decode cX0_layOn 47 = .ok (.iinc 2 1, 3) := by decide +kernel
theorem dX0_layOn_50 : decode cX0_layOn 50 = .ok (.goto (-25), 3) := by decide +kernel
theorem dX0_layOn_53 : decode cX0_layOn 53 = .ok (.return_, 1) := by decide +kernel
set_option maxRecDepth 20000 in
theorem ggX0_moveFrom_X0_beginAnew : GoodIn wsX0_moveFrom wsX0_beginAnew := goodIn_r _ [7, 8, 9, 19, 20, 21, 22, 23, 24, 25, 26, 27, 28, 29, 30, 31, 32, 33] (by decide +kernel) (by decide +kernel)
set_option maxRecDepth 20000 in
theorem gX0_moveFrom_X0_beginAnew : GoodIn wsX0_moveFrom (wsV RX0 81 RX0 yX0_beginAnew wsX0_beginAnew) := goodIn_app (goodIn_of _ (by decide +kernel)) ggX0_moveFrom_X0_beginAnew
set_option maxRecDepth 20000 in
theorem ggX0_moveFrom_X0_leastLaden : GoodIn wsX0_moveFrom wsX0_leastLaden := goodIn_r _ [13, 14, 15, 16, 6, 17, 1, 2, 18, 8, 34, 35, 19, 20, 21, 22, 23, 24, 25, 26, 27, 28, 29, 30, 31, 32, 33] (by decide +kernel) (by decide +kernel)
set_option maxRecDepth 20000 in
theorem gX0_moveFrom_X0_leastLaden : GoodIn wsX0_moveFrom (wsV RX0 108 RX0 yX0_leastLaden wsX0_leastLaden) := goodIn_app (goodIn_of _ (by decide +kernel)) ggX0_moveFrom_X0_leastLaden
theorem dX0_moveFrom_0 : decode cX0_moveFrom 0 = .ok (.iconst 0, 1) := by decide +kernel
theorem dX0_moveFrom_1 : decode cX0_moveFrom 1 = .ok (.istore_n 3, 1) := by decide +kernel
theorem dX0_moveFrom_2 : decode cX0_moveFrom 2 = .ok (.iconst 0, 1) := by decide +kernel
theorem dX0_moveFrom_3 : decode cX0_moveFrom 3 = .ok (.istore 4, 2) := by decide +kernel
theorem dX0_moveFrom_5 : decode cX0_moveFrom 5 = .ok (.iload 4, 2) := by decide +kernel
theorem dX0_moveFrom_7 : decode cX0_moveFrom 7 = .ok (.aload_n 0, 1) := by decide +kernel
theorem dX0_moveFrom_8 : decode cX0_moveFrom 8 = .ok (.getfield 40, 3) := by decide +kernel
theorem dX0_moveFrom_11 : decode cX0_moveFrom 11 = .ok (.if_icmp .ge 41, 3) := by decide +kernel
theorem dX0_moveFrom_14 : decode cX0_moveFrom 14 = .ok (.aload_n 0, 1) := by decide +kernel
theorem dX0_moveFrom_15 : decode cX0_moveFrom 15 = .ok (.getfield 25, 3) := by decide +kernel
theorem dX0_moveFrom_18 : decode cX0_moveFrom 18 = .ok (.iload 4, 2) := by decide +kernel
theorem dX0_moveFrom_20 : decode cX0_moveFrom 20 = .ok (.iaload, 1) := by decide +kernel
theorem dX0_moveFrom_21 : decode cX0_moveFrom 21 = .ok (.iload_n 1, 1) := by decide +kernel
theorem dX0_moveFrom_22 : decode cX0_moveFrom 22 = .ok (.if_icmp .ne 24, 3) := by decide +kernel
theorem dX0_moveFrom_25 : decode cX0_moveFrom 25 = .ok (.aload_n 0, 1) := by decide +kernel
theorem dX0_moveFrom_26 : decode cX0_moveFrom 26 = .ok (.iload 4, 2) := by decide +kernel
theorem dX0_moveFrom_28 : decode cX0_moveFrom 28 = .ok (.invokevirtual 81, 3) := by decide +kernel
theorem dX0_moveFrom_31 : decode cX0_moveFrom 31 = .ok (.aload_n 0, 1) := by decide +kernel
theorem dX0_moveFrom_32 : decode cX0_moveFrom 32 = .ok (.getfield 25, 3) := by decide +kernel
theorem dX0_moveFrom_35 : decode cX0_moveFrom 35 = .ok (.iload 4, 2) := by decide +kernel
theorem dX0_moveFrom_37 : decode cX0_moveFrom 37 = .ok (.aload_n 0, 1) := by decide +kernel
theorem dX0_moveFrom_38 : decode cX0_moveFrom 38 = .ok (.aload_n 2, 1) := by decide +kernel
theorem dX0_moveFrom_39 : decode cX0_moveFrom 39 = .ok (.invokevirtual 108, 3) := by decide +kernel
theorem dX0_moveFrom_42 : decode cX0_moveFrom 42 = .ok (.iastore, 1) := by decide +kernel
theorem dX0_moveFrom_43 : decode cX0_moveFrom 43 = .ok (.iinc 3 1, 3) := by decide +kernel
theorem dX0_moveFrom_46 : decode cX0_moveFrom 46 = .ok (.iinc 4 1, 3) := by decide +kernel
theorem dX0_moveFrom_49 : decode cX0_moveFrom 49 = .ok (.goto (-44), 3) := by decide +kernel
theorem dX0_moveFrom_52 : decode cX0_moveFrom 52 = .ok (.iload_n 3, 1) := by decide +kernel
theorem dX0_moveFrom_53 : decode cX0_moveFrom 53 = .ok (.ireturn, 1) := by decide +kernel
theorem dX0_bringTo_0 : decode cX0_bringTo 0 = .ok (.iconst 0, 1) := by decide +kernel
theorem dX0_bringTo_1 : decode cX0_bringTo 1 = .ok (.istore_n 2, 1) := by decide +kernel
theorem dX0_bringTo_2 : decode cX0_bringTo 2 = .ok (.iconst 0, 1) := by decide +kernel
theorem dX0_bringTo_3 : decode cX0_bringTo 3 = .ok (.istore_n 3, 1) := by decide +kernel
theorem dX0_bringTo_4 : decode cX0_bringTo 4 = .ok (.iload_n 3, 1) := by decide +kernel
theorem dX0_bringTo_5 : decode cX0_bringTo 5 = .ok (.aload_n 0, 1) := by decide +kernel
theorem dX0_bringTo_6 : decode cX0_bringTo 6 = .ok (.getfield 40, 3) := by decide +kernel
theorem dX0_bringTo_9 : decode cX0_bringTo 9 = .ok (.if_icmp .ge 29, 3) := by decide +kernel
theorem dX0_bringTo_12 : decode cX0_bringTo 12 = .ok (.aload_n 0, 1) := by decide +kernel
theorem dX0_bringTo_13 : decode cX0_bringTo 13 = .ok (.getfield 25, 3) := by decide +kernel
theorem dX0_bringTo_16 : decode cX0_bringTo 16 = .ok (.iload_n 3, 1) := by decide +kernel
theorem dX0_bringTo_17 : decode cX0_bringTo 17 = .ok (.iaload, 1) := by decide +kernel
theorem dX0_bringTo_18 : decode cX0_bringTo 18 = .ok (.iconst (-1), 1) := by decide +kernel
theorem dX0_bringTo_19 : decode cX0_bringTo 19 = .ok (.if_icmp .ne 13, 3) := by decide +kernel
theorem dX0_bringTo_22 : decode cX0_bringTo 22 = .ok (.aload_n 0, 1) := by decide +kernel
theorem dX0_bringTo_23 : decode cX0_bringTo 23 = .ok (.getfield 25, 3) := by decide +kernel
theorem dX0_bringTo_26 : decode cX0_bringTo 26 = .ok (.iload_n 3, 1) := by decide +kernel
theorem dX0_bringTo_27 : decode cX0_bringTo 27 = .ok (.iload_n 1, 1) := by decide +kernel
theorem dX0_bringTo_28 : decode cX0_bringTo 28 = .ok (.iastore, 1) := by decide +kernel
theorem dX0_bringTo_29 : decode cX0_bringTo 29 = .ok (.iinc 2 1, 3) := by decide +kernel
theorem dX0_bringTo_32 : decode cX0_bringTo 32 = .ok (.iinc 3 1, 3) := by decide +kernel
theorem dX0_bringTo_35 : decode cX0_bringTo 35 = .ok (.goto (-31), 3) := by decide +kernel
theorem dX0_bringTo_38 : decode cX0_bringTo 38 = .ok (.iload_n 2, 1) := by decide +kernel
theorem dX0_bringTo_39 : decode cX0_bringTo 39 = .ok (.ireturn, 1) := by decide +kernel
theorem dX0_beginAnew_0 : decode cX0_beginAnew 0 = .ok (.aload_n 0, 1) := by decide +kernel
theorem dX0_beginAnew_1 : decode cX0_beginAnew 1 = .ok (.getfield 28, 3) := by decide +kernel
theorem dX0_beginAnew_4 : decode cX0_beginAnew 4 = .ok (.iload_n 1, 1) := by decide +kernel
theorem dX0_beginAnew_5 : decode cX0_beginAnew 5 = .ok (.iconst 0, 1) := by decide +kernel
theorem dX0_beginAnew_6 : decode cX0_beginAnew 6 = .ok (.iastore, 1) := by decide +kernel
theorem dX0_beginAnew_7 : decode cX0_beginAnew 7 = .ok (.aload_n 0, 1) := by decide +kernel
theorem dX0_beginAnew_8 : decode cX0_beginAnew 8 = .ok (.getfield 34, 3) := by decide +kernel
theorem dX0_beginAnew_11 : decode cX0_beginAnew 11 = .ok (.iload_n 1, 1) := by decide +kernel
theorem dX0_beginAnew_12 : decode cX0_beginAnew 12 = .ok (.iconst 0, 1) := by decide +kernel
theorem dX0_beginAnew_13 : decode cX0_beginAnew 13 = .ok (.bastore, 1) := by decide +kernel
theorem dX0_beginAnew_14 : decode cX0_beginAnew 14 = .ok (.return_, 1) := by decide +kernel
set_option maxRecDepth 20000 in
theorem ggX0_leastLaden_X0_leftOn : GoodIn wsX0_leastLaden wsX0_leftOn := goodIn_r _ [5, 6, 7, 8, 9, 12, 13, 14, 15, 16, 17, 18, 19, 20, 21, 22, 23, 24, 25, 26] (by decide +kernel) (by decide +kernel)
set_option maxRecDepth 20000 in
theorem gX0_leastLaden_X0_leftOn : GoodIn wsX0_leastLaden (wsV RX0 112 RX0 yX0_leftOn wsX0_leftOn) := goodIn_app (goodIn_of _ (by decide +kernel)) ggX0_leastLaden_X0_leftOn
theorem dX0_leastLaden_0 : decode cX0_leastLaden 0 = .ok (.iconst (-1), 1) := by decide +kernel
theorem dX0_leastLaden_1 : decode cX0_leastLaden 1 = .ok (.istore_n 2, 1) := by decide +kernel
theorem dX0_leastLaden_2 : decode cX0_leastLaden 2 = .ok (.iconst 0, 1) := by decide +kernel
theorem dX0_leastLaden_3 : decode cX0_leastLaden 3 = .ok (.istore_n 3, 1) := by decide +kernel
theorem dX0_leastLaden_4 : decode cX0_leastLaden 4 = .ok (.iconst 0, 1) := by decide +kernel
theorem dX0_leastLaden_5 : decode cX0_leastLaden 5 = .ok (.istore 4, 2) := by decide +kernel
theorem dX0_leastLaden_7 : decode cX0_leastLaden 7 = .ok (.iload 4, 2) := by decide +kernel
theorem dX0_leastLaden_9 : decode cX0_leastLaden 9 = .ok (.bipush 8, 2) := by decide +kernel
theorem dX0_leastLaden_11 : decode cX0_leastLaden 11 = .ok (.if_icmp .ge 47, 3) := by decide +kernel
theorem dX0_leastLaden_14 : decode cX0_leastLaden 14 = .ok (.aload_n 1, 1) := by decide +kernel
theorem dX0_leastLaden_15 : decode cX0_leastLaden 15 = .ok (.getfield 99, 3) := by decide +kernel
theorem dX0_leastLaden_18 : decode cX0_leastLaden 18 = .ok (.iload 4, 2) := by decide +kernel
theorem dX0_leastLaden_20 : decode cX0_leastLaden 20 = .ok (.baload, 1) := by decide +kernel
theorem dX0_leastLaden_21 : decode cX0_leastLaden 21 = .ok (.ifCond .ne 6, 3) := by decide +kernel
theorem dX0_leastLaden_24 : decode cX0_leastLaden 24 = .ok (.goto 28, 3) := by decide +kernel
theorem dX0_leastLaden_27 : decode cX0_leastLaden 27 = .ok (.aload_n 0, 1) := by decide +kernel
theorem dX0_leastLaden_28 : decode cX0_leastLaden 28 = .ok (.iload 4, 2) := by decide +kernel
theorem dX0_leastLaden_30 : decode cX0_leastLaden 30 = .ok (.invokevirtual 112, 3) := by decide +kernel
theorem dX0_leastLaden_33 : decode cX0_leastLaden 33 = .ok (.istore 5, 2) := by decide +kernel
theorem dX0_leastLaden_35 : decode cX0_leastLaden 35 = .ok (.iload_n 2, 1) := by decide +kernel
theorem dX0_leastLaden_36 : decode cX0_leastLaden 36 = .ok (.iconst (-1), 1) := by decide +kernel
theorem dX0_leastLaden_37 : decode cX0_leastLaden 37 = .ok (.if_icmp .eq 9, 3) := by decide +kernel
theorem dX0_leastLaden_40 : decode cX0_leastLaden 40 = .ok (.iload 5, 2) := by decide +kernel
theorem dX0_leastLaden_42 : decode cX0_leastLaden 42 = .ok (.iload_n 3, 1) := by decide +kernel
theorem dX0_leastLaden_43 : decode cX0_leastLaden 43 = .ok (.if_icmp .ge 9, 3) := by decide +kernel
theorem dX0_leastLaden_46 : decode cX0_leastLaden 46 = .ok (.iload 4, 2) := by decide +kernel
theorem dX0_leastLaden_48 : decode cX0_leastLaden 48 = .ok (.istore_n 2, 1) := by decide +kernel
theorem dX0_leastLaden_49 : decode cX0_leastLaden 49 = .ok (.iload 5, 2) := by decide +kernel
theorem dX0_leastLaden_51 : decode cX0_leastLaden 51 = .ok (.istore_n 3, 1) := by decide +kernel
theorem dX0_leastLaden_52 : decode cX0_leastLaden 52 = .ok (.iinc 4 1, 3) := by decide +kernel
theorem dX0_leastLaden_55 : decode cX0_leastLaden 55 = .ok (.goto (-48), 3) := by decide +kernel
theorem dX0_leastLaden_58 : decode cX0_leastLaden 58 = .ok (.iload_n 2, 1) := by decide +kernel
theorem dX0_leastLaden_59 : decode cX0_leastLaden 59 = .ok (.ireturn, 1) := by decide +kernel
theorem dX0_partsOn_0 : decode cX0_partsOn 0 = .ok (.iconst 0, 1) := by decide +kernel
theorem dX0_partsOn_1 : decode cX0_partsOn 1 = .ok (.istore_n 2, 1) := by decide +kernel
theorem dX0_partsOn_2 : decode cX0_partsOn 2 = .ok (.iconst 0, 1) := by decide +kernel
theorem dX0_partsOn_3 : decode cX0_partsOn 3 = .ok (.istore_n 3, 1) := by decide +kernel
theorem dX0_partsOn_4 : decode cX0_partsOn 4 = .ok (.iload_n 3, 1) := by decide +kernel
theorem dX0_partsOn_5 : decode cX0_partsOn 5 = .ok (.aload_n 0, 1) := by decide +kernel
theorem dX0_partsOn_6 : decode cX0_partsOn 6 = .ok (.getfield 40, 3) := by decide +kernel
theorem dX0_partsOn_9 : decode cX0_partsOn 9 = .ok (.if_icmp .ge 22, 3) := by decide +kernel
theorem dX0_partsOn_12 : decode cX0_partsOn 12 = .ok (.aload_n 0, 1) := by decide +kernel
theorem dX0_partsOn_13 : decode cX0_partsOn 13 = .ok (.getfield 25, 3) := by decide +kernel
theorem dX0_partsOn_16 : decode cX0_partsOn 16 = .ok (.iload_n 3, 1) := by decide +kernel
theorem dX0_partsOn_17 : decode cX0_partsOn 17 = .ok (.iaload, 1) := by decide +kernel
theorem dX0_partsOn_18 : decode cX0_partsOn 18 = .ok (.iload_n 1, 1) := by decide +kernel
theorem dX0_partsOn_19 : decode cX0_partsOn 19 = .ok (.if_icmp .ne 6, 3) := by decide +kernel
theorem dX0_partsOn_22 : decode cX0_partsOn 22 = .ok (.iinc 2 1, 3) := by decide +kernel
theorem dX0_partsOn_25 : decode cX0_partsOn 25 = .ok (.iinc 3 1, 3) := by decide +kernel
theorem dX0_partsOn_28 : decode cX0_partsOn 28 = .ok (.goto (-24), 3) := by decide +kernel
theorem dX0_partsOn_31 : decode cX0_partsOn 31 = .ok (.iload_n 2, 1) := by decide +kernel
theorem dX0_partsOn_32 : decode cX0_partsOn 32 = .ok (.ireturn, 1) := by decide +kernel
theorem dX0_leftOn_0 : decode cX0_leftOn 0 = .ok (.iconst 0, 1) := by decide +kernel
theorem dX0_leftOn_1 : decode cX0_leftOn 1 = .ok (.istore_n 2, 1) := by decide +kernel
theorem dX0_leftOn_2 : decode cX0_leftOn 2 = .ok (.iconst 0, 1) := by decide +kernel
theorem dX0_leftOn_3 : decode cX0_leftOn 3 = .ok (.istore_n 3, 1) := by decide +kernel
theorem dX0_leftOn_4 : decode cX0_leftOn 4 = .ok (.iload_n 3, 1) := by decide +kernel
theorem dX0_leftOn_5 : decode cX0_leftOn 5 = .ok (.aload_n 0, 1) := by decide +kernel
theorem dX0_leftOn_6 : decode cX0_leftOn 6 = .ok (.getfield 40, 3) := by decide +kernel
theorem dX0_leftOn_9 : decode cX0_leftOn 9 = .ok (.if_icmp .ge 35, 3) := by decide +kernel
theorem dX0_leftOn_12 : decode cX0_leftOn 12 = .ok (.aload_n 0, 1) := by decide +kernel
theorem dX0_leftOn_13 : decode cX0_leftOn 13 = .ok (.getfield 25, 3) := by decide +kernel
theorem dX0_leftOn_16 : decode cX0_leftOn 16 = .ok (.iload_n 3, 1) := by decide +kernel
theorem dX0_leftOn_17 : decode cX0_leftOn 17 = .ok (.iaload, 1) := by decide +kernel
theorem dX0_leftOn_18 : decode cX0_leftOn 18 = .ok (.iload_n 1, 1) := by decide +kernel
theorem dX0_leftOn_19 : decode cX0_leftOn 19 = .ok (.if_icmp .ne 19, 3) := by decide +kernel
theorem dX0_leftOn_22 : decode cX0_leftOn 22 = .ok (.iload_n 2, 1) := by decide +kernel
theorem dX0_leftOn_23 : decode cX0_leftOn 23 = .ok (.aload_n 0, 1) := by decide +kernel
theorem dX0_leftOn_24 : decode cX0_leftOn 24 = .ok (.getfield 19, 3) := by decide +kernel
theorem dX0_leftOn_27 : decode cX0_leftOn 27 = .ok (.iload_n 3, 1) := by decide +kernel
theorem dX0_leftOn_28 : decode cX0_leftOn 28 = .ok (.iaload, 1) := by decide +kernel
theorem dX0_leftOn_29 : decode cX0_leftOn 29 = .ok (.aload_n 0, 1) := by decide +kernel
theorem dX0_leftOn_30 : decode cX0_leftOn 30 = .ok (.getfield 28, 3) := by decide +kernel
theorem dX0_leftOn_33 : decode cX0_leftOn 33 = .ok (.iload_n 3, 1) := by decide +kernel
theorem dX0_leftOn_34 : decode cX0_leftOn 34 = .ok (.iaload, 1) := by decide +kernel
theorem dX0_leftOn_35 : decode cX0_leftOn 35 = .ok (.isub, 1) := by decide +kernel
theorem dX0_leftOn_36 : decode cX0_leftOn 36 = .ok (.iadd, 1) := by decide +kernel
theorem dX0_leftOn_37 : decode cX0_leftOn 37 = .ok (.istore_n 2, 1) := by decide +kernel
theorem dX0_leftOn_38 : decode cX0_leftOn 38 = .ok (.iinc 3 1, 3) := by decide +kernel
theorem dX0_leftOn_41 : decode cX0_leftOn 41 = .ok (.goto (-37), 3) := by decide +kernel
theorem dX0_leftOn_44 : decode cX0_leftOn 44 = .ok (.iload_n 2, 1) := by decide +kernel
theorem dX0_leftOn_45 : decode cX0_leftOn 45 = .ok (.ireturn, 1) := by decide +kernel
set_option maxRecDepth 20000 in
theorem ggX0_goOn_X0_workAtPartsOf : GoodIn wsX0_goOn wsX0_workAtPartsOf := goodIn_r _ [7, 8, 9, 10, 11, 12, 13, 14, 15, 16, 17, 18, 19, 20, 6, 21, 22, 23, 24, 25, 26, 2, 27, 28, 29, 30, 31, 32, 33, 34, 35, 36, 37, 38, 39, 40, 41] (by decide +kernel) (by decide +kernel)
set_option maxRecDepth 20000 in
theorem gX0_goOn_X0_workAtPartsOf : GoodIn wsX0_goOn (wsV RX0 118 RX0 yX0_workAtPartsOf wsX0_workAtPartsOf) := goodIn_app (goodIn_of _ (by decide +kernel)) ggX0_goOn_X0_workAtPartsOf
theorem dX0_goOn_0 : decode cX0_goOn 0 = .ok (.aload_n 0, 1) := by decide +kernel
theorem dX0_goOn_1 : decode cX0_goOn 1 = .ok (.dup, 1) := by decide +kernel
theorem dX0_goOn_2 : decode cX0_goOn 2 = .ok (.getfield 50, 3) := by decide +kernel
theorem dX0_goOn_5 : decode cX0_goOn 5 = .ok (.iconst 1, 1) := by decide +kernel
theorem dX0_goOn_6 : decode cX0_goOn 6 = .ok (.iadd, 1) := by decide +kernel
theorem dX0_goOn_7 : decode cX0_goOn 7 = .ok (.putfield 50, 3) := by decide +kernel
theorem dX0_goOn_10 : decode cX0_goOn 10 = .ok (.aload_n 0, 1) := by decide +kernel
theorem dX0_goOn_11 : decode cX0_goOn 11 = .ok (.getfield 53, 3) := by decide +kernel
theorem dX0_goOn_14 : decode cX0_goOn 14 = .ok (.istore_n 2, 1) := by decide +kernel
theorem dX0_goOn_15 : decode cX0_goOn 15 = .ok (.iconst 0, 1) := by decide +kernel
theorem dX0_goOn_16 : decode cX0_goOn 16 = .ok (.istore_n 3, 1) := by decide +kernel
theorem dX0_goOn_17 : decode cX0_goOn 17 = .ok (.iload_n 3, 1) := by decide +kernel
theorem dX0_goOn_18 : decode cX0_goOn 18 = .ok (.bipush 8, 2) := by decide +kernel
theorem dX0_goOn_20 : decode cX0_goOn 20 = .ok (.if_icmp .ge 29, 3) := by decide +kernel
theorem dX0_goOn_23 : decode cX0_goOn 23 = .ok (.aload_n 1, 1) := by decide +kernel
theorem dX0_goOn_24 : decode cX0_goOn 24 = .ok (.getfield 99, 3) := by decide +kernel
theorem dX0_goOn_27 : decode cX0_goOn 27 = .ok (.iload_n 3, 1) := by decide +kernel
theorem dX0_goOn_28 : decode cX0_goOn 28 = .ok (.baload, 1) := by decide +kernel
theorem dX0_goOn_29 : decode cX0_goOn 29 = .ok (.ifCond .eq 14, 3) := by decide +kernel
theorem dX0_goOn_32 : decode cX0_goOn 32 = .ok (.aload_n 0, 1) := by decide +kernel
theorem dX0_goOn_33 : decode cX0_goOn 33 = .ok (.iload_n 3, 1) := by decide +kernel
theorem dX0_goOn_34 : decode cX0_goOn 34 = .ok (.aload_n 1, 1) := by decide +kernel
theorem dX0_goOn_35 : decode cX0_goOn 35 = .ok (.getfield 115, 3) := by decide +kernel
theorem dX0_goOn_38 : decode cX0_goOn 38 = .ok (.iload_n 3, 1) := by decide +kernel
theorem dX0_goOn_39 : decode cX0_goOn 39 = .ok (.iaload, 1) := by decide +kernel
theorem dX0_goOn_40 : decode cX0_goOn 40 = .ok (.invokevirtual 118, 3) := by decide +kernel
theorem dX0_goOn_43 : decode cX0_goOn 43 = .ok (.iinc 3 1, 3) := by decide +kernel
theorem dX0_goOn_46 : decode cX0_goOn 46 = .ok (.goto (-29), 3) := by decide +kernel
theorem dX0_goOn_49 : decode cX0_goOn 49 = .ok (.aload_n 0, 1) := by decide +kernel
theorem dX0_goOn_50 : decode cX0_goOn 50 = .ok (.getfield 53, 3) := by decide +kernel
theorem dX0_goOn_53 : decode cX0_goOn 53 = .ok (.iload_n 2, 1) := by decide +kernel
theorem dX0_goOn_54 : decode cX0_goOn 54 = .ok (.isub, 1) := by decide +kernel
theorem dX0_goOn_55 : decode cX0_goOn 55 = .ok (.ireturn, 1) := by decide +kernel
set_option maxRecDepth 20000 in
theorem ggX0_workAtPartsOf_X0_mergeSome : GoodIn wsX0_workAtPartsOf wsX0_mergeSome := goodIn_r _ [15, 16, 17, 5, 18, 19, 8, 20, 6, 7, 9, 21, 22, 23, 24, 25, 26, 27, 28, 29, 30, 31, 32, 33, 34, 35, 36] (by decide +kernel) (by decide +kernel)
set_option maxRecDepth 20000 in
theorem gX0_workAtPartsOf_X0_mergeSome : GoodIn wsX0_workAtPartsOf (wsV RX0 127 RX0 yX0_mergeSome wsX0_mergeSome) := goodIn_app (goodIn_of _ (by decide +kernel)) ggX0_workAtPartsOf_X0_mergeSome
theorem dX0_workAtPartsOf_0 : decode cX0_workAtPartsOf 0 = .ok (.iload_n 2, 1) := by decide +kernel
theorem dX0_workAtPartsOf_1 : decode cX0_workAtPartsOf 1 = .ok (.istore_n 3, 1) := by decide +kernel
theorem dX0_workAtPartsOf_2 : decode cX0_workAtPartsOf 2 = .ok (.iconst 0, 1) := by decide +kernel
theorem dX0_workAtPartsOf_3 : decode cX0_workAtPartsOf 3 = .ok (.istore 4, 2) := by decide +kernel
theorem dX0_workAtPartsOf_5 : decode cX0_workAtPartsOf 5 = .ok (.iload 4, 2) := by decide +kernel
theorem dX0_workAtPartsOf_7 : decode cX0_workAtPartsOf 7 = .ok (.aload_n 0, 1) := by decide +kernel
theorem dX0_workAtPartsOf_8 : decode cX0_workAtPartsOf 8 = .ok (.getfield 40, 3) := by decide +kernel
theorem dX0_workAtPartsOf_11 : decode cX0_workAtPartsOf 11 = .ok (.if_icmp .ge 106, 3) := by decide +kernel
theorem dX0_workAtPartsOf_14 : decode cX0_workAtPartsOf 14 = .ok (.aload_n 0, 1) := by decide +kernel
theorem dX0_workAtPartsOf_15 : decode cX0_workAtPartsOf 15 = .ok (.getfield 25, 3) := by decide +kernel
theorem dX0_workAtPartsOf_18 : decode cX0_workAtPartsOf 18 = .ok (.iload 4, 2) := by decide +kernel
theorem dX0_workAtPartsOf_20 : decode cX0_workAtPartsOf 20 = .ok (.iaload, 1) := by decide +kernel
theorem dX0_workAtPartsOf_21 : decode cX0_workAtPartsOf 21 = .ok (.iload_n 1, 1) := by decide +kernel
theorem dX0_workAtPartsOf_22 : decode cX0_workAtPartsOf 22 = .ok (.if_icmp .ne 89, 3) := by decide +kernel
theorem dX0_workAtPartsOf_25 : decode cX0_workAtPartsOf 25 = .ok (.aload_n 0, 1) := by decide +kernel
theorem dX0_workAtPartsOf_26 : decode cX0_workAtPartsOf 26 = .ok (.getfield 34, 3) := by decide +kernel
theorem dX0_workAtPartsOf_29 : decode cX0_workAtPartsOf 29 = .ok (.iload 4, 2) := by decide +kernel
theorem dX0_workAtPartsOf_31 : decode cX0_workAtPartsOf 31 = .ok (.baload, 1) := by decide +kernel
theorem dX0_workAtPartsOf_32 : decode cX0_workAtPartsOf 32 = .ok (.ifCond .eq 6, 3) := by decide +kernel
theorem dX0_workAtPartsOf_35 : decode cX0_workAtPartsOf 35 = .ok (.goto 76, 3) := by decide +kernel
theorem dX0_workAtPartsOf_38 : decode cX0_workAtPartsOf 38 = .ok (.iload_n 3, 1) := by decide +kernel
theorem dX0_workAtPartsOf_39 : decode cX0_workAtPartsOf 39 = .ok (.aload_n 0, 1) := by decide +kernel
theorem dX0_workAtPartsOf_40 : decode cX0_workAtPartsOf 40 = .ok (.getfield 19, 3) := by decide +kernel
theorem dX0_workAtPartsOf_43 : decode cX0_workAtPartsOf 43 = .ok (.iload 4, 2) := by decide +kernel
theorem dX0_workAtPartsOf_45 : decode cX0_workAtPartsOf 45 = .ok (.iaload, 1) := by decide +kernel
theorem dX0_workAtPartsOf_46 : decode cX0_workAtPartsOf 46 = .ok (.aload_n 0, 1) := by decide +kernel
theorem dX0_workAtPartsOf_47 : decode cX0_workAtPartsOf 47 = .ok (.getfield 28, 3) := by decide +kernel
theorem dX0_workAtPartsOf_50 : decode cX0_workAtPartsOf 50 = .ok (.iload 4, 2) := by decide +kernel
theorem dX0_workAtPartsOf_52 : decode cX0_workAtPartsOf 52 = .ok (.iaload, 1) := by decide +kernel
theorem dX0_workAtPartsOf_53 : decode cX0_workAtPartsOf 53 = .ok (.isub, 1) := by decide +kernel
theorem dX0_workAtPartsOf_54 : decode cX0_workAtPartsOf 54 = .ok (.invokestatic 122, 3) := by decide +kernel
theorem dX0_workAtPartsOf_57 : decode cX0_workAtPartsOf 57 = .ok (.istore 5, 2) := by decide +kernel
theorem dX0_workAtPartsOf_59 : decode cX0_workAtPartsOf 59 = .ok (.aload_n 0, 1) := by decide +kernel
theorem dX0_workAtPartsOf_60 : decode cX0_workAtPartsOf 60 = .ok (.iload 4, 2) := by decide +kernel
theorem dX0_workAtPartsOf_62 : decode cX0_workAtPartsOf 62 = .ok (.iload 5, 2) := by decide +kernel
theorem dX0_workAtPartsOf_64 : decode cX0_workAtPartsOf 64 = .ok (.invokevirtual 127, 3) := by decide +kernel
theorem dX0_workAtPartsOf_67 : decode cX0_workAtPartsOf 67 = .ok (.aload_n 0, 1) := by decide +kernel
theorem dX0_workAtPartsOf_68 : decode cX0_workAtPartsOf 68 = .ok (.getfield 37, 3) := by decide +kernel
theorem dX0_workAtPartsOf_71 : decode cX0_workAtPartsOf 71 = .ok (.iload_n 1, 1) := by decide +kernel
theorem dX0_workAtPartsOf_72 : decode cX0_workAtPartsOf 72 = .ok (.dup2, 1) := by decide +kernel
theorem dX0_workAtPartsOf_73 : decode cX0_workAtPartsOf 73 = .ok (.iaload, 1) := by decide +kernel
theorem dX0_workAtPartsOf_74 : decode cX0_workAtPartsOf 74 = .ok (.iload 5, 2) := by decide +kernel
theorem dX0_workAtPartsOf_76 : decode cX0_workAtPartsOf 76 = .ok (.iadd, 1) := by decide +kernel
theorem dX0_workAtPartsOf_77 : decode cX0_workAtPartsOf 77 = .ok (.iastore, 1) := by decide +kernel
theorem dX0_workAtPartsOf_78 : decode cX0_workAtPartsOf 78 = .ok (.iload_n 3, 1) := by decide +kernel
theorem dX0_workAtPartsOf_79 : decode cX0_workAtPartsOf 79 = .ok (.iload 5, 2) := by decide +kernel
theorem dX0_workAtPartsOf_81 : decode cX0_workAtPartsOf 81 = .ok (.isub, 1) := by decide +kernel
theorem dX0_workAtPartsOf_82 : decode cX0_workAtPartsOf 82 = .ok (.istore_n 3, 1) := by decide +kernel
theorem dX0_workAtPartsOf_83 : decode cX0_workAtPartsOf 83 = .ok (.aload_n 0, 1) := by decide +kernel
theorem dX0_workAtPartsOf_84 : decode cX0_workAtPartsOf 84 = .ok (.getfield 28, 3) := by decide +kernel
theorem dX0_workAtPartsOf_87 : decode cX0_workAtPartsOf 87 = .ok (.iload 4, 2) := by decide +kernel
theorem dX0_workAtPartsOf_89 : decode cX0_workAtPartsOf 89 = .ok (.iaload, 1) := by decide +kernel
theorem dX0_workAtPartsOf_90 : decode cX0_workAtPartsOf 90 = .ok (.aload_n 0, 1) := by decide +kernel
theorem dX0_workAtPartsOf_91 : decode cX0_workAtPartsOf 91 = .ok (.getfield 19, 3) := by decide +kernel
theorem dX0_workAtPartsOf_94 : decode cX0_workAtPartsOf 94 = .ok (.iload 4, 2) := by decide +kernel
theorem dX0_workAtPartsOf_96 : decode cX0_workAtPartsOf 96 = .ok (.iaload, 1) := by decide +kernel
theorem dX0_workAtPartsOf_97 : decode cX0_workAtPartsOf 97 = .ok (.if_icmp .ge 6, 3) := by decide +kernel
theorem dX0_workAtPartsOf_100 : decode cX0_workAtPartsOf 100 = .ok (.goto 17, 3) := by decide +kernel
theorem dX0_workAtPartsOf_103 : decode cX0_workAtPartsOf 103 = .ok (.aload_n 0, 1) := by decide +kernel
theorem dX0_workAtPartsOf_104 : decode cX0_workAtPartsOf 104 = .ok (.getfield 34, 3) := by decide +kernel
theorem dX0_workAtPartsOf_107 : decode cX0_workAtPartsOf 107 = .ok (.iload 4, 2) := by decide +kernel
theorem dX0_workAtPartsOf_109 : decode cX0_workAtPartsOf 109 = .ok (.iconst 1, 1) := by decide +kernel
theorem dX0_workAtPartsOf_110 : decode cX0_workAtPartsOf 110 = .ok (.bastore, 1) := by decide +kernel
theorem dX0_workAtPartsOf_111 : decode cX0_workAtPartsOf 111 = .ok (.iinc 4 1, 3) := by decide +kernel
theorem dX0_workAtPartsOf_114 : decode cX0_workAtPartsOf 114 = .ok (.goto (-109), 3) := by decide +kernel
theorem dX0_workAtPartsOf_117 : decode cX0_workAtPartsOf 117 = .ok (.return_, 1) := by decide +kernel
theorem dX0_mergeSome_0 : decode cX0_mergeSome 0 = .ok (.aload_n 0, 1) := by decide +kernel
theorem dX0_mergeSome_1 : decode cX0_mergeSome 1 = .ok (.dup, 1) := by decide +kernel
theorem dX0_mergeSome_2 : decode cX0_mergeSome 2 = .ok (.getfield 56, 3) := by decide +kernel
theorem dX0_mergeSome_5 : decode cX0_mergeSome 5 = .ok (.iload_n 2, 1) := by decide +kernel
theorem dX0_mergeSome_6 : decode cX0_mergeSome 6 = .ok (.iconst 0, 1) := by decide +kernel
theorem dX0_mergeSome_7 : decode cX0_mergeSome 7 = .ok (.aload_n 0, 1) := by decide +kernel
theorem dX0_mergeSome_8 : decode cX0_mergeSome 8 = .ok (.getfield 31, 3) := by decide +kernel
theorem dX0_mergeSome_11 : decode cX0_mergeSome 11 = .ok (.iload_n 1, 1) := by decide +kernel
theorem dX0_mergeSome_12 : decode cX0_mergeSome 12 = .ok (.iaload, 1) := by decide +kernel
theorem dX0_mergeSome_13 : decode cX0_mergeSome 13 = .ok (.aload_n 0, 1) := by decide +kernel
theorem dX0_mergeSome_14 : decode cX0_mergeSome 14 = .ok (.getfield 28, 3) := by decide +kernel
theorem dX0_mergeSome_17 : decode cX0_mergeSome 17 = .ok (.iload_n 1, 1) := by decide +kernel
theorem dX0_mergeSome_18 : decode cX0_mergeSome 18 = .ok (.iaload, 1) := by decide +kernel
theorem dX0_mergeSome_19 : decode cX0_mergeSome 19 = .ok (.isub, 1) := by decide +kernel
theorem dX0_mergeSome_20 : decode cX0_mergeSome 20 = .ok (.invokestatic 130, 3) := by decide +kernel
theorem dX0_mergeSome_23 : decode cX0_mergeSome 23 = .ok (.invokestatic 122, 3) := by decide +kernel
theorem dX0_mergeSome_26 : decode cX0_mergeSome 26 = .ok (.iadd, 1) := by decide +kernel
theorem dX0_mergeSome_27 : decode cX0_mergeSome 27 = .ok (.putfield 56, 3) := by decide +kernel
theorem dX0_mergeSome_30 : decode cX0_mergeSome 30 = .ok (.aload_n 0, 1) := by decide +kernel
theorem dX0_mergeSome_31 : decode cX0_mergeSome 31 = .ok (.dup, 1) := by decide +kernel
theorem dX0_mergeSome_32 : decode cX0_mergeSome 32 = .ok (.getfield 53, 3) := by decide +kernel
theorem dX0_mergeSome_35 : decode cX0_mergeSome 35 = .ok (.iload_n 2, 1) := by decide +kernel
theorem dX0_mergeSome_36 : decode cX0_mergeSome 36 = .ok (.iadd, 1) := by decide +kernel
theorem dX0_mergeSome_37 : decode cX0_mergeSome 37 = .ok (.putfield 53, 3) := by decide +kernel
theorem dX0_mergeSome_40 : decode cX0_mergeSome 40 = .ok (.aload_n 0, 1) := by decide +kernel
theorem dX0_mergeSome_41 : decode cX0_mergeSome 41 = .ok (.getfield 28, 3) := by decide +kernel
theorem dX0_mergeSome_44 : decode cX0_mergeSome 44 = .ok (.iload_n 1, 1) := by decide +kernel
theorem dX0_mergeSome_45 : decode cX0_mergeSome 45 = .ok (.dup2, 1) := by decide +kernel
theorem dX0_mergeSome_46 : decode cX0_mergeSome 46 = .ok (.iaload, 1) := by decide +kernel
theorem dX0_mergeSome_47 : decode cX0_mergeSome 47 = .ok (.iload_n 2, 1) := by decide +kernel
theorem dX0_mergeSome_48 : decode cX0_mergeSome 48 = .ok (.iadd, 1) := by decide +kernel
theorem dX0_mergeSome_49 : decode cX0_mergeSome 49 = .ok (.iastore, 1) := by decide +kernel
theorem dX0_mergeSome_50 : decode cX0_mergeSome 50 = .ok (.aload_n 0, 1) := by decide +kernel
theorem dX0_mergeSome_51 : decode cX0_mergeSome 51 = .ok (.getfield 31, 3) := by decide +kernel
theorem dX0_mergeSome_54 : decode cX0_mergeSome 54 = .ok (.iload_n 1, 1) := by decide +kernel
theorem dX0_mergeSome_55 : decode cX0_mergeSome 55 = .ok (.aload_n 0, 1) := by decide +kernel
theorem dX0_mergeSome_56 : decode cX0_mergeSome 56 = .ok (.getfield 31, 3) := by decide +kernel
theorem dX0_mergeSome_59 : decode cX0_mergeSome 59 = .ok (.iload_n 1, 1) := by decide +kernel
theorem dX0_mergeSome_60 : decode cX0_mergeSome 60 = .ok (.iaload, 1) := by decide +kernel
theorem dX0_mergeSome_61 : decode cX0_mergeSome 61 = .ok (.aload_n 0, 1) := by decide +kernel
theorem dX0_mergeSome_62 : decode cX0_mergeSome 62 = .ok (.getfield 28, 3) := by decide +kernel
theorem dX0_mergeSome_65 : decode cX0_mergeSome 65 = .ok (.iload_n 1, 1) := by decide +kernel
theorem dX0_mergeSome_66 : decode cX0_mergeSome 66 = .ok (.iaload, 1) := by decide +kernel
theorem dX0_mergeSome_67 : decode cX0_mergeSome 67 = .ok (.invokestatic 130, 3) := by decide +kernel
theorem dX0_mergeSome_70 : decode cX0_mergeSome 70 = .ok (.iastore, 1) := by decide +kernel
theorem dX0_mergeSome_71 : decode cX0_mergeSome 71 = .ok (.return_, 1) := by decide +kernel
theorem dX0_partsDone_0 : decode cX0_partsDone 0 = .ok (.iconst 0, 1) := by decide +kernel
theorem dX0_partsDone_1 : decode cX0_partsDone 1 = .ok (.istore_n 1, 1) := by decide +kernel
theorem dX0_partsDone_2 : decode cX0_partsDone 2 = .ok (.iconst 0, 1) := by decide +kernel
theorem dX0_partsDone_3 : decode cX0_partsDone 3 = .ok (.istore_n 2, 1) := by decide +kernel
theorem dX0_partsDone_4 : decode cX0_partsDone 4 = .ok (.iload_n 2, 1) := by decide +kernel
theorem dX0_partsDone_5 : decode cX0_partsDone 5 = .ok (.aload_n 0, 1) := by decide +kernel
theorem dX0_partsDone_6 : decode cX0_partsDone 6 = .ok (.getfield 40, 3) := by decide +kernel
theorem dX0_partsDone_9 : decode cX0_partsDone 9 = .ok (.if_icmp .ge 21, 3) := by decide +kernel
theorem dX0_partsDone_12 : decode cX0_partsDone 12 = .ok (.aload_n 0, 1) := by decide +kernel
theorem dX0_partsDone_13 : decode cX0_partsDone 13 = .ok (.getfield 34, 3) := by decide +kernel
theorem dX0_partsDone_16 : decode cX0_partsDone 16 = .ok (.iload_n 2, 1) := by decide +kernel
theorem dX0_partsDone_17 : decode cX0_partsDone 17 = .ok (.baload, 1) := by decide +kernel
theorem dX0_partsDone_18 : decode cX0_partsDone 18 = .ok (.ifCond .eq 6, 3) := by decide +kernel
theorem dX0_partsDone_21 : decode cX0_partsDone 21 = .ok (.iinc 1 1, 3) := by decide +kernel
theorem dX0_partsDone_24 : decode cX0_partsDone 24 = .ok (.iinc 2 1, 3) := by decide +kernel
theorem dX0_partsDone_27 : decode cX0_partsDone 27 = .ok (.goto (-23), 3) := by decide +kernel
theorem dX0_partsDone_30 : decode cX0_partsDone 30 = .ok (.iload_n 1, 1) := by decide +kernel
theorem dX0_partsDone_31 : decode cX0_partsDone 31 = .ok (.ireturn, 1) := by decide +kernel
set_option maxRecDepth 20000 in
theorem ggX0_isAtEnd_X0_stands : GoodIn wsX0_isAtEnd wsX0_stands := goodIn_r _ [6, 1, 12, 13, 14, 15, 16, 17, 18, 19, 20, 21, 22, 23, 24, 25, 26] (by decide +kernel) (by decide +kernel)
set_option maxRecDepth 20000 in
theorem gX0_isAtEnd_X0_stands : GoodIn wsX0_isAtEnd (wsV RX0 133 RX0 yX0_stands wsX0_stands) := goodIn_app (goodIn_of _ (by decide +kernel)) ggX0_isAtEnd_X0_stands
set_option maxRecDepth 20000 in
theorem ggX0_isAtEnd_X0_partsDone : GoodIn wsX0_isAtEnd wsX0_partsDone := goodIn_r _ [10, 1, 11, 12, 13, 14, 15, 16, 17, 18, 19, 20, 21, 22, 23, 24, 25, 26] (by decide +kernel) (by decide +kernel)
set_option maxRecDepth 20000 in
theorem gX0_isAtEnd_X0_partsDone : GoodIn wsX0_isAtEnd (wsV RX0 137 RX0 yX0_partsDone wsX0_partsDone) := goodIn_app (goodIn_of _ (by decide +kernel)) ggX0_isAtEnd_X0_partsDone
theorem dX0_isAtEnd_0 : decode cX0_isAtEnd 0 = .ok (.aload_n 0, 1) := by decide +kernel
theorem dX0_isAtEnd_1 : decode cX0_isAtEnd 1 = .ok (.invokevirtual 133, 3) := by decide +kernel
theorem dX0_isAtEnd_4 : decode cX0_isAtEnd 4 = .ok (.ifCond .eq 18, 3) := by decide +kernel
theorem dX0_isAtEnd_7 : decode cX0_isAtEnd 7 = .ok (.aload_n 0, 1) := by decide +kernel
theorem dX0_isAtEnd_8 : decode cX0_isAtEnd 8 = .ok (.invokevirtual 137, 3) := by decide +kernel
theorem dX0_isAtEnd_11 : decode cX0_isAtEnd 11 = .ok (.aload_n 0, 1) := by decide +kernel
theorem dX0_isAtEnd_12 : decode cX0_isAtEnd 12 = .ok (.getfield 40, 3) := by decide +kernel
theorem dX0_isAtEnd_15 : decode cX0_isAtEnd 15 = .ok (.if_icmp .ne 7, 3) := by decide +kernel
theorem dX0_isAtEnd_18 : decode cX0_isAtEnd 18 = .ok (.iconst 1, 1) := by decide +kernel
theorem dX0_isAtEnd_19 : decode cX0_isAtEnd 19 = .ok (.goto 4, 3) := by decide +kernel
theorem dX0_isAtEnd_22 : decode cX0_isAtEnd 22 = .ok (.iconst 0, 1) := by decide +kernel
theorem dX0_isAtEnd_23 : decode cX0_isAtEnd 23 = .ok (.ireturn, 1) := by decide +kernel
theorem dX1_init_0 : decode cX1_init 0 = .ok (.aload_n 0, 1) := by decide +kernel
theorem dX1_init_1 : decode cX1_init 1 = .ok (.invokespecial 3, 3) := by decide +kernel
theorem dX1_init_4 : decode cX1_init 4 = .ok (.aload_n 0, 1) := by decide +kernel
theorem dX1_init_5 : decode cX1_init 5 = .ok (.sipush 400, 3) := by decide +kernel
theorem dX1_init_8 : decode cX1_init 8 = .ok (.newarray .long, 2) := by decide +kernel
theorem dX1_init_10 : decode cX1_init 10 = .ok (.putfield 9, 3) := by decide +kernel
theorem dX1_init_13 : decode cX1_init 13 = .ok (.return_, 1) := by decide +kernel
theorem dX1_forget_0 : decode cX1_forget 0 = .ok (.aload_n 0, 1) := by decide +kernel
theorem dX1_forget_1 : decode cX1_forget 1 = .ok (.iconst 0, 1) := by decide +kernel
theorem dX1_forget_2 : decode cX1_forget 2 = .ok (.putfield 15, 3) := by decide +kernel
theorem dX1_forget_5 : decode cX1_forget 5 = .ok (.return_, 1) := by decide +kernel
theorem dX1_add_0 : decode cX1_add 0 = .ok (.aload_n 0, 1) := by decide +kernel
theorem dX1_add_1 : decode cX1_add 1 = .ok (.getfield 15, 3) := by decide +kernel
theorem dX1_add_4 : decode cX1_add 4 = .ok (.aload_n 0, 1) := by decide +kernel
theorem dX1_add_5 : decode cX1_add 5 = .ok (.getfield 9, 3) := by decide +kernel
theorem dX1_add_8 : decode cX1_add 8 = .ok (.arraylength, 1) := by decide +kernel
theorem dX1_add_9 : decode cX1_add 9 = .ok (.if_icmp .lt 4, 3) := by decide +kernel
theorem dX1_add_12 : decode cX1_add 12 = .ok (.return_, 1) := by decide +kernel
theorem dX1_add_13 : decode cX1_add 13 = .ok (.aload_n 0, 1) := by decide +kernel
theorem dX1_add_14 : decode cX1_add 14 = .ok (.getfield 15, 3) := by decide +kernel
theorem dX1_add_17 : decode cX1_add 17 = .ok (.istore_n 3, 1) := by decide +kernel
theorem dX1_add_18 : decode cX1_add 18 = .ok (.aload_n 0, 1) := by decide +kernel
theorem dX1_add_19 : decode cX1_add 19 = .ok (.dup, 1) := by decide +kernel
theorem dX1_add_20 : decode cX1_add 20 = .ok (.getfield 15, 3) := by decide +kernel
theorem dX1_add_23 : decode cX1_add 23 = .ok (.iconst 1, 1) := by decide +kernel
theorem dX1_add_24 : decode cX1_add 24 = .ok (.iadd, 1) := by decide +kernel
theorem dX1_add_25 : decode cX1_add 25 = .ok (.putfield 15, 3) := by decide +kernel
theorem dX1_add_28 : decode cX1_add 28 = .ok (.iload_n 3, 1) := by decide +kernel
theorem dX1_add_29 : decode cX1_add 29 = .ok (.ifCond .le 44, 3) := by decide +kernel
theorem dX1_add_32 : decode cX1_add 32 = .ok (.iload_n 3, 1) := by decide +kernel
theorem dX1_add_33 : decode cX1_add 33 = .ok (.iconst 1, 1) := by decide +kernel
theorem dX1_add_34 : decode cX1_add 34 = .ok (.isub, 1) := by decide +kernel
theorem dX1_add_35 : decode cX1_add 35 = .ok (.iconst 2, 1) := by decide +kernel
theorem dX1_add_36 : decode cX1_add 36 = .ok (.idiv, 1) := by decide +kernel
theorem dX1_add_37 : decode cX1_add 37 = .ok (.istore 4, 2) := by decide +kernel
theorem dX1_add_39 : decode cX1_add 39 = .ok (.aload_n 0, 1) := by decide +kernel
theorem dX1_add_40 : decode cX1_add 40 = .ok (.getfield 9, 3) := by decide +kernel
theorem dX1_add_43 : decode cX1_add 43 = .ok (.iload 4, 2) := by decide +kernel
theorem dX1_add_45 : decode cX1_add 45 = .ok (.laload, 1) := by decide +kernel
theorem dX1_add_46 : decode cX1_add 46 = .ok (.lload_n 1, 1) := by decide +kernel
theorem dX1_add_47 : decode cX1_add 47 = .ok (.lcmp, 1) := by decide +kernel
theorem dX1_add_48 : decode cX1_add 48 = .ok (.ifCond .gt 6, 3) := by decide +kernel
theorem dX1_add_51 : decode cX1_add 51 = .ok (.goto 22, 3) := by decide +kernel
theorem dX1_add_54 : decode cX1_add 54 = .ok (.aload_n 0, 1) := by decide +kernel
theorem dX1_add_55 : decode cX1_add 55 = .ok (.getfield 9, 3) := by decide +kernel
theorem dX1_add_58 : decode cX1_add 58 = .ok (.iload_n 3, 1) := by decide +kernel
theorem dX1_add_59 : decode cX1_add 59 = .ok (.aload_n 0, 1) := by decide +kernel
theorem dX1_add_60 : decode cX1_add 60 = .ok (.getfield 9, 3) := by decide +kernel
theorem dX1_add_63 : decode cX1_add 63 = .ok (.iload 4, 2) := by decide +kernel
theorem dX1_add_65 : decode cX1_add 65 = .ok (.laload, 1) := by decide +kernel
theorem dX1_add_66 : decode cX1_add 66 = .ok (.lastore, 1) := by decide +kernel
theorem dX1_add_67 : decode cX1_add 67 = .ok (.iload 4, 2) := by decide +kernel
theorem dX1_add_69 : decode cX1_add 69 = .ok (.istore_n 3, 1) := by decide +kernel
theorem dX1_add_70 : decode cX1_add 70 = .ok (.goto (-42), 3) := by decide +kernel
theorem dX1_add_73 : decode cX1_add 73 = .ok (.aload_n 0, 1) := by decide +kernel
theorem dX1_add_74 : decode cX1_add 74 = .ok (.getfield 9, 3) := by decide +kernel
theorem dX1_add_77 : decode cX1_add 77 = .ok (.iload_n 3, 1) := by decide +kernel
theorem dX1_add_78 : decode cX1_add 78 = .ok (.lload_n 1, 1) := by decide +kernel
theorem dX1_add_79 : decode cX1_add 79 = .ok (.lastore, 1) := by decide +kernel
theorem dX1_add_80 : decode cX1_add 80 = .ok (.return_, 1) := by decide +kernel
set_option maxRecDepth 20000 in
theorem ggX1_takeLeast_X1_sink : GoodIn wsX1_takeLeast wsX1_sink := goodIn_r _ [7, 1, 2, 8, 9] (by decide +kernel) (by decide +kernel)
set_option maxRecDepth 20000 in
theorem gX1_takeLeast_X1_sink : GoodIn wsX1_takeLeast (wsV RX1 19 RX1 yX1_sink wsX1_sink) := goodIn_app (goodIn_of _ (by decide +kernel)) ggX1_takeLeast_X1_sink
theorem dX1_takeLeast_0 : decode cX1_takeLeast 0 = .ok (.aload_n 0, 1) := by decide +kernel
theorem dX1_takeLeast_1 : decode cX1_takeLeast 1 = .ok (.getfield 15, 3) := by decide +kernel
theorem dX1_takeLeast_4 : decode cX1_takeLeast 4 = .ok (.ifCond .ne 5, 3) := by decide +kernel
theorem dX1_takeLeast_7 : decode cX1_takeLeast 7 = .ok (.lconst 0, 1) := by decide +kernel
theorem dX1_takeLeast_8 : decode cX1_takeLeast 8 = .ok (.lreturn, 1) := by decide +kernel
theorem dX1_takeLeast_9 : decode cX1_takeLeast 9 = .ok (.aload_n 0, 1) := by decide +kernel
theorem dX1_takeLeast_10 : decode cX1_takeLeast 10 = .ok (.getfield 9, 3) := by decide +kernel
theorem dX1_takeLeast_13 : decode cX1_takeLeast 13 = .ok (.iconst 0, 1) := by decide +kernel
theorem dX1_takeLeast_14 : decode cX1_takeLeast 14 = .ok (.laload, 1) := by decide +kernel
theorem dX1_takeLeast_15 : decode cX1_takeLeast 15 = .ok (.lstore_n 1, 1) := by decide +kernel
theorem dX1_takeLeast_16 : decode cX1_takeLeast 16 = .ok (.aload_n 0, 1) := by decide +kernel
theorem dX1_takeLeast_17 : decode cX1_takeLeast 17 = .ok (.dup, 1) := by decide +kernel
theorem dX1_takeLeast_18 : decode cX1_takeLeast 18 = .ok (.getfield 15, 3) := by decide +kernel
theorem dX1_takeLeast_21 : decode cX1_takeLeast 21 = .ok (.iconst 1, 1) := by decide +kernel
theorem dX1_takeLeast_22 : decode cX1_takeLeast 22 = .ok (.isub, 1) := by decide +kernel
theorem dX1_takeLeast_23 : decode cX1_takeLeast 23 = .ok (.putfield 15, 3) := by decide +kernel
theorem dX1_takeLeast_26 : decode cX1_takeLeast 26 = .ok (.aload_n 0, 1) := by decide +kernel
theorem dX1_takeLeast_27 : decode cX1_takeLeast 27 = .ok (.aload_n 0, 1) := by decide +kernel
theorem dX1_takeLeast_28 : decode cX1_takeLeast 28 = .ok (.getfield 9, 3) := by decide +kernel
theorem dX1_takeLeast_31 : decode cX1_takeLeast 31 = .ok (.aload_n 0, 1) := by decide +kernel
theorem dX1_takeLeast_32 : decode cX1_takeLeast 32 = .ok (.getfield 15, 3) := by decide +kernel
theorem dX1_takeLeast_35 : decode cX1_takeLeast 35 = .ok (.laload, 1) := by decide +kernel
theorem dX1_takeLeast_36 : decode cX1_takeLeast 36 = .ok (.invokevirtual 19, 3) := by decide +kernel
theorem dX1_takeLeast_39 : decode cX1_takeLeast 39 = .ok (.lload_n 1, 1) := by decide +kernel
theorem dX1_takeLeast_40 : decode cX1_takeLeast 40 = .ok (.lreturn, 1) := by decide +kernel
theorem dX1_sink_0 : decode cX1_sink 0 = .ok (.iconst 0, 1) := by decide +kernel
theorem dX1_sink_1 : decode cX1_sink 1 = .ok (.istore_n 3, 1) := by decide +kernel
theorem dX1_sink_2 : decode cX1_sink 2 = .ok (.iconst 1, 1) := by decide +kernel
theorem dX1_sink_3 : decode cX1_sink 3 = .ok (.istore 4, 2) := by decide +kernel
theorem dX1_sink_5 : decode cX1_sink 5 = .ok (.iload 4, 2) := by decide +kernel
theorem dX1_sink_7 : decode cX1_sink 7 = .ok (.aload_n 0, 1) := by decide +kernel
theorem dX1_sink_8 : decode cX1_sink 8 = .ok (.getfield 15, 3) := by decide +kernel
theorem dX1_sink_11 : decode cX1_sink 11 = .ok (.if_icmp .ge 86, 3) := by decide +kernel
theorem dX1_sink_14 : decode cX1_sink 14 = .ok (.iload 4, 2) := by decide +kernel
theorem dX1_sink_16 : decode cX1_sink 16 = .ok (.iconst 1, 1) := by decide +kernel
theorem dX1_sink_17 : decode cX1_sink 17 = .ok (.iadd, 1) := by decide +kernel
theorem dX1_sink_18 : decode cX1_sink 18 = .ok (.istore 5, 2) := by decide +kernel
theorem dX1_sink_20 : decode cX1_sink 20 = .ok (.iload 5, 2) := by decide +kernel
theorem dX1_sink_22 : decode cX1_sink 22 = .ok (.aload_n 0, 1) := by decide +kernel
theorem dX1_sink_23 : decode cX1_sink 23 = .ok (.getfield 15, 3) := by decide +kernel
theorem dX1_sink_26 : decode cX1_sink 26 = .ok (.if_icmp .ge 26, 3) := by decide +kernel
theorem dX1_sink_29 : decode cX1_sink 29 = .ok (.aload_n 0, 1) := by decide +kernel
theorem dX1_sink_30 : decode cX1_sink 30 = .ok (.getfield 9, 3) := by decide +kernel
theorem dX1_sink_33 : decode cX1_sink 33 = .ok (.iload 5, 2) := by decide +kernel
theorem dX1_sink_35 : decode cX1_sink 35 = .ok (.laload, 1) := by decide +kernel
theorem dX1_sink_36 : decode cX1_sink 36 = .ok (.aload_n 0, 1) := by decide +kernel
theorem dX1_sink_37 : decode cX1_sink 37 = .ok (.getfield 9, 3) := by decide +kernel
theorem dX1_sink_40 : decode cX1_sink 40 = .ok (.iload 4, 2) := by decide +kernel
theorem dX1_sink_42 : decode cX1_sink 42 = .ok (.laload, 1) := by decide +kernel
theorem dX1_sink_43 : decode cX1_sink 43 = .ok (.lcmp, 1) := by decide +kernel
theorem dX1_sink_44 : decode cX1_sink 44 = .ok (.ifCond .ge 8, 3) := by decide +kernel
theorem dX1_sink_47 : decode cX1_sink 47 = .ok (.iload 5, 2) := by decide +kernel
theorem dX1_sink_49 : decode cX1_sink 49 = .ok (.goto 5, 3) := by decide +kernel
theorem dX1_sink_52 : decode cX1_sink 52 = .ok (.iload 4, 2) := by decide +kernel
theorem dX1_sink_54 : decode cX1_sink 54 = .ok (.istore 6, 2) := by decide +kernel
theorem dX1_sink_56 : decode cX1_sink 56 = .ok (.aload_n 0, 1) := by decide +kernel
theorem dX1_sink_57 : decode cX1_sink 57 = .ok (.getfield 9, 3) := by decide +kernel
theorem dX1_sink_60 : decode cX1_sink 60 = .ok (.iload 6, 2) := by decide +kernel
theorem dX1_sink_62 : decode cX1_sink 62 = .ok (.laload, 1) := by decide +kernel
theorem dX1_sink_63 : decode cX1_sink 63 = .ok (.lload_n 1, 1) := by decide +kernel
theorem dX1_sink_64 : decode cX1_sink 64 = .ok (.lcmp, 1) := by decide +kernel
theorem dX1_sink_65 : decode cX1_sink 65 = .ok (.ifCond .lt 6, 3) := by decide +kernel
theorem dX1_sink_68 : decode cX1_sink 68 = .ok (.goto 29, 3) := by decide +kernel
theorem dX1_sink_71 : decode cX1_sink 71 = .ok (.aload_n 0, 1) := by decide +kernel
theorem dX1_sink_72 : decode cX1_sink 72 = .ok (.getfield 9, 3) := by decide +kernel
theorem dX1_sink_75 : decode cX1_sink 75 = .ok (.iload_n 3, 1) := by decide +kernel
theorem dX1_sink_76 : decode cX1_sink 76 = .ok (.aload_n 0, 1) := by decide +kernel
theorem dX1_sink_77 : decode cX1_sink 77 = .ok (.getfield 9, 3) := by decide +kernel
theorem dX1_sink_80 : decode cX1_sink 80 = .ok (.iload 6, 2) := by decide +kernel
theorem dX1_sink_82 : decode cX1_sink 82 = .ok (.laload, 1) := by decide +kernel
theorem dX1_sink_83 : decode cX1_sink 83 = .ok (.lastore, 1) := by decide +kernel
theorem dX1_sink_84 : decode cX1_sink 84 = .ok (.iload 6, 2) := by decide +kernel
theorem dX1_sink_86 : decode cX1_sink 86 = .ok (.istore_n 3, 1) := by decide +kernel
theorem dX1_sink_87 : decode cX1_sink 87 = .ok (.iconst 2, 1) := by decide +kernel
theorem dX1_sink_88 : decode cX1_sink 88 = .ok (.iload_n 3, 1) := by decide +kernel
theorem dX1_sink_89 : decode cX1_sink 89 = .ok (.imul, 1) := by decide +kernel
theorem dX1_sink_90 : decode cX1_sink 90 = .ok (.iconst 1, 1) := by decide +kernel
theorem dX1_sink_91 : decode cX1_sink 91 = .ok (.iadd, 1) := by decide +kernel
theorem dX1_sink_92 : decode cX1_sink 92 = .ok (.istore 4, 2) := by decide +kernel
theorem dX1_sink_94 : decode cX1_sink 94 = .ok (.goto (-89), 3) := by decide +kernel
theorem dX1_sink_97 : decode cX1_sink 97 = .ok (.aload_n 0, 1) := by decide +kernel
theorem dX1_sink_98 : decode cX1_sink 98 = .ok (.getfield 9, 3) := by decide +kernel
theorem dX1_sink_101 : decode cX1_sink 101 = .ok (.iload_n 3, 1) := by decide +kernel
theorem dX1_sink_102 : decode cX1_sink 102 = .ok (.lload_n 1, 1) := by decide +kernel
theorem dX1_sink_103 : decode cX1_sink 103 = .ok (.lastore, 1) := by decide +kernel
theorem dX1_sink_104 : decode cX1_sink 104 = .ok (.return_, 1) := by decide +kernel
theorem dX2_init_0 : decode cX2_init 0 = .ok (.aload_n 0, 1) := by decide +kernel
theorem dX2_init_1 : decode cX2_init 1 = .ok (.invokespecial 3, 3) := by decide +kernel
theorem dX2_init_4 : decode cX2_init 4 = .ok (.aload_n 0, 1) := by decide +kernel
theorem dX2_init_5 : decode cX2_init 5 = .ok (.bipush 8, 2) := by decide +kernel
theorem dX2_init_7 : decode cX2_init 7 = .ok (.newarray .int, 2) := by decide +kernel
theorem dX2_init_9 : decode cX2_init 9 = .ok (.putfield 9, 3) := by decide +kernel
theorem dX2_init_12 : decode cX2_init 12 = .ok (.aload_n 0, 1) := by decide +kernel
theorem dX2_init_13 : decode cX2_init 13 = .ok (.bipush 8, 2) := by decide +kernel
theorem dX2_init_15 : decode cX2_init 15 = .ok (.newarray .boolean, 2) := by decide +kernel
theorem dX2_init_17 : decode cX2_init 17 = .ok (.putfield 15, 3) := by decide +kernel
theorem dX2_init_20 : decode cX2_init 20 = .ok (.iconst 0, 1) := by decide +kernel
theorem dX2_init_21 : decode cX2_init 21 = .ok (.istore_n 1, 1) := by decide +kernel
theorem dX2_init_22 : decode cX2_init 22 = .ok (.iload_n 1, 1) := by decide +kernel
theorem dX2_init_23 : decode cX2_init 23 = .ok (.bipush 8, 2) := by decide +kernel
theorem dX2_init_25 : decode cX2_init 25 = .ok (.if_icmp .ge 24, 3) := by decide +kernel
theorem dX2_init_28 : decode cX2_init 28 = .ok (.aload_n 0, 1) := by decide +kernel
theorem dX2_init_29 : decode cX2_init 29 = .ok (.getfield 9, 3) := by decide +kernel
theorem dX2_init_32 : decode cX2_init 32 = .ok (.iload_n 1, 1) := by decide +kernel
theorem dX2_init_33 : decode cX2_init 33 = .ok (.bipush 10, 2) := by decide +kernel
theorem dX2_init_35 : decode cX2_init 35 = .ok (.iastore, 1) := by decide +kernel
theorem dX2_init_36 : decode cX2_init 36 = .ok (.aload_n 0, 1) := by decide +kernel
theorem dX2_init_37 : decode cX2_init 37 = .ok (.getfield 15, 3) := by decide +kernel
theorem dX2_init_40 : decode cX2_init 40 = .ok (.iload_n 1, 1) := by decide +kernel
theorem dX2_init_41 : decode cX2_init 41 = .ok (.iconst 1, 1) := by decide +kernel
theorem dX2_init_42 : decode cX2_init 42 = .ok (.bastore, 1) := by decide +kernel
theorem dX2_init_43 : decode cX2_init 43 = .ok (.iinc 1 1, 3) := by decide +kernel
theorem dX2_init_46 : decode cX2_init 46 = .ok (.goto (-24), 3) := by decide +kernel
theorem dX2_init_49 : decode cX2_init 49 = .ok (.return_, 1) := by decide +kernel
theorem dX3_init_0 : decode cX3_init 0 = .ok (.aload_n 0, 1) := by decide +kernel
theorem dX3_init_1 : decode cX3_init 1 = .ok (.invokespecial 3, 3) := by decide +kernel
theorem dX3_init_4 : decode cX3_init 4 = .ok (.aload_n 0, 1) := by decide +kernel
theorem dX3_init_5 : decode cX3_init 5 = .ok (.sipush 800, 3) := by decide +kernel
theorem dX3_init_8 : decode cX3_init 8 = .ok (.newarray .int, 2) := by decide +kernel
theorem dX3_init_10 : decode cX3_init 10 = .ok (.putfield 9, 3) := by decide +kernel
theorem dX3_init_13 : decode cX3_init 13 = .ok (.aload_n 0, 1) := by decide +kernel
theorem dX3_init_14 : decode cX3_init 14 = .ok (.sipush 401, 3) := by decide +kernel
theorem dX3_init_17 : decode cX3_init 17 = .ok (.newarray .int, 2) := by decide +kernel
theorem dX3_init_19 : decode cX3_init 19 = .ok (.putfield 15, 3) := by decide +kernel
theorem dX3_init_22 : decode cX3_init 22 = .ok (.aload_n 0, 1) := by decide +kernel
theorem dX3_init_23 : decode cX3_init 23 = .ok (.sipush 799, 3) := by decide +kernel
theorem dX3_init_26 : decode cX3_init 26 = .ok (.newarray .int, 2) := by decide +kernel
theorem dX3_init_28 : decode cX3_init 28 = .ok (.putfield 18, 3) := by decide +kernel
theorem dX3_init_31 : decode cX3_init 31 = .ok (.return_, 1) := by decide +kernel
theorem dX3_forget_0 : decode cX3_forget 0 = .ok (.aload_n 0, 1) := by decide +kernel
theorem dX3_forget_1 : decode cX3_forget 1 = .ok (.iconst 0, 1) := by decide +kernel
theorem dX3_forget_2 : decode cX3_forget 2 = .ok (.putfield 21, 3) := by decide +kernel
theorem dX3_forget_5 : decode cX3_forget 5 = .ok (.aload_n 0, 1) := by decide +kernel
theorem dX3_forget_6 : decode cX3_forget 6 = .ok (.iconst 0, 1) := by decide +kernel
theorem dX3_forget_7 : decode cX3_forget 7 = .ok (.putfield 25, 3) := by decide +kernel
theorem dX3_forget_10 : decode cX3_forget 10 = .ok (.return_, 1) := by decide +kernel
set_option maxRecDepth 20000 in
theorem ggX3_waysIn_X6_isIn : GoodIn wsX3_waysIn wsX6_isIn := goodIn_r _ [5] (by decide +kernel) (by decide +kernel)
set_option maxRecDepth 20000 in
theorem gX3_waysIn_X6_isIn_n29 : GoodIn wsX3_waysIn (wsX6_isIn) := ggX3_waysIn_X6_isIn
theorem dX3_waysIn_0 : decode cX3_waysIn 0 = .ok (.iload_n 1, 1) := by decide +kernel
theorem dX3_waysIn_1 : decode cX3_waysIn 1 = .ok (.iconst 0, 1) := by decide +kernel
theorem dX3_waysIn_2 : decode cX3_waysIn 2 = .ok (.aload_n 0, 1) := by decide +kernel
theorem dX3_waysIn_3 : decode cX3_waysIn 3 = .ok (.getfield 21, 3) := by decide +kernel
theorem dX3_waysIn_6 : decode cX3_waysIn 6 = .ok (.iconst 1, 1) := by decide +kernel
theorem dX3_waysIn_7 : decode cX3_waysIn 7 = .ok (.isub, 1) := by decide +kernel
theorem dX3_waysIn_8 : decode cX3_waysIn 8 = .ok (.invokestatic 29, 3) := by decide +kernel
theorem dX3_waysIn_11 : decode cX3_waysIn 11 = .ok (.ifCond .eq 21, 3) := by decide +kernel
theorem dX3_waysIn_14 : decode cX3_waysIn 14 = .ok (.aload_n 0, 1) := by decide +kernel
theorem dX3_waysIn_15 : decode cX3_waysIn 15 = .ok (.getfield 15, 3) := by decide +kernel
theorem dX3_waysIn_18 : decode cX3_waysIn 18 = .ok (.iload_n 1, 1) := by decide +kernel
theorem dX3_waysIn_19 : decode cX3_waysIn 19 = .ok (.iconst 1, 1) := by decide +kernel
theorem dX3_waysIn_20 : decode cX3_waysIn 20 = .ok (.iadd, 1) := by decide +kernel
theorem dX3_waysIn_21 : decode cX3_waysIn 21 = .ok (.iaload, 1) := by decide +kernel
theorem dX3_waysIn_22 : decode cX3_waysIn 22 = .ok (.aload_n 0, 1) := by decide +kernel
theorem dX3_waysIn_23 : decode cX3_waysIn 23 = .ok (.getfield 15, 3) := by decide +kernel
theorem dX3_waysIn_26 : decode cX3_waysIn 26 = .ok (.iload_n 1, 1) := by decide +kernel
theorem dX3_waysIn_27 : decode cX3_waysIn 27 = .ok (.iaload, 1) := by decide +kernel
theorem dX3_waysIn_28 : decode cX3_waysIn 28 = .ok (.isub, 1) := by decide +kernel
theorem dX3_waysIn_29 : decode cX3_waysIn 29 = .ok (.goto 4, 3) := by decide +kernel
theorem dX3_waysIn_32 : decode cX3_waysIn 32 = .ok (.iconst 0, 1) := by decide +kernel
theorem dX3_waysIn_33 : decode cX3_waysIn 33 = .ok (.ireturn, 1) := by decide +kernel
set_option maxRecDepth 20000 in
theorem ggX3_taken_X3_waysIn : GoodIn wsX3_taken wsX3_waysIn := goodIn_r _ [7, 8, 2, 9, 10, 11, 12, 13, 14, 15, 16] (by decide +kernel) (by decide +kernel)
set_option maxRecDepth 20000 in
theorem gX3_taken_X3_waysIn : GoodIn wsX3_taken (wsV RX3 33 RX3 yX3_waysIn wsX3_waysIn) := goodIn_app (goodIn_of _ (by decide +kernel)) ggX3_taken_X3_waysIn
set_option maxRecDepth 20000 in
theorem ggX3_taken_X6_isIn : GoodIn wsX3_taken wsX6_isIn := goodIn_r _ [11] (by decide +kernel) (by decide +kernel)
set_option maxRecDepth 20000 in
theorem gX3_taken_X6_isIn_n29 : GoodIn wsX3_taken (wsX6_isIn) := ggX3_taken_X6_isIn
theorem dX3_taken_0 : decode cX3_taken 0 = .ok (.iload_n 2, 1) := by decide +kernel
theorem dX3_taken_1 : decode cX3_taken 1 = .ok (.iconst 0, 1) := by decide +kernel
theorem dX3_taken_2 : decode cX3_taken 2 = .ok (.aload_n 0, 1) := by decide +kernel
theorem dX3_taken_3 : decode cX3_taken 3 = .ok (.iload_n 1, 1) := by decide +kernel
theorem dX3_taken_4 : decode cX3_taken 4 = .ok (.invokevirtual 33, 3) := by decide +kernel
theorem dX3_taken_7 : decode cX3_taken 7 = .ok (.iconst 1, 1) := by decide +kernel
theorem dX3_taken_8 : decode cX3_taken 8 = .ok (.isub, 1) := by decide +kernel
theorem dX3_taken_9 : decode cX3_taken 9 = .ok (.invokestatic 29, 3) := by decide +kernel
theorem dX3_taken_12 : decode cX3_taken 12 = .ok (.ifCond .eq 19, 3) := by decide +kernel
theorem dX3_taken_15 : decode cX3_taken 15 = .ok (.aload_n 0, 1) := by decide +kernel
theorem dX3_taken_16 : decode cX3_taken 16 = .ok (.getfield 9, 3) := by decide +kernel
theorem dX3_taken_19 : decode cX3_taken 19 = .ok (.aload_n 0, 1) := by decide +kernel
theorem dX3_taken_20 : decode cX3_taken 20 = .ok (.getfield 15, 3) := by decide +kernel
theorem dX3_taken_23 : decode cX3_taken 23 = .ok (.iload_n 1, 1) := by decide +kernel
theorem dX3_taken_24 : decode cX3_taken 24 = .ok (.iaload, 1) := by decide +kernel
theorem dX3_taken_25 : decode cX3_taken 25 = .ok (.iload_n 2, 1) := by decide +kernel
theorem dX3_taken_26 : decode cX3_taken 26 = .ok (.iadd, 1) := by decide +kernel
theorem dX3_taken_27 : decode cX3_taken 27 = .ok (.iaload, 1) := by decide +kernel
theorem dX3_taken_28 : decode cX3_taken 28 = .ok (.goto 4, 3) := by decide +kernel
theorem dX3_taken_31 : decode cX3_taken 31 = .ok (.iconst (-1), 1) := by decide +kernel
theorem dX3_taken_32 : decode cX3_taken 32 = .ok (.ireturn, 1) := by decide +kernel
set_option maxRecDepth 20000 in
theorem ggX3_tell_X1_forget : GoodIn wsX3_tell wsX1_forget := goodIn_r _ [11, 12, 72, 73] (by decide +kernel) (by decide +kernel)
set_option maxRecDepth 20000 in
theorem gX3_tell_X1_forget : GoodIn wsX3_tell (wsV RX3 37 RX1 yX1_forget wsX1_forget) := goodIn_app (goodIn_of _ (by decide +kernel)) ggX3_tell_X1_forget
set_option maxRecDepth 20000 in
theorem ggX3_tell_X5_sizeOf : GoodIn wsX3_tell wsX5_sizeOf := goodIn_r _ [17, 18, 19, 20, 21, 16, 22, 23, 24, 25, 26, 57, 58, 59, 60, 61, 62, 63, 64, 65, 66] (by decide +kernel) (by decide +kernel)
set_option maxRecDepth 20000 in
theorem gX3_tell_X5_sizeOf : GoodIn wsX3_tell (wsV RX3 47 RX5 yX5_sizeOf wsX5_sizeOf) := goodIn_app (goodIn_of _ (by decide +kernel)) ggX3_tell_X5_sizeOf
set_option maxRecDepth 20000 in
theorem ggX3_tell_X3_sized : GoodIn wsX3_tell wsX3_sized := goodIn_r _ [30, 31] (by decide +kernel) (by decide +kernel)
set_option maxRecDepth 20000 in
theorem gX3_tell_X3_sized : GoodIn wsX3_tell (va_wsS RX3 50 yX3_sized wsX3_sized) := goodIn_app (goodIn_of _ (by decide +kernel)) ggX3_tell_X3_sized
set_option maxRecDepth 20000 in
theorem ggX3_tell_X1_add : GoodIn wsX3_tell wsX1_add := goodIn_r _ [35, 12, 36, 72, 73] (by decide +kernel) (by decide +kernel)
set_option maxRecDepth 20000 in
theorem gX3_tell_X1_add : GoodIn wsX3_tell (wsV RX3 54 RX1 yX1_add wsX1_add) := goodIn_app (goodIn_of _ (by decide +kernel)) ggX3_tell_X1_add
set_option maxRecDepth 20000 in
theorem ggX3_tell_X3_mergesOf : GoodIn wsX3_tell wsX3_mergesOf := goodIn_r _ [39, 40, 41, 29, 42] (by decide +kernel) (by decide +kernel)
set_option maxRecDepth 20000 in
theorem gX3_tell_X3_mergesOf : GoodIn wsX3_tell (va_wsS RX3 58 yX3_mergesOf wsX3_mergesOf) := goodIn_app (goodIn_of _ (by decide +kernel)) ggX3_tell_X3_mergesOf
set_option maxRecDepth 20000 in
theorem ggX3_tell_X3_waysOf : GoodIn wsX3_tell wsX3_waysOf := goodIn_r _ [42] (by decide +kernel) (by decide +kernel)
set_option maxRecDepth 20000 in
theorem gX3_tell_X3_waysOf : GoodIn wsX3_tell (va_wsS RX3 67 yX3_waysOf wsX3_waysOf) := goodIn_app (goodIn_of _ (by decide +kernel)) ggX3_tell_X3_waysOf
set_option maxRecDepth 20000 in
theorem ggX3_tell_X3_takeFewest : GoodIn wsX3_tell wsX3_takeFewest := goodIn_r _ [46, 47, 48, 31, 49, 50, 51, 10, 52, 12, 36, 53, 54, 55, 56, 67, 68, 69, 70, 71, 72, 73] (by decide +kernel) (by decide +kernel)
set_option maxRecDepth 20000 in
theorem gX3_tell_X3_takeFewest : GoodIn wsX3_tell (wsV RX3 71 RX3 yX3_takeFewest wsX3_takeFewest) := goodIn_app (goodIn_of _ (by decide +kernel)) ggX3_tell_X3_takeFewest
theorem dX3_tell_0 : decode cX3_tell 0 = .ok (.aload_n 3, 1) := by decide +kernel
theorem dX3_tell_1 : decode cX3_tell 1 = .ok (.invokevirtual 37, 3) := by decide +kernel
theorem dX3_tell_4 : decode cX3_tell 4 = .ok (.iconst 0, 1) := by decide +kernel
theorem dX3_tell_5 : decode cX3_tell 5 = .ok (.istore 4, 2) := by decide +kernel
theorem dX3_tell_7 : decode cX3_tell 7 = .ok (.iload 4, 2) := by decide +kernel
theorem dX3_tell_9 : decode cX3_tell 9 = .ok (.aload_n 1, 1) := by decide +kernel
theorem dX3_tell_10 : decode cX3_tell 10 = .ok (.getfield 42, 3) := by decide +kernel
theorem dX3_tell_13 : decode cX3_tell 13 = .ok (.if_icmp .ge 24, 3) := by decide +kernel
theorem dX3_tell_16 : decode cX3_tell 16 = .ok (.aload_n 3, 1) := by decide +kernel
theorem dX3_tell_17 : decode cX3_tell 17 = .ok (.aload_n 1, 1) := by decide +kernel
theorem dX3_tell_18 : decode cX3_tell 18 = .ok (.iload 4, 2) := by decide +kernel
theorem dX3_tell_20 : decode cX3_tell 20 = .ok (.invokevirtual 47, 3) := by decide +kernel
theorem dX3_tell_23 : decode cX3_tell 23 = .ok (.iload 4, 2) := by decide +kernel
theorem dX3_tell_25 : decode cX3_tell 25 = .ok (.invokestatic 50, 3) := by decide +kernel
theorem dX3_tell_28 : decode cX3_tell 28 = .ok (.invokevirtual 54, 3) := by decide +kernel
theorem dX3_tell_31 : decode cX3_tell 31 = .ok (.iinc 4 1, 3) := by decide +kernel
theorem dX3_tell_34 : decode cX3_tell 34 = .ok (.goto (-27), 3) := by decide +kernel
theorem dX3_tell_37 : decode cX3_tell 37 = .ok (.iconst 0, 1) := by decide +kernel
theorem dX3_tell_38 : decode cX3_tell 38 = .ok (.istore 4, 2) := by decide +kernel
theorem dX3_tell_40 : decode cX3_tell 40 = .ok (.aload_n 0, 1) := by decide +kernel
theorem dX3_tell_41 : decode cX3_tell 41 = .ok (.aload_n 1, 1) := by decide +kernel
theorem dX3_tell_42 : decode cX3_tell 42 = .ok (.getfield 42, 3) := by decide +kernel
theorem dX3_tell_45 : decode cX3_tell 45 = .ok (.iload_n 2, 1) := by decide +kernel
theorem dX3_tell_46 : decode cX3_tell 46 = .ok (.invokestatic 58, 3) := by decide +kernel
theorem dX3_tell_49 : decode cX3_tell 49 = .ok (.sipush 400, 3) := by decide +kernel
theorem dX3_tell_52 : decode cX3_tell 52 = .ok (.invokestatic 62, 3) := by decide +kernel
theorem dX3_tell_55 : decode cX3_tell 55 = .ok (.putfield 21, 3) := by decide +kernel
theorem dX3_tell_58 : decode cX3_tell 58 = .ok (.aload_n 0, 1) := by decide +kernel
theorem dX3_tell_59 : decode cX3_tell 59 = .ok (.iconst 1, 1) := by decide +kernel
theorem dX3_tell_60 : decode cX3_tell 60 = .ok (.putfield 25, 3) := by decide +kernel
theorem dX3_tell_63 : decode cX3_tell 63 = .ok (.iconst 0, 1) := by decide +kernel
theorem dX3_tell_64 : decode cX3_tell 64 = .ok (.istore 5, 2) := by decide +kernel
theorem dX3_tell_66 : decode cX3_tell 66 = .ok (.iload 5, 2) := by decide +kernel
theorem dX3_tell_68 : decode cX3_tell 68 = .ok (.aload_n 0, 1) := by decide +kernel
theorem dX3_tell_69 : decode cX3_tell 69 = .ok (.getfield 21, 3) := by decide +kernel
theorem dX3_tell_72 : decode cX3_tell 72 = .ok (.if_icmp .ge 51, 3) := by decide +kernel
theorem dX3_tell_75 : decode cX3_tell 75 = .ok (.aload_n 0, 1) := by decide +kernel
theorem dX3_tell_76 : decode cX3_tell 76 = .ok (.iload 5, 2) := by decide +kernel
theorem dX3_tell_78 : decode cX3_tell 78 = .ok (.iload 5, 2) := by decide +kernel
theorem dX3_tell_80 : decode cX3_tell 80 = .ok (.aload_n 1, 1) := by decide +kernel
theorem dX3_tell_81 : decode cX3_tell 81 = .ok (.getfield 42, 3) := by decide +kernel
theorem dX3_tell_84 : decode cX3_tell 84 = .ok (.iload_n 2, 1) := by decide +kernel
theorem dX3_tell_85 : decode cX3_tell 85 = .ok (.invokestatic 67, 3) := by decide +kernel
theorem dX3_tell_88 : decode cX3_tell 88 = .ok (.aload_n 3, 1) := by decide +kernel
theorem dX3_tell_89 : decode cX3_tell 89 = .ok (.invokevirtual 71, 3) := by decide +kernel
theorem dX3_tell_92 : decode cX3_tell 92 = .ok (.istore 6, 2) := by decide +kernel
theorem dX3_tell_94 : decode cX3_tell 94 = .ok (.aload_n 3, 1) := by decide +kernel
theorem dX3_tell_95 : decode cX3_tell 95 = .ok (.iload 6, 2) := by decide +kernel
theorem dX3_tell_97 : decode cX3_tell 97 = .ok (.aload_n 1, 1) := by decide +kernel
theorem dX3_tell_98 : decode cX3_tell 98 = .ok (.getfield 42, 3) := by decide +kernel
theorem dX3_tell_101 : decode cX3_tell 101 = .ok (.iload 5, 2) := by decide +kernel
theorem dX3_tell_103 : decode cX3_tell 103 = .ok (.iadd, 1) := by decide +kernel
theorem dX3_tell_104 : decode cX3_tell 104 = .ok (.invokestatic 50, 3) := by decide +kernel
theorem dX3_tell_107 : decode cX3_tell 107 = .ok (.invokevirtual 54, 3) := by decide +kernel
theorem dX3_tell_110 : decode cX3_tell 110 = .ok (.iload 4, 2) := by decide +kernel
theorem dX3_tell_112 : decode cX3_tell 112 = .ok (.iload 6, 2) := by decide +kernel
theorem dX3_tell_114 : decode cX3_tell 114 = .ok (.iadd, 1) := by decide +kernel
theorem dX3_tell_115 : decode cX3_tell 115 = .ok (.istore 4, 2) := by decide +kernel
theorem dX3_tell_117 : decode cX3_tell 117 = .ok (.iinc 5 1, 3) := by decide +kernel
theorem dX3_tell_120 : decode cX3_tell 120 = .ok (.goto (-54), 3) := by decide +kernel
theorem dX3_tell_123 : decode cX3_tell 123 = .ok (.iload 4, 2) := by decide +kernel
theorem dX3_tell_125 : decode cX3_tell 125 = .ok (.ireturn, 1) := by decide +kernel
set_option maxRecDepth 20000 in
theorem ggX3_takeFewest_X1_takeLeast : GoodIn wsX3_takeFewest wsX1_takeLeast := goodIn_r _ [8, 9, 10, 11, 12, 13, 7, 14, 20, 21] (by decide +kernel) (by decide +kernel)
set_option maxRecDepth 20000 in
theorem gX3_takeFewest_X1_takeLeast : GoodIn wsX3_takeFewest (wsV RX3 75 RX1 yX1_takeLeast wsX1_takeLeast) := goodIn_app (goodIn_of _ (by decide +kernel)) ggX3_takeFewest_X1_takeLeast
theorem dX3_takeFewest_0 : decode cX3_takeFewest 0 = .ok (.iconst 0, 1) := by decide +kernel
theorem dX3_takeFewest_1 : decode cX3_takeFewest 1 = .ok (.istore 4, 2) := by decide +kernel
theorem dX3_takeFewest_3 : decode cX3_takeFewest 3 = .ok (.aload_n 0, 1) := by decide +kernel
theorem dX3_takeFewest_4 : decode cX3_takeFewest 4 = .ok (.getfield 15, 3) := by decide +kernel
theorem dX3_takeFewest_7 : decode cX3_takeFewest 7 = .ok (.iload_n 1, 1) := by decide +kernel
theorem dX3_takeFewest_8 : decode cX3_takeFewest 8 = .ok (.iaload, 1) := by decide +kernel
theorem dX3_takeFewest_9 : decode cX3_takeFewest 9 = .ok (.istore 5, 2) := by decide +kernel
theorem dX3_takeFewest_11 : decode cX3_takeFewest 11 = .ok (.iconst 0, 1) := by decide +kernel
theorem dX3_takeFewest_12 : decode cX3_takeFewest 12 = .ok (.istore 6, 2) := by decide +kernel
theorem dX3_takeFewest_14 : decode cX3_takeFewest 14 = .ok (.iload 6, 2) := by decide +kernel
theorem dX3_takeFewest_16 : decode cX3_takeFewest 16 = .ok (.iload_n 2, 1) := by decide +kernel
theorem dX3_takeFewest_17 : decode cX3_takeFewest 17 = .ok (.if_icmp .ge 54, 3) := by decide +kernel
theorem dX3_takeFewest_20 : decode cX3_takeFewest 20 = .ok (.iload 5, 2) := by decide +kernel
theorem dX3_takeFewest_22 : decode cX3_takeFewest 22 = .ok (.aload_n 0, 1) := by decide +kernel
theorem dX3_takeFewest_23 : decode cX3_takeFewest 23 = .ok (.getfield 9, 3) := by decide +kernel
theorem dX3_takeFewest_26 : decode cX3_takeFewest 26 = .ok (.arraylength, 1) := by decide +kernel
theorem dX3_takeFewest_27 : decode cX3_takeFewest 27 = .ok (.if_icmp .ge 44, 3) := by decide +kernel
theorem dX3_takeFewest_30 : decode cX3_takeFewest 30 = .ok (.aload_n 3, 1) := by decide +kernel
theorem dX3_takeFewest_31 : decode cX3_takeFewest 31 = .ok (.invokevirtual 75, 3) := by decide +kernel
theorem dX3_takeFewest_34 : decode cX3_takeFewest 34 = .ok (.lstore 7, 2) := by decide +kernel
theorem dX3_takeFewest_36 : decode cX3_takeFewest 36 = .ok (.aload_n 0, 1) := by decide +kernel
theorem dX3_takeFewest_37 : decode cX3_takeFewest 37 = .ok (.getfield 9, 3) := by decide +kernel
theorem dX3_takeFewest_40 : decode cX3_takeFewest 40 = .ok (.iload 5, 2) := by decide +kernel
theorem dX3_takeFewest_42 : decode cX3_takeFewest 42 = .ok (.lload 7, 2) := by decide +kernel
theorem dX3_takeFewest_44 : decode cX3_takeFewest 44 = .ok (.ldc2_w 79, 3) := by decide +kernel
theorem dX3_takeFewest_47 : decode cX3_takeFewest 47 = .ok (.lrem, 1) := by decide +kernel
theorem dX3_takeFewest_48 : decode cX3_takeFewest 48 = .ok (.l2i, 1) := by decide +kernel
theorem dX3_takeFewest_49 : decode cX3_takeFewest 49 = .ok (.iastore, 1) := by decide +kernel
theorem dX3_takeFewest_50 : decode cX3_takeFewest 50 = .ok (.iload 4, 2) := by decide +kernel
theorem dX3_takeFewest_52 : decode cX3_takeFewest 52 = .ok (.lload 7, 2) := by decide +kernel
theorem dX3_takeFewest_54 : decode cX3_takeFewest 54 = .ok (.ldc2_w 79, 3) := by decide +kernel
theorem dX3_takeFewest_57 : decode cX3_takeFewest 57 = .ok (.ldiv, 1) := by decide +kernel
theorem dX3_takeFewest_58 : decode cX3_takeFewest 58 = .ok (.l2i, 1) := by decide +kernel
theorem dX3_takeFewest_59 : decode cX3_takeFewest 59 = .ok (.iadd, 1) := by decide +kernel
theorem dX3_takeFewest_60 : decode cX3_takeFewest 60 = .ok (.istore 4, 2) := by decide +kernel
theorem dX3_takeFewest_62 : decode cX3_takeFewest 62 = .ok (.iinc 5 1, 3) := by decide +kernel
theorem dX3_takeFewest_65 : decode cX3_takeFewest 65 = .ok (.iinc 6 1, 3) := by decide +kernel
theorem dX3_takeFewest_68 : decode cX3_takeFewest 68 = .ok (.goto (-54), 3) := by decide +kernel
theorem dX3_takeFewest_71 : decode cX3_takeFewest 71 = .ok (.aload_n 0, 1) := by decide +kernel
theorem dX3_takeFewest_72 : decode cX3_takeFewest 72 = .ok (.getfield 15, 3) := by decide +kernel
theorem dX3_takeFewest_75 : decode cX3_takeFewest 75 = .ok (.iload_n 1, 1) := by decide +kernel
theorem dX3_takeFewest_76 : decode cX3_takeFewest 76 = .ok (.iconst 1, 1) := by decide +kernel
theorem dX3_takeFewest_77 : decode cX3_takeFewest 77 = .ok (.iadd, 1) := by decide +kernel
theorem dX3_takeFewest_78 : decode cX3_takeFewest 78 = .ok (.iload 5, 2) := by decide +kernel
theorem dX3_takeFewest_80 : decode cX3_takeFewest 80 = .ok (.iastore, 1) := by decide +kernel
theorem dX3_takeFewest_81 : decode cX3_takeFewest 81 = .ok (.iload 4, 2) := by decide +kernel
theorem dX3_takeFewest_83 : decode cX3_takeFewest 83 = .ok (.ireturn, 1) := by decide +kernel
set_option maxRecDepth 20000 in
theorem ggX3_movedByQueue_X5_sizeOf : GoodIn wsX3_movedByQueue wsX5_sizeOf := goodIn_r _ [10, 11, 12, 13, 14, 9, 15, 16, 17, 18, 19, 27, 28, 29, 30, 31, 32, 33, 34, 35, 36] (by decide +kernel) (by decide +kernel)
set_option maxRecDepth 20000 in
theorem gX3_movedByQueue_X5_sizeOf : GoodIn wsX3_movedByQueue (wsV RX3 47 RX5 yX5_sizeOf wsX5_sizeOf) := goodIn_app (goodIn_of _ (by decide +kernel)) ggX3_movedByQueue_X5_sizeOf
set_option maxRecDepth 20000 in
theorem ggX3_movedByQueue_X3_mergesOf : GoodIn wsX3_movedByQueue wsX3_mergesOf := goodIn_r _ [23, 24, 25, 22, 26] (by decide +kernel) (by decide +kernel)
set_option maxRecDepth 20000 in
theorem gX3_movedByQueue_X3_mergesOf : GoodIn wsX3_movedByQueue (va_wsS RX3 58 yX3_mergesOf wsX3_mergesOf) := goodIn_app (goodIn_of _ (by decide +kernel)) ggX3_movedByQueue_X3_mergesOf
set_option maxRecDepth 20000 in
theorem ggX3_movedByQueue_X3_waysOf : GoodIn wsX3_movedByQueue wsX3_waysOf := goodIn_r _ [26] (by decide +kernel) (by decide +kernel)
set_option maxRecDepth 20000 in
theorem gX3_movedByQueue_X3_waysOf : GoodIn wsX3_movedByQueue (va_wsS RX3 67 yX3_waysOf wsX3_waysOf) := goodIn_app (goodIn_of _ (by decide +kernel)) ggX3_movedByQueue_X3_waysOf
theorem dX3_movedByQueue_0 : decode cX3_movedByQueue 0 = .ok (.iconst 0, 1) := by decide +kernel
theorem dX3_movedByQueue_1 : decode cX3_movedByQueue 1 = .ok (.istore_n 3, 1) := by decide +kernel
theorem dX3_movedByQueue_2 : decode cX3_movedByQueue 2 = .ok (.iload_n 3, 1) := by decide +kernel
theorem dX3_movedByQueue_3 : decode cX3_movedByQueue 3 = .ok (.aload_n 1, 1) := by decide +kernel
theorem dX3_movedByQueue_4 : decode cX3_movedByQueue 4 = .ok (.getfield 42, 3) := by decide +kernel
theorem dX3_movedByQueue_7 : decode cX3_movedByQueue 7 = .ok (.if_icmp .ge 20, 3) := by decide +kernel
theorem dX3_movedByQueue_10 : decode cX3_movedByQueue 10 = .ok (.aload_n 0, 1) := by decide +kernel
theorem dX3_movedByQueue_11 : decode cX3_movedByQueue 11 = .ok (.getfield 18, 3) := by decide +kernel
theorem dX3_movedByQueue_14 : decode cX3_movedByQueue 14 = .ok (.iload_n 3, 1) := by decide +kernel
theorem dX3_movedByQueue_15 : decode cX3_movedByQueue 15 = .ok (.aload_n 1, 1) := by decide +kernel
theorem dX3_movedByQueue_16 : decode cX3_movedByQueue 16 = .ok (.iload_n 3, 1) := by decide +kernel
theorem dX3_movedByQueue_17 : decode cX3_movedByQueue 17 = .ok (.invokevirtual 47, 3) := by decide +kernel
theorem dX3_movedByQueue_20 : decode cX3_movedByQueue 20 = .ok (.iastore, 1) := by decide +kernel
theorem dX3_movedByQueue_21 : decode cX3_movedByQueue 21 = .ok (.iinc 3 1, 3) := by decide +kernel
theorem dX3_movedByQueue_24 : decode cX3_movedByQueue 24 = .ok (.goto (-22), 3) := by decide +kernel
theorem dX3_movedByQueue_27 : decode cX3_movedByQueue 27 = .ok (.iconst 0, 1) := by decide +kernel
theorem dX3_movedByQueue_28 : decode cX3_movedByQueue 28 = .ok (.istore_n 3, 1) := by decide +kernel
theorem dX3_movedByQueue_29 : decode cX3_movedByQueue 29 = .ok (.iconst 0, 1) := by decide +kernel
theorem dX3_movedByQueue_30 : decode cX3_movedByQueue 30 = .ok (.istore 4, 2) := by decide +kernel
theorem dX3_movedByQueue_32 : decode cX3_movedByQueue 32 = .ok (.aload_n 1, 1) := by decide +kernel
theorem dX3_movedByQueue_33 : decode cX3_movedByQueue 33 = .ok (.getfield 42, 3) := by decide +kernel
theorem dX3_movedByQueue_36 : decode cX3_movedByQueue 36 = .ok (.aload_n 1, 1) := by decide +kernel
theorem dX3_movedByQueue_37 : decode cX3_movedByQueue 37 = .ok (.getfield 42, 3) := by decide +kernel
theorem dX3_movedByQueue_40 : decode cX3_movedByQueue 40 = .ok (.iload_n 2, 1) := by decide +kernel
theorem dX3_movedByQueue_41 : decode cX3_movedByQueue 41 = .ok (.invokestatic 58, 3) := by decide +kernel
theorem dX3_movedByQueue_44 : decode cX3_movedByQueue 44 = .ok (.iadd, 1) := by decide +kernel
theorem dX3_movedByQueue_45 : decode cX3_movedByQueue 45 = .ok (.sipush 799, 3) := by decide +kernel
theorem dX3_movedByQueue_48 : decode cX3_movedByQueue 48 = .ok (.invokestatic 62, 3) := by decide +kernel
theorem dX3_movedByQueue_51 : decode cX3_movedByQueue 51 = .ok (.istore 5, 2) := by decide +kernel
theorem dX3_movedByQueue_53 : decode cX3_movedByQueue 53 = .ok (.aload_n 1, 1) := by decide +kernel
theorem dX3_movedByQueue_54 : decode cX3_movedByQueue 54 = .ok (.getfield 42, 3) := by decide +kernel
theorem dX3_movedByQueue_57 : decode cX3_movedByQueue 57 = .ok (.istore 6, 2) := by decide +kernel
theorem dX3_movedByQueue_59 : decode cX3_movedByQueue 59 = .ok (.iload 6, 2) := by decide +kernel
theorem dX3_movedByQueue_61 : decode cX3_movedByQueue 61 = .ok (.iload 5, 2) := by decide +kernel
theorem dX3_movedByQueue_63 : decode cX3_movedByQueue 63 = .ok (.if_icmp .ge 78, 3) := by decide +kernel
theorem dX3_movedByQueue_66 : decode cX3_movedByQueue 66 = .ok (.iconst 0, 1) := by decide +kernel
theorem dX3_movedByQueue_67 : decode cX3_movedByQueue 67 = .ok (.istore 7, 2) := by decide +kernel
theorem dX3_movedByQueue_69 : decode cX3_movedByQueue 69 = .ok (.iload 4, 2) := by decide +kernel
theorem dX3_movedByQueue_71 : decode cX3_movedByQueue 71 = .ok (.iload 6, 2) := by decide +kernel
theorem dX3_movedByQueue_73 : decode cX3_movedByQueue 73 = .ok (.aload_n 1, 1) := by decide +kernel
theorem dX3_movedByQueue_74 : decode cX3_movedByQueue 74 = .ok (.getfield 42, 3) := by decide +kernel
theorem dX3_movedByQueue_77 : decode cX3_movedByQueue 77 = .ok (.isub, 1) := by decide +kernel
theorem dX3_movedByQueue_78 : decode cX3_movedByQueue 78 = .ok (.aload_n 1, 1) := by decide +kernel
theorem dX3_movedByQueue_79 : decode cX3_movedByQueue 79 = .ok (.getfield 42, 3) := by decide +kernel
theorem dX3_movedByQueue_82 : decode cX3_movedByQueue 82 = .ok (.iload_n 2, 1) := by decide +kernel
theorem dX3_movedByQueue_83 : decode cX3_movedByQueue 83 = .ok (.invokestatic 67, 3) := by decide +kernel
theorem dX3_movedByQueue_86 : decode cX3_movedByQueue 86 = .ok (.iadd, 1) := by decide +kernel
theorem dX3_movedByQueue_87 : decode cX3_movedByQueue 87 = .ok (.istore 8, 2) := by decide +kernel
theorem dX3_movedByQueue_89 : decode cX3_movedByQueue 89 = .ok (.iload 4, 2) := by decide +kernel
theorem dX3_movedByQueue_91 : decode cX3_movedByQueue 91 = .ok (.iload 8, 2) := by decide +kernel
theorem dX3_movedByQueue_93 : decode cX3_movedByQueue 93 = .ok (.if_icmp .ge 28, 3) := by decide +kernel
theorem dX3_movedByQueue_96 : decode cX3_movedByQueue 96 = .ok (.iload 4, 2) := by decide +kernel
theorem dX3_movedByQueue_98 : decode cX3_movedByQueue 98 = .ok (.iload 6, 2) := by decide +kernel
theorem dX3_movedByQueue_100 : decode cX3_movedByQueue 100 = .ok (.if_icmp .ge 21, 3) := by decide +kernel
theorem dX3_movedByQueue_103 : decode cX3_movedByQueue 103 = .ok (.iload 7, 2) := by decide +kernel
theorem dX3_movedByQueue_105 : decode cX3_movedByQueue 105 = .ok (.aload_n 0, 1) := by decide +kernel
theorem dX3_movedByQueue_106 : decode cX3_movedByQueue 106 = .ok (.getfield 18, 3) := by decide +kernel
theorem dX3_movedByQueue_109 : decode cX3_movedByQueue 109 = .ok (.iload 4, 2) := by decide +kernel
theorem dX3_movedByQueue_111 : decode cX3_movedByQueue 111 = .ok (.iaload, 1) := by decide +kernel
theorem dX3_movedByQueue_112 : decode cX3_movedByQueue 112 = .ok (.iadd, 1) := by decide +kernel
theorem dX3_movedByQueue_113 : decode cX3_movedByQueue 113 = .ok (.istore 7, 2) := by decide +kernel
theorem dX3_movedByQueue_115 : decode cX3_movedByQueue 115 = .ok (.iinc 4 1, 3) := by decide +kernel
theorem dX3_movedByQueue_118 : decode cX3_movedByQueue 118 = .ok (.goto (-29), 3) := by decide +kernel
theorem dX3_movedByQueue_121 : decode cX3_movedByQueue 121 = .ok (.aload_n 0, 1) := by decide +kernel
theorem dX3_movedByQueue_122 : decode cX3_movedByQueue 122 = .ok (.getfield 18, 3) := by decide +kernel
theorem dX3_movedByQueue_125 : decode cX3_movedByQueue 125 = .ok (.iload 6, 2) := by decide +kernel
theorem dX3_movedByQueue_127 : decode cX3_movedByQueue 127 = .ok (.iload 7, 2) := by decide +kernel
theorem dX3_movedByQueue_129 : decode cX3_movedByQueue 129 = .ok (.iastore, 1) := by decide +kernel
theorem dX3_movedByQueue_130 : decode cX3_movedByQueue 130 = .ok (.iload_n 3, 1) := by decide +kernel
theorem dX3_movedByQueue_131 : decode cX3_movedByQueue 131 = .ok (.iload 7, 2) := by decide +kernel
theorem dX3_movedByQueue_133 : decode cX3_movedByQueue 133 = .ok (.iadd, 1) := by decide +kernel
theorem dX3_movedByQueue_134 : decode cX3_movedByQueue 134 = .ok (.istore_n 3, 1) := by decide +kernel
theorem dX3_movedByQueue_135 : decode cX3_movedByQueue 135 = .ok (.iinc 6 1, 3) := by decide +kernel
theorem dX3_movedByQueue_138 : decode cX3_movedByQueue 138 = .ok (.goto (-79), 3) := by decide +kernel
theorem dX3_movedByQueue_141 : decode cX3_movedByQueue 141 = .ok (.iload_n 3, 1) := by decide +kernel
theorem dX3_movedByQueue_142 : decode cX3_movedByQueue 142 = .ok (.ireturn, 1) := by decide +kernel
theorem dX3_sized_0 : decode cX3_sized 0 = .ok (.iload_n 0, 1) := by decide +kernel
theorem dX3_sized_1 : decode cX3_sized 1 = .ok (.i2l, 1) := by decide +kernel
theorem dX3_sized_2 : decode cX3_sized 2 = .ok (.ldc2_w 79, 3) := by decide +kernel
theorem dX3_sized_5 : decode cX3_sized 5 = .ok (.lmul, 1) := by decide +kernel
theorem dX3_sized_6 : decode cX3_sized 6 = .ok (.iload_n 1, 1) := by decide +kernel
theorem dX3_sized_7 : decode cX3_sized 7 = .ok (.i2l, 1) := by decide +kernel
theorem dX3_sized_8 : decode cX3_sized 8 = .ok (.ladd, 1) := by decide +kernel
theorem dX3_sized_9 : decode cX3_sized 9 = .ok (.lreturn, 1) := by decide +kernel
theorem dX3_waysOf_0 : decode cX3_waysOf 0 = .ok (.iload_n 0, 1) := by decide +kernel
theorem dX3_waysOf_1 : decode cX3_waysOf 1 = .ok (.ifCond .gt 8, 3) := by decide +kernel
theorem dX3_waysOf_4 : decode cX3_waysOf 4 = .ok (.iload_n 2, 1) := by decide +kernel
theorem dX3_waysOf_5 : decode cX3_waysOf 5 = .ok (.iconst 2, 1) := by decide +kernel
theorem dX3_waysOf_6 : decode cX3_waysOf 6 = .ok (.if_icmp .ge 5, 3) := by decide +kernel
theorem dX3_waysOf_9 : decode cX3_waysOf 9 = .ok (.iload_n 2, 1) := by decide +kernel
theorem dX3_waysOf_10 : decode cX3_waysOf 10 = .ok (.ireturn, 1) := by decide +kernel
theorem dX3_waysOf_11 : decode cX3_waysOf 11 = .ok (.iconst 2, 1) := by decide +kernel
theorem dX3_waysOf_12 : decode cX3_waysOf 12 = .ok (.iload_n 1, 1) := by decide +kernel
theorem dX3_waysOf_13 : decode cX3_waysOf 13 = .ok (.iconst 2, 1) := by decide +kernel
theorem dX3_waysOf_14 : decode cX3_waysOf 14 = .ok (.isub, 1) := by decide +kernel
theorem dX3_waysOf_15 : decode cX3_waysOf 15 = .ok (.iload_n 2, 1) := by decide +kernel
theorem dX3_waysOf_16 : decode cX3_waysOf 16 = .ok (.iconst 1, 1) := by decide +kernel
theorem dX3_waysOf_17 : decode cX3_waysOf 17 = .ok (.isub, 1) := by decide +kernel
theorem dX3_waysOf_18 : decode cX3_waysOf 18 = .ok (.irem, 1) := by decide +kernel
theorem dX3_waysOf_19 : decode cX3_waysOf 19 = .ok (.iadd, 1) := by decide +kernel
theorem dX3_waysOf_20 : decode cX3_waysOf 20 = .ok (.ireturn, 1) := by decide +kernel
set_option maxRecDepth 20000 in
theorem ggX3_mergesOf_X3_waysOf : GoodIn wsX3_mergesOf wsX3_waysOf := goodIn_r _ [4] (by decide +kernel) (by decide +kernel)
set_option maxRecDepth 20000 in
theorem gX3_mergesOf_X3_waysOf : GoodIn wsX3_mergesOf (va_wsS RX3 67 yX3_waysOf wsX3_waysOf) := goodIn_app (goodIn_of _ (by decide +kernel)) ggX3_mergesOf_X3_waysOf
theorem dX3_mergesOf_0 : decode cX3_mergesOf 0 = .ok (.iload_n 0, 1) := by decide +kernel
theorem dX3_mergesOf_1 : decode cX3_mergesOf 1 = .ok (.iconst 2, 1) := by decide +kernel
theorem dX3_mergesOf_2 : decode cX3_mergesOf 2 = .ok (.if_icmp .lt 8, 3) := by decide +kernel
theorem dX3_mergesOf_5 : decode cX3_mergesOf 5 = .ok (.iload_n 1, 1) := by decide +kernel
theorem dX3_mergesOf_6 : decode cX3_mergesOf 6 = .ok (.iconst 2, 1) := by decide +kernel
theorem dX3_mergesOf_7 : decode cX3_mergesOf 7 = .ok (.if_icmp .ge 5, 3) := by decide +kernel
theorem dX3_mergesOf_10 : decode cX3_mergesOf 10 = .ok (.iconst 0, 1) := by decide +kernel
theorem dX3_mergesOf_11 : decode cX3_mergesOf 11 = .ok (.ireturn, 1) := by decide +kernel
theorem dX3_mergesOf_12 : decode cX3_mergesOf 12 = .ok (.iconst 1, 1) := by decide +kernel
theorem dX3_mergesOf_13 : decode cX3_mergesOf 13 = .ok (.iload_n 0, 1) := by decide +kernel
theorem dX3_mergesOf_14 : decode cX3_mergesOf 14 = .ok (.iconst 0, 1) := by decide +kernel
theorem dX3_mergesOf_15 : decode cX3_mergesOf 15 = .ok (.iload_n 0, 1) := by decide +kernel
theorem dX3_mergesOf_16 : decode cX3_mergesOf 16 = .ok (.iload_n 1, 1) := by decide +kernel
theorem dX3_mergesOf_17 : decode cX3_mergesOf 17 = .ok (.invokestatic 67, 3) := by decide +kernel
theorem dX3_mergesOf_20 : decode cX3_mergesOf 20 = .ok (.isub, 1) := by decide +kernel
theorem dX3_mergesOf_21 : decode cX3_mergesOf 21 = .ok (.iload_n 1, 1) := by decide +kernel
theorem dX3_mergesOf_22 : decode cX3_mergesOf 22 = .ok (.iconst 1, 1) := by decide +kernel
theorem dX3_mergesOf_23 : decode cX3_mergesOf 23 = .ok (.isub, 1) := by decide +kernel
theorem dX3_mergesOf_24 : decode cX3_mergesOf 24 = .ok (.idiv, 1) := by decide +kernel
theorem dX3_mergesOf_25 : decode cX3_mergesOf 25 = .ok (.iadd, 1) := by decide +kernel
theorem dX3_mergesOf_26 : decode cX3_mergesOf 26 = .ok (.ireturn, 1) := by decide +kernel
theorem dX4_init_0 : decode cX4_init 0 = .ok (.aload_n 0, 1) := by decide +kernel
theorem dX4_init_1 : decode cX4_init 1 = .ok (.invokespecial 3, 3) := by decide +kernel
theorem dX4_init_4 : decode cX4_init 4 = .ok (.aload_n 0, 1) := by decide +kernel
theorem dX4_init_5 : decode cX4_init 5 = .ok (.sipush 400, 3) := by decide +kernel
theorem dX4_init_8 : decode cX4_init 8 = .ok (.newarray .int, 2) := by decide +kernel
theorem dX4_init_10 : decode cX4_init 10 = .ok (.putfield 9, 3) := by decide +kernel
theorem dX4_init_13 : decode cX4_init 13 = .ok (.aload_n 0, 1) := by decide +kernel
theorem dX4_init_14 : decode cX4_init 14 = .ok (.sipush 400, 3) := by decide +kernel
theorem dX4_init_17 : decode cX4_init 17 = .ok (.newarray .int, 2) := by decide +kernel
theorem dX4_init_19 : decode cX4_init 19 = .ok (.putfield 15, 3) := by decide +kernel
theorem dX4_init_22 : decode cX4_init 22 = .ok (.aload_n 0, 1) := by decide +kernel
theorem dX4_init_23 : decode cX4_init 23 = .ok (.iconst 4, 1) := by decide +kernel
theorem dX4_init_24 : decode cX4_init 24 = .ok (.newarray .int, 2) := by decide +kernel
theorem dX4_init_26 : decode cX4_init 26 = .ok (.dup, 1) := by decide +kernel
theorem dX4_init_27 : decode cX4_init 27 = .ok (.iconst 0, 1) := by decide +kernel
theorem dX4_init_28 : decode cX4_init 28 = .ok (.iconst 0, 1) := by decide +kernel
theorem dX4_init_29 : decode cX4_init 29 = .ok (.iastore, 1) := by decide +kernel
theorem dX4_init_30 : decode cX4_init 30 = .ok (.dup, 1) := by decide +kernel
theorem dX4_init_31 : decode cX4_init 31 = .ok (.iconst 1, 1) := by decide +kernel
theorem dX4_init_32 : decode cX4_init 32 = .ok (.iconst 1, 1) := by decide +kernel
theorem dX4_init_33 : decode cX4_init 33 = .ok (.iastore, 1) := by decide +kernel
theorem dX4_init_34 : decode cX4_init 34 = .ok (.dup, 1) := by decide +kernel
theorem dX4_init_35 : decode cX4_init 35 = .ok (.iconst 2, 1) := by decide +kernel
theorem dX4_init_36 : decode cX4_init 36 = .ok (.iconst 2, 1) := by decide +kernel
theorem dX4_init_37 : decode cX4_init 37 = .ok (.iastore, 1) := by decide +kernel
theorem dX4_init_38 : decode cX4_init 38 = .ok (.dup, 1) := by decide +kernel
theorem dX4_init_39 : decode cX4_init 39 = .ok (.iconst 3, 1) := by decide +kernel
theorem dX4_init_40 : decode cX4_init 40 = .ok (.iconst 3, 1) := by decide +kernel
theorem dX4_init_41 : decode cX4_init 41 = .ok (.iastore, 1) := by decide +kernel
theorem dX4_init_42 : decode cX4_init 42 = .ok (.putfield 18, 3) := by decide +kernel
theorem dX4_init_45 : decode cX4_init 45 = .ok (.aload_n 0, 1) := by decide +kernel
theorem dX4_init_46 : decode cX4_init 46 = .ok (.iconst 4, 1) := by decide +kernel
theorem dX4_init_47 : decode cX4_init 47 = .ok (.newarray .boolean, 2) := by decide +kernel
theorem dX4_init_49 : decode cX4_init 49 = .ok (.putfield 21, 3) := by decide +kernel
theorem dX4_init_52 : decode cX4_init 52 = .ok (.return_, 1) := by decide +kernel
set_option maxRecDepth 20000 in
theorem ggX4_has_X6_isIn : GoodIn wsX4_has wsX6_isIn := goodIn_r _ [4] (by decide +kernel) (by decide +kernel)
set_option maxRecDepth 20000 in
theorem gX4_has_X6_isIn_n29 : GoodIn wsX4_has (wsX6_isIn) := ggX4_has_X6_isIn
theorem dX4_has_0 : decode cX4_has 0 = .ok (.iload_n 1, 1) := by decide +kernel
theorem dX4_has_1 : decode cX4_has 1 = .ok (.iconst 0, 1) := by decide +kernel
theorem dX4_has_2 : decode cX4_has 2 = .ok (.aload_n 0, 1) := by decide +kernel
theorem dX4_has_3 : decode cX4_has 3 = .ok (.getfield 25, 3) := by decide +kernel
theorem dX4_has_6 : decode cX4_has 6 = .ok (.iconst 1, 1) := by decide +kernel
theorem dX4_has_7 : decode cX4_has 7 = .ok (.isub, 1) := by decide +kernel
theorem dX4_has_8 : decode cX4_has 8 = .ok (.invokestatic 29, 3) := by decide +kernel
theorem dX4_has_11 : decode cX4_has 11 = .ok (.ireturn, 1) := by decide +kernel
theorem dX4_hasRoomFor_0 : decode cX4_hasRoomFor 0 = .ok (.iload_n 1, 1) := by decide +kernel
theorem dX4_hasRoomFor_1 : decode cX4_hasRoomFor 1 = .ok (.sipush 400, 3) := by decide +kernel
theorem dX4_hasRoomFor_4 : decode cX4_hasRoomFor 4 = .ok (.aload_n 0, 1) := by decide +kernel
theorem dX4_hasRoomFor_5 : decode cX4_hasRoomFor 5 = .ok (.getfield 25, 3) := by decide +kernel
theorem dX4_hasRoomFor_8 : decode cX4_hasRoomFor 8 = .ok (.isub, 1) := by decide +kernel
theorem dX4_hasRoomFor_9 : decode cX4_hasRoomFor 9 = .ok (.if_icmp .gt 7, 3) := by decide +kernel
theorem dX4_hasRoomFor_12 : decode cX4_hasRoomFor 12 = .ok (.iconst 1, 1) := by decide +kernel
theorem dX4_hasRoomFor_13 : decode cX4_hasRoomFor 13 = .ok (.goto 4, 3) := by decide +kernel
theorem dX4_hasRoomFor_16 : decode cX4_hasRoomFor 16 = .ok (.iconst 0, 1) := by decide +kernel
theorem dX4_hasRoomFor_17 : decode cX4_hasRoomFor 17 = .ok (.ireturn, 1) := by decide +kernel
theorem dX4_add_0 : decode cX4_add 0 = .ok (.aload_n 0, 1) := by decide +kernel
theorem dX4_add_1 : decode cX4_add 1 = .ok (.getfield 25, 3) := by decide +kernel
theorem dX4_add_4 : decode cX4_add 4 = .ok (.sipush 400, 3) := by decide +kernel
theorem dX4_add_7 : decode cX4_add 7 = .ok (.if_icmp .ge 33, 3) := by decide +kernel
theorem dX4_add_10 : decode cX4_add 10 = .ok (.aload_n 0, 1) := by decide +kernel
theorem dX4_add_11 : decode cX4_add 11 = .ok (.getfield 9, 3) := by decide +kernel
theorem dX4_add_14 : decode cX4_add 14 = .ok (.aload_n 0, 1) := by decide +kernel
theorem dX4_add_15 : decode cX4_add 15 = .ok (.getfield 25, 3) := by decide +kernel
theorem dX4_add_18 : decode cX4_add 18 = .ok (.iload_n 1, 1) := by decide +kernel
theorem dX4_add_19 : decode cX4_add 19 = .ok (.iastore, 1) := by decide +kernel
theorem dX4_add_20 : decode cX4_add 20 = .ok (.aload_n 0, 1) := by decide +kernel
theorem dX4_add_21 : decode cX4_add 21 = .ok (.getfield 15, 3) := by decide +kernel
theorem dX4_add_24 : decode cX4_add 24 = .ok (.aload_n 0, 1) := by decide +kernel
theorem dX4_add_25 : decode cX4_add 25 = .ok (.getfield 25, 3) := by decide +kernel
theorem dX4_add_28 : decode cX4_add 28 = .ok (.iload_n 2, 1) := by decide +kernel
theorem dX4_add_29 : decode cX4_add 29 = .ok (.iastore, 1) := by decide +kernel
theorem dX4_add_30 : decode cX4_add 30 = .ok (.aload_n 0, 1) := by decide +kernel
theorem dX4_add_31 : decode cX4_add 31 = .ok (.dup, 1) := by decide +kernel
theorem dX4_add_32 : decode cX4_add 32 = .ok (.getfield 25, 3) := by decide +kernel
theorem dX4_add_35 : decode cX4_add 35 = .ok (.iconst 1, 1) := by decide +kernel
theorem dX4_add_36 : decode cX4_add 36 = .ok (.iadd, 1) := by decide +kernel
theorem dX4_add_37 : decode cX4_add 37 = .ok (.putfield 25, 3) := by decide +kernel
theorem dX4_add_40 : decode cX4_add 40 = .ok (.return_, 1) := by decide +kernel
set_option maxRecDepth 20000 in
theorem ggX4_placeOf_X4_has : GoodIn wsX4_placeOf wsX4_has := goodIn_r _ [12, 13, 14, 15, 16, 17, 18, 19, 20, 21] (by decide +kernel) (by decide +kernel)
set_option maxRecDepth 20000 in
theorem gX4_placeOf_X4_has : GoodIn wsX4_placeOf (wsV RX4 33 RX4 yX4_has wsX4_has) := goodIn_app (goodIn_of _ (by decide +kernel)) ggX4_placeOf_X4_has
theorem dX4_placeOf_0 : decode cX4_placeOf 0 = .ok (.aload_n 0, 1) := by decide +kernel
theorem dX4_placeOf_1 : decode cX4_placeOf 1 = .ok (.iload_n 1, 1) := by decide +kernel
theorem dX4_placeOf_2 : decode cX4_placeOf 2 = .ok (.invokevirtual 33, 3) := by decide +kernel
theorem dX4_placeOf_5 : decode cX4_placeOf 5 = .ok (.ifCond .ne 6, 3) := by decide +kernel
theorem dX4_placeOf_8 : decode cX4_placeOf 8 = .ok (.ldc 37, 2) := by decide +kernel
theorem dX4_placeOf_10 : decode cX4_placeOf 10 = .ok (.ireturn, 1) := by decide +kernel
theorem dX4_placeOf_11 : decode cX4_placeOf 11 = .ok (.aload_n 0, 1) := by decide +kernel
theorem dX4_placeOf_12 : decode cX4_placeOf 12 = .ok (.getfield 9, 3) := by decide +kernel
theorem dX4_placeOf_15 : decode cX4_placeOf 15 = .ok (.iload_n 1, 1) := by decide +kernel
theorem dX4_placeOf_16 : decode cX4_placeOf 16 = .ok (.iaload, 1) := by decide +kernel
theorem dX4_placeOf_17 : decode cX4_placeOf 17 = .ok (.istore_n 2, 1) := by decide +kernel
theorem dX4_placeOf_18 : decode cX4_placeOf 18 = .ok (.aload_n 0, 1) := by decide +kernel
theorem dX4_placeOf_19 : decode cX4_placeOf 19 = .ok (.getfield 21, 3) := by decide +kernel
theorem dX4_placeOf_22 : decode cX4_placeOf 22 = .ok (.iload_n 2, 1) := by decide +kernel
theorem dX4_placeOf_23 : decode cX4_placeOf 23 = .ok (.baload, 1) := by decide +kernel
theorem dX4_placeOf_24 : decode cX4_placeOf 24 = .ok (.ifCond .eq 13, 3) := by decide +kernel
theorem dX4_placeOf_27 : decode cX4_placeOf 27 = .ok (.aload_n 0, 1) := by decide +kernel
theorem dX4_placeOf_28 : decode cX4_placeOf 28 = .ok (.getfield 15, 3) := by decide +kernel
theorem dX4_placeOf_31 : decode cX4_placeOf 31 = .ok (.iload_n 1, 1) := by decide +kernel
theorem dX4_placeOf_32 : decode cX4_placeOf 32 = .ok (.iaload, 1) := by decide +kernel
theorem dX4_placeOf_33 : decode cX4_placeOf 33 = .ok (.ineg, 1) := by decide +kernel
theorem dX4_placeOf_34 : decode cX4_placeOf 34 = .ok (.goto 9, 3) := by decide +kernel
theorem dX4_placeOf_37 : decode cX4_placeOf 37 = .ok (.aload_n 0, 1) := by decide +kernel
theorem dX4_placeOf_38 : decode cX4_placeOf 38 = .ok (.getfield 15, 3) := by decide +kernel
theorem dX4_placeOf_41 : decode cX4_placeOf 41 = .ok (.iload_n 1, 1) := by decide +kernel
theorem dX4_placeOf_42 : decode cX4_placeOf 42 = .ok (.iaload, 1) := by decide +kernel
theorem dX4_placeOf_43 : decode cX4_placeOf 43 = .ok (.istore_n 3, 1) := by decide +kernel
theorem dX4_placeOf_44 : decode cX4_placeOf 44 = .ok (.aload_n 0, 1) := by decide +kernel
theorem dX4_placeOf_45 : decode cX4_placeOf 45 = .ok (.getfield 18, 3) := by decide +kernel
theorem dX4_placeOf_48 : decode cX4_placeOf 48 = .ok (.iload_n 2, 1) := by decide +kernel
theorem dX4_placeOf_49 : decode cX4_placeOf 49 = .ok (.iaload, 1) := by decide +kernel
theorem dX4_placeOf_50 : decode cX4_placeOf 50 = .ok (.ldc 38, 2) := by decide +kernel
theorem dX4_placeOf_52 : decode cX4_placeOf 52 = .ok (.imul, 1) := by decide +kernel
theorem dX4_placeOf_53 : decode cX4_placeOf 53 = .ok (.iload_n 3, 1) := by decide +kernel
theorem dX4_placeOf_54 : decode cX4_placeOf 54 = .ok (.iadd, 1) := by decide +kernel
theorem dX4_placeOf_55 : decode cX4_placeOf 55 = .ok (.ldc 39, 2) := by decide +kernel
theorem dX4_placeOf_57 : decode cX4_placeOf 57 = .ok (.iadd, 1) := by decide +kernel
theorem dX4_placeOf_58 : decode cX4_placeOf 58 = .ok (.sipush 400, 3) := by decide +kernel
theorem dX4_placeOf_61 : decode cX4_placeOf 61 = .ok (.imul, 1) := by decide +kernel
theorem dX4_placeOf_62 : decode cX4_placeOf 62 = .ok (.iload_n 1, 1) := by decide +kernel
theorem dX4_placeOf_63 : decode cX4_placeOf 63 = .ok (.iadd, 1) := by decide +kernel
theorem dX4_placeOf_64 : decode cX4_placeOf 64 = .ok (.ireturn, 1) := by decide +kernel
theorem dX4_rowOf_0 : decode cX4_rowOf 0 = .ok (.lload_n 0, 1) := by decide +kernel
theorem dX4_rowOf_1 : decode cX4_rowOf 1 = .ok (.ldc2_w 40, 3) := by decide +kernel
theorem dX4_rowOf_4 : decode cX4_rowOf 4 = .ok (.lrem, 1) := by decide +kernel
theorem dX4_rowOf_5 : decode cX4_rowOf 5 = .ok (.l2i, 1) := by decide +kernel
theorem dX4_rowOf_6 : decode cX4_rowOf 6 = .ok (.ireturn, 1) := by decide +kernel
theorem dX5_init_0 : decode cX5_init 0 = .ok (.aload_n 0, 1) := by decide +kernel
theorem dX5_init_1 : decode cX5_init 1 = .ok (.invokespecial 3, 3) := by decide +kernel
theorem dX5_init_4 : decode cX5_init 4 = .ok (.aload_n 0, 1) := by decide +kernel
theorem dX5_init_5 : decode cX5_init 5 = .ok (.sipush 4000, 3) := by decide +kernel
theorem dX5_init_8 : decode cX5_init 8 = .ok (.newarray .int, 2) := by decide +kernel
theorem dX5_init_10 : decode cX5_init 10 = .ok (.putfield 9, 3) := by decide +kernel
