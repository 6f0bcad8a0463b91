set_option maxRecDepth 20000 in
theorem ggX4_fillFrom_X0_isLaid : GoodIn wsX4_fillFrom wsX0_isLaid := goodIn_r _ [59, 60, 91, 92, 93, 94, 95, 96, 97, 98] (by decide +kernel) (by decide +kernel)
set_option maxRecDepth 20000 in
theorem gX4_fillFrom_X0_isLaid : GoodIn wsX4_fillFrom (wsV RX4 72 RX0 yX0_isLaid wsX0_isLaid) := goodIn_app (goodIn_of _ (by decide +kernel)) ggX4_fillFrom_X0_isLaid
set_option maxRecDepth 20000 in
theorem ggX4_fillFrom_X3_reasonAgainst : GoodIn wsX4_fillFrom wsX3_reasonAgainst := goodIn_r _ [64, 25, 27, 26, 65, 28, 99, 100, 101, 102] (by decide +kernel) (by decide +kernel)
set_option maxRecDepth 20000 in
theorem gX4_fillFrom_X3_reasonAgainst : GoodIn wsX4_fillFrom (wsV RX4 79 RX3 yX3_reasonAgainst wsX3_reasonAgainst) := goodIn_app (goodIn_of _ (by decide +kernel)) ggX4_fillFrom_X3_reasonAgainst
set_option maxRecDepth 20000 in
theorem ggX4_fillFrom_X4_tryPlacing : GoodIn wsX4_fillFrom wsX4_tryPlacing := goodIn_r _ [70, 71, 72, 4, 1, 73, 74, 75, 11, 76, 19, 60, 77, 78, 79, 69, 80, 81, 82, 83, 0, 2, 3, 5, 6, 7, 8, 9, 10, 12, 13, 14, 15, 16, 17, 18, 20, 21, 22, 23, 24, 25, 26, 27, 28, 29, 30, 31, 32, 33, 34, 35, 36, 37, 38, 39, 40, 41, 42, 43, 44, 45, 46, 47, 48, 49, 50, 51, 52, 53, 54, 55, 56, 57, 58, 59, 61, 62, 63, 64, 65, 66, 67, 68, 84, 85, 86, 87, 88, 89, 90, 91, 92, 93, 94, 95, 96, 97, 98, 99, 100, 101, 102] (by decide +kernel) (by decide +kernel)
set_option maxRecDepth 20000 in
theorem gX4_fillFrom_X4_tryPlacing : GoodIn wsX4_fillFrom (wsV RX4 82 RX4 yX4_tryPlacing wsX4_tryPlacing) := goodIn_app (goodIn_of _ (by decide +kernel)) ggX4_fillFrom_X4_tryPlacing
theorem dX4_fillFrom_0 : decode cX4_fillFrom 0 = .ok (.iload_n 1, 1) := by decide +kernel
theorem dX4_fillFrom_1 : decode cX4_fillFrom 1 = .ok (.istore_n 2, 1) := by decide +kernel
theorem dX4_fillFrom_2 : decode cX4_fillFrom 2 = .ok (.iload_n 2, 1) := by decide +kernel
theorem dX4_fillFrom_3 : decode cX4_fillFrom 3 = .ok (.aload_n 0, 1) := by decide +kernel
theorem dX4_fillFrom_4 : decode cX4_fillFrom 4 = .ok (.getfield 12, 3) := by decide +kernel
theorem dX4_fillFrom_7 : decode cX4_fillFrom 7 = .ok (.invokevirtual 57, 3) := by decide +kernel
theorem dX4_fillFrom_10 : decode cX4_fillFrom 10 = .ok (.if_icmp .ge 20, 3) := by decide +kernel
theorem dX4_fillFrom_13 : decode cX4_fillFrom 13 = .ok (.aload_n 0, 1) := by decide +kernel
theorem dX4_fillFrom_14 : decode cX4_fillFrom 14 = .ok (.getfield 12, 3) := by decide +kernel
theorem dX4_fillFrom_17 : decode cX4_fillFrom 17 = .ok (.iload_n 2, 1) := by decide +kernel
theorem dX4_fillFrom_18 : decode cX4_fillFrom 18 = .ok (.invokevirtual 61, 3) := by decide +kernel
theorem dX4_fillFrom_21 : decode cX4_fillFrom 21 = .ok (.ifCond .ne 9, 3) := by decide +kernel
theorem dX4_fillFrom_24 : decode cX4_fillFrom 24 = .ok (.iinc 2 1, 3) := by decide +kernel
theorem dX4_fillFrom_27 : decode cX4_fillFrom 27 = .ok (.goto (-25), 3) := by decide +kernel
theorem dX4_fillFrom_30 : decode cX4_fillFrom 30 = .ok (.iload_n 2, 1) := by decide +kernel
theorem dX4_fillFrom_31 : decode cX4_fillFrom 31 = .ok (.aload_n 0, 1) := by decide +kernel
theorem dX4_fillFrom_32 : decode cX4_fillFrom 32 = .ok (.getfield 12, 3) := by decide +kernel
theorem dX4_fillFrom_35 : decode cX4_fillFrom 35 = .ok (.invokevirtual 57, 3) := by decide +kernel
theorem dX4_fillFrom_38 : decode cX4_fillFrom 38 = .ok (.if_icmp .lt 34, 3) := by decide +kernel
theorem dX4_fillFrom_41 : decode cX4_fillFrom 41 = .ok (.aload_n 0, 1) := by decide +kernel
theorem dX4_fillFrom_42 : decode cX4_fillFrom 42 = .ok (.dup, 1) := by decide +kernel
theorem dX4_fillFrom_43 : decode cX4_fillFrom 43 = .ok (.getfield 18, 3) := by decide +kernel
theorem dX4_fillFrom_46 : decode cX4_fillFrom 46 = .ok (.iconst 1, 1) := by decide +kernel
theorem dX4_fillFrom_47 : decode cX4_fillFrom 47 = .ok (.iadd, 1) := by decide +kernel
theorem dX4_fillFrom_48 : decode cX4_fillFrom 48 = .ok (.putfield 18, 3) := by decide +kernel
theorem dX4_fillFrom_51 : decode cX4_fillFrom 51 = .ok (.aload_n 0, 1) := by decide +kernel
theorem dX4_fillFrom_52 : decode cX4_fillFrom 52 = .ok (.aload_n 0, 1) := by decide +kernel
theorem dX4_fillFrom_53 : decode cX4_fillFrom 53 = .ok (.getfield 18, 3) := by decide +kernel
theorem dX4_fillFrom_56 : decode cX4_fillFrom 56 = .ok (.aload_n 0, 1) := by decide +kernel
theorem dX4_fillFrom_57 : decode cX4_fillFrom 57 = .ok (.getfield 28, 3) := by decide +kernel
theorem dX4_fillFrom_60 : decode cX4_fillFrom 60 = .ok (.if_icmp .lt 7, 3) := by decide +kernel
theorem dX4_fillFrom_63 : decode cX4_fillFrom 63 = .ok (.iconst 1, 1) := by decide +kernel
theorem dX4_fillFrom_64 : decode cX4_fillFrom 64 = .ok (.goto 4, 3) := by decide +kernel
theorem dX4_fillFrom_67 : decode cX4_fillFrom 67 = .ok (.iconst 0, 1) := by decide +kernel
theorem dX4_fillFrom_68 : decode cX4_fillFrom 68 = .ok (.putfield 38, 3) := by decide +kernel
theorem dX4_fillFrom_71 : decode cX4_fillFrom 71 = .ok (.return_, 1) := by decide +kernel
theorem dX4_fillFrom_72 : decode cX4_fillFrom 72 = .ok (.aload_n 0, 1) := by decide +kernel
theorem dX4_fillFrom_73 : decode cX4_fillFrom 73 = .ok (.getfield 24, 3) := by decide +kernel
theorem dX4_fillFrom_76 : decode cX4_fillFrom 76 = .ok (.iload_n 2, 1) := by decide +kernel
theorem dX4_fillFrom_77 : decode cX4_fillFrom 77 = .ok (.aaload, 1) := by decide +kernel
theorem dX4_fillFrom_78 : decode cX4_fillFrom 78 = .ok (.aload_n 0, 1) := by decide +kernel
theorem dX4_fillFrom_79 : decode cX4_fillFrom 79 = .ok (.getfield 12, 3) := by decide +kernel
theorem dX4_fillFrom_82 : decode cX4_fillFrom 82 = .ok (.iload_n 2, 1) := by decide +kernel
theorem dX4_fillFrom_83 : decode cX4_fillFrom 83 = .ok (.invokevirtual 65, 3) := by decide +kernel
theorem dX4_fillFrom_86 : decode cX4_fillFrom 86 = .ok (.iconst 0, 1) := by decide +kernel
theorem dX4_fillFrom_87 : decode cX4_fillFrom 87 = .ok (.istore_n 3, 1) := by decide +kernel
theorem dX4_fillFrom_88 : decode cX4_fillFrom 88 = .ok (.iload_n 3, 1) := by decide +kernel
theorem dX4_fillFrom_89 : decode cX4_fillFrom 89 = .ok (.aload_n 0, 1) := by decide +kernel
theorem dX4_fillFrom_90 : decode cX4_fillFrom 90 = .ok (.getfield 12, 3) := by decide +kernel
theorem dX4_fillFrom_93 : decode cX4_fillFrom 93 = .ok (.getfield 69, 3) := by decide +kernel
theorem dX4_fillFrom_96 : decode cX4_fillFrom 96 = .ok (.if_icmp .ge 98, 3) := by decide +kernel
theorem dX4_fillFrom_99 : decode cX4_fillFrom 99 = .ok (.aload_n 0, 1) := by decide +kernel
theorem dX4_fillFrom_100 : decode cX4_fillFrom 100 = .ok (.getfield 38, 3) := by decide +kernel
theorem dX4_fillFrom_103 : decode cX4_fillFrom 103 = .ok (.ifCond .ne 91, 3) := by decide +kernel
theorem dX4_fillFrom_106 : decode cX4_fillFrom 106 = .ok (.bipush 8, 2) := by decide +kernel
theorem dX4_fillFrom_108 : decode cX4_fillFrom 108 = .ok (.iload_n 3, 1) := by decide +kernel
theorem dX4_fillFrom_109 : decode cX4_fillFrom 109 = .ok (.imul, 1) := by decide +kernel
theorem dX4_fillFrom_110 : decode cX4_fillFrom 110 = .ok (.istore 4, 2) := by decide +kernel
theorem dX4_fillFrom_112 : decode cX4_fillFrom 112 = .ok (.aload_n 0, 1) := by decide +kernel
theorem dX4_fillFrom_113 : decode cX4_fillFrom 113 = .ok (.getfield 12, 3) := by decide +kernel
theorem dX4_fillFrom_116 : decode cX4_fillFrom 116 = .ok (.iload_n 3, 1) := by decide +kernel
theorem dX4_fillFrom_117 : decode cX4_fillFrom 117 = .ok (.invokevirtual 72, 3) := by decide +kernel
theorem dX4_fillFrom_120 : decode cX4_fillFrom 120 = .ok (.ifCond .eq 8, 3) := by decide +kernel
theorem dX4_fillFrom_123 : decode cX4_fillFrom 123 = .ok (.iload 4, 2) := by decide +kernel
theorem dX4_fillFrom_125 : decode cX4_fillFrom 125 = .ok (.goto 8, 3) := by decide +kernel
theorem dX4_fillFrom_128 : decode cX4_fillFrom 128 = .ok (.iload 4, 2) := by decide +kernel
theorem dX4_fillFrom_130 : decode cX4_fillFrom 130 = .ok (.bipush 8, 2) := by decide +kernel
theorem dX4_fillFrom_132 : decode cX4_fillFrom 132 = .ok (.iadd, 1) := by decide +kernel
theorem dX4_fillFrom_133 : decode cX4_fillFrom 133 = .ok (.istore 5, 2) := by decide +kernel
theorem dX4_fillFrom_135 : decode cX4_fillFrom 135 = .ok (.iload 4, 2) := by decide +kernel
theorem dX4_fillFrom_137 : decode cX4_fillFrom 137 = .ok (.istore 6, 2) := by decide +kernel
theorem dX4_fillFrom_139 : decode cX4_fillFrom 139 = .ok (.iload 6, 2) := by decide +kernel
theorem dX4_fillFrom_141 : decode cX4_fillFrom 141 = .ok (.iload 5, 2) := by decide +kernel
theorem dX4_fillFrom_143 : decode cX4_fillFrom 143 = .ok (.if_icmp .ge 45, 3) := by decide +kernel
theorem dX4_fillFrom_146 : decode cX4_fillFrom 146 = .ok (.aload_n 0, 1) := by decide +kernel
theorem dX4_fillFrom_147 : decode cX4_fillFrom 147 = .ok (.getfield 38, 3) := by decide +kernel
theorem dX4_fillFrom_150 : decode cX4_fillFrom 150 = .ok (.ifCond .ne 38, 3) := by decide +kernel
theorem dX4_fillFrom_153 : decode cX4_fillFrom 153 = .ok (.aload_n 0, 1) := by decide +kernel
theorem dX4_fillFrom_154 : decode cX4_fillFrom 154 = .ok (.getfield 24, 3) := by decide +kernel
theorem dX4_fillFrom_157 : decode cX4_fillFrom 157 = .ok (.iload_n 2, 1) := by decide +kernel
theorem dX4_fillFrom_158 : decode cX4_fillFrom 158 = .ok (.aaload, 1) := by decide +kernel
theorem dX4_fillFrom_159 : decode cX4_fillFrom 159 = .ok (.aload_n 0, 1) := by decide +kernel
theorem dX4_fillFrom_160 : decode cX4_fillFrom 160 = .ok (.getfield 12, 3) := by decide +kernel
theorem dX4_fillFrom_163 : decode cX4_fillFrom 163 = .ok (.getfield 75, 3) := by decide +kernel
theorem dX4_fillFrom_166 : decode cX4_fillFrom 166 = .ok (.iload 6, 2) := by decide +kernel
theorem dX4_fillFrom_168 : decode cX4_fillFrom 168 = .ok (.iaload, 1) := by decide +kernel
theorem dX4_fillFrom_169 : decode cX4_fillFrom 169 = .ok (.invokevirtual 79, 3) := by decide +kernel
theorem dX4_fillFrom_172 : decode cX4_fillFrom 172 = .ok (.ifCond .ne 10, 3) := by decide +kernel
theorem dX4_fillFrom_175 : decode cX4_fillFrom 175 = .ok (.aload_n 0, 1) := by decide +kernel
theorem dX4_fillFrom_176 : decode cX4_fillFrom 176 = .ok (.iload_n 2, 1) := by decide +kernel
theorem dX4_fillFrom_177 : decode cX4_fillFrom 177 = .ok (.iload 6, 2) := by decide +kernel
theorem dX4_fillFrom_179 : decode cX4_fillFrom 179 = .ok (.invokevirtual 82, 3) := by decide +kernel
theorem dX4_fillFrom_182 : decode cX4_fillFrom 182 = .ok (.iinc 6 1, 3) := by decide +kernel
theorem dX4_fillFrom_185 : decode cX4_fillFrom 185 = .ok (.goto (-46), 3) := by decide +kernel
theorem dX4_fillFrom_188 : decode cX4_fillFrom 188 = .ok (.iinc 3 1, 3) := by decide +kernel
theorem dX4_fillFrom_191 : decode cX4_fillFrom 191 = .ok (.goto (-103), 3) := by decide +kernel
theorem dX4_fillFrom_194 : decode cX4_fillFrom 194 = .ok (.return_, 1) := by decide +kernel
set_option maxRecDepth 20000 in
theorem ggX4_tryPlacing_X0_put : GoodIn wsX4_tryPlacing wsX0_put := goodIn_r _ [9, 10, 11, 91, 92, 93, 94, 95, 96, 97, 98] (by decide +kernel) (by decide +kernel)
set_option maxRecDepth 20000 in
theorem gX4_tryPlacing_X0_put : GoodIn wsX4_tryPlacing (wsV RX4 86 RX0 yX0_put wsX0_put) := goodIn_app (goodIn_of _ (by decide +kernel)) ggX4_tryPlacing_X0_put
set_option maxRecDepth 20000 in
theorem ggX4_tryPlacing_X4_fillFrom : GoodIn wsX4_tryPlacing wsX4_fillFrom := goodIn_r _ [20, 4, 21, 22, 3, 23, 24, 25, 26, 27, 28, 8, 29, 30, 31, 32, 33, 34, 35, 10, 36, 37, 38, 39, 40, 41, 42, 43, 44, 45, 46, 47, 48, 49, 50, 51, 52, 53, 54, 55, 56, 57, 58, 59, 60, 61, 62, 63, 64, 65, 66, 67, 68, 69, 70, 71, 72, 73, 74, 75, 11, 76, 77, 78, 79, 80, 81, 82, 83, 15, 0, 1, 2, 5, 6, 7, 9, 12, 13, 14, 16, 17, 18, 19, 84, 85, 86, 87, 88, 89, 90, 91, 92, 93, 94, 95, 96, 97, 98, 99, 100, 101, 102] (by decide +kernel) (by decide +kernel)
set_option maxRecDepth 20000 in
theorem gX4_tryPlacing_X4_fillFrom : GoodIn wsX4_tryPlacing (wsV RX4 54 RX4 yX4_fillFrom wsX4_fillFrom) := goodIn_app (goodIn_of _ (by decide +kernel)) ggX4_tryPlacing_X4_fillFrom
set_option maxRecDepth 20000 in
theorem ggX4_tryPlacing_X0_remove : GoodIn wsX4_tryPlacing wsX0_remove := goodIn_r _ [19, 11, 10, 91, 92, 93, 94, 95, 96, 97, 98] (by decide +kernel) (by decide +kernel)
set_option maxRecDepth 20000 in
theorem gX4_tryPlacing_X0_remove : GoodIn wsX4_tryPlacing (wsV RX4 89 RX0 yX0_remove wsX0_remove) := goodIn_app (goodIn_of _ (by decide +kernel)) ggX4_tryPlacing_X0_remove
theorem dX4_tryPlacing_0 : decode cX4_tryPlacing 0 = .ok (.aload_n 0, 1) := by decide +kernel
theorem dX4_tryPlacing_1 : decode cX4_tryPlacing 1 = .ok (.getfield 31, 3) := by decide +kernel
theorem dX4_tryPlacing_4 : decode cX4_tryPlacing 4 = .ok (.sipush 600, 3) := by decide +kernel
theorem dX4_tryPlacing_7 : decode cX4_tryPlacing 7 = .ok (.if_icmp .lt 14, 3) := by decide +kernel
theorem dX4_tryPlacing_10 : decode cX4_tryPlacing 10 = .ok (.aload_n 0, 1) := by decide +kernel
theorem dX4_tryPlacing_11 : decode cX4_tryPlacing 11 = .ok (.iconst 1, 1) := by decide +kernel
theorem dX4_tryPlacing_12 : decode cX4_tryPlacing 12 = .ok (.putfield 34, 3) := by decide +kernel
theorem dX4_tryPlacing_15 : decode cX4_tryPlacing 15 = .ok (.aload_n 0, 1) := by decide +kernel
theorem dX4_tryPlacing_16 : decode cX4_tryPlacing 16 = .ok (.iconst 1, 1) := by decide +kernel
theorem dX4_tryPlacing_17 : decode cX4_tryPlacing 17 = .ok (.putfield 38, 3) := by decide +kernel
theorem dX4_tryPlacing_20 : decode cX4_tryPlacing 20 = .ok (.return_, 1) := by decide +kernel
theorem dX4_tryPlacing_21 : decode cX4_tryPlacing 21 = .ok (.aload_n 0, 1) := by decide +kernel
theorem dX4_tryPlacing_22 : decode cX4_tryPlacing 22 = .ok (.dup, 1) := by decide +kernel
theorem dX4_tryPlacing_23 : decode cX4_tryPlacing 23 = .ok (.getfield 31, 3) := by decide +kernel
theorem dX4_tryPlacing_26 : decode cX4_tryPlacing 26 = .ok (.iconst 1, 1) := by decide +kernel
theorem dX4_tryPlacing_27 : decode cX4_tryPlacing 27 = .ok (.iadd, 1) := by decide +kernel
theorem dX4_tryPlacing_28 : decode cX4_tryPlacing 28 = .ok (.putfield 31, 3) := by decide +kernel
theorem dX4_tryPlacing_31 : decode cX4_tryPlacing 31 = .ok (.aload_n 0, 1) := by decide +kernel
theorem dX4_tryPlacing_32 : decode cX4_tryPlacing 32 = .ok (.getfield 12, 3) := by decide +kernel
theorem dX4_tryPlacing_35 : decode cX4_tryPlacing 35 = .ok (.iload_n 1, 1) := by decide +kernel
theorem dX4_tryPlacing_36 : decode cX4_tryPlacing 36 = .ok (.iload_n 2, 1) := by decide +kernel
theorem dX4_tryPlacing_37 : decode cX4_tryPlacing 37 = .ok (.invokevirtual 86, 3) := by decide +kernel
theorem dX4_tryPlacing_40 : decode cX4_tryPlacing 40 = .ok (.aload_n 0, 1) := by decide +kernel
theorem dX4_tryPlacing_41 : decode cX4_tryPlacing 41 = .ok (.iload_n 1, 1) := by decide +kernel
theorem dX4_tryPlacing_42 : decode cX4_tryPlacing 42 = .ok (.iconst 1, 1) := by decide +kernel
theorem dX4_tryPlacing_43 : decode cX4_tryPlacing 43 = .ok (.iadd, 1) := by decide +kernel
theorem dX4_tryPlacing_44 : decode cX4_tryPlacing 44 = .ok (.invokevirtual 54, 3) := by decide +kernel
theorem dX4_tryPlacing_47 : decode cX4_tryPlacing 47 = .ok (.aload_n 0, 1) := by decide +kernel
theorem dX4_tryPlacing_48 : decode cX4_tryPlacing 48 = .ok (.getfield 38, 3) := by decide +kernel
theorem dX4_tryPlacing_51 : decode cX4_tryPlacing 51 = .ok (.ifCond .ne 11, 3) := by decide +kernel
theorem dX4_tryPlacing_54 : decode cX4_tryPlacing 54 = .ok (.aload_n 0, 1) := by decide +kernel
theorem dX4_tryPlacing_55 : decode cX4_tryPlacing 55 = .ok (.getfield 12, 3) := by decide +kernel
theorem dX4_tryPlacing_58 : decode cX4_tryPlacing 58 = .ok (.iload_n 1, 1) := by decide +kernel
theorem dX4_tryPlacing_59 : decode cX4_tryPlacing 59 = .ok (.invokevirtual 89, 3) := by decide +kernel
theorem dX4_tryPlacing_62 : decode cX4_tryPlacing 62 = .ok (.return_, 1) := by decide +kernel
theorem dX5_init_0 : decode cX5_init 0 = .ok (.aload_n 0, 1) := by decide +kernel
theorem dX5_init_1 : decode cX5_init 1 = .ok (.invokespecial 3, 3) := by decide +kernel
theorem dX5_init_4 : decode cX5_init 4 = .ok (.aload_n 0, 1) := by decide +kernel
theorem dX5_init_5 : decode cX5_init 5 = .ok (.bipush 60, 2) := by decide +kernel
theorem dX5_init_7 : decode cX5_init 7 = .ok (.newarray .int, 2) := by decide +kernel
theorem dX5_init_9 : decode cX5_init 9 = .ok (.putfield 9, 3) := by decide +kernel
theorem dX5_init_12 : decode cX5_init 12 = .ok (.aload_n 0, 1) := by decide +kernel
theorem dX5_init_13 : decode cX5_init 13 = .ok (.iconst 0, 1) := by decide +kernel
theorem dX5_init_14 : decode cX5_init 14 = .ok (.putfield 15, 3) := by decide +kernel
theorem dX5_init_17 : decode cX5_init 17 = .ok (.return_, 1) := by decide +kernel
set_option maxRecDepth 20000 in
theorem ggX6_init_X0_init : GoodIn wsX6_init wsX0_init := goodIn_r _ [29, 30, 2, 3, 31, 32, 33, 34, 35, 36, 37, 38, 39, 83, 84, 85, 86, 87, 88, 89, 90] (by decide +kernel) (by decide +kernel)
set_option maxRecDepth 20000 in
theorem gX6_init_X0_init_n11 : GoodIn wsX6_init (wsX0_init) := ggX6_init_X0_init
set_option maxRecDepth 20000 in
theorem ggX6_init_X2_init : GoodIn wsX6_init wsX2_init := goodIn_r _ [42, 43, 2, 3, 44, 45, 46, 47, 5, 6, 28, 29, 30, 31, 32, 33, 34, 35, 36, 37, 38, 39, 97, 98, 99, 83, 84, 85, 86, 87, 88, 89, 90] (by decide +kernel) (by decide +kernel)
set_option maxRecDepth 20000 in
theorem gX6_init_X2_init : GoodIn wsX6_init (wsX2_init) := ggX6_init_X2_init
set_option maxRecDepth 20000 in
theorem ggX6_init_X5_init : GoodIn wsX6_init wsX5_init := goodIn_r _ [49, 50, 2, 3, 36, 51, 52, 100, 101] (by decide +kernel) (by decide +kernel)
set_option maxRecDepth 20000 in
theorem gX6_init_X5_init_n25 : GoodIn wsX6_init (wsX5_init) := ggX6_init_X5_init
set_option maxRecDepth 20000 in
theorem ggX6_init_X3_init : GoodIn wsX6_init wsX3_init := goodIn_r _ [54, 55, 2, 3, 56, 57, 58, 59, 102, 103, 104, 105] (by decide +kernel) (by decide +kernel)
set_option maxRecDepth 20000 in
theorem gX6_init_X3_init_n32 : GoodIn wsX6_init (wsX3_init) := ggX6_init_X3_init
set_option maxRecDepth 20000 in
theorem ggX6_init_X4_init : GoodIn wsX6_init wsX4_init := goodIn_r _ [62, 63, 2, 3, 64, 5, 6, 65, 66, 67, 68, 69, 70, 71, 72, 17, 18, 28, 29, 30, 31, 32, 33, 34, 35, 36, 37, 38, 39, 53, 54, 55, 56, 57, 58, 59, 83, 84, 85, 86, 87, 88, 89, 90, 106, 107, 108, 109, 110, 111, 112, 102, 103, 104, 105] (by decide +kernel) (by decide +kernel)
set_option maxRecDepth 20000 in
theorem gX6_init_X4_init : GoodIn wsX6_init (wsX4_init) := ggX6_init_X4_init
set_option maxRecDepth 20000 in
theorem ggX6_init_X1_init : GoodIn wsX6_init wsX1_init := goodIn_r _ [74, 75, 2, 3, 76, 77, 78, 113, 114, 115] (by decide +kernel) (by decide +kernel)
set_option maxRecDepth 20000 in
theorem gX6_init_X1_init_n46 : GoodIn wsX6_init (wsX1_init) := ggX6_init_X1_init
set_option maxRecDepth 20000 in
theorem ggX6_init_X0_makeEmpty : GoodIn wsX6_init wsX0_makeEmpty := goodIn_r _ [82, 31, 32, 35, 37, 38, 83, 84, 85, 86, 87, 88, 89, 90] (by decide +kernel) (by decide +kernel)
set_option maxRecDepth 20000 in
theorem gX6_init_X0_makeEmpty : GoodIn wsX6_init (wsV RX6 51 RX0 yX0_makeEmpty wsX0_makeEmpty) := goodIn_app (goodIn_of _ (by decide +kernel)) ggX6_init_X0_makeEmpty
theorem dX6_init_0 : decode cX6_init 0 = .ok (.aload_n 0, 1) := by decide +kernel
theorem dX6_init_1 : decode cX6_init 1 = .ok (.invokespecial 3, 3) := by decide +kernel
theorem dX6_init_4 : decode cX6_init 4 = .ok (.aload_n 0, 1) := by decide +kernel
theorem dX6_init_5 : decode cX6_init 5 = .ok (.new 9, 3) := by decide +kernel
theorem dX6_init_8 : decode cX6_init 8 = .ok (.dup, 1) := by decide +kernel
theorem dX6_init_9 : decode cX6_init 9 = .ok (.invokespecial 11, 3) := by decide +kernel
theorem dX6_init_12 : decode cX6_init 12 = .ok (.putfield 12, 3) := by decide +kernel
theorem dX6_init_15 : decode cX6_init 15 = .ok (.aload_n 0, 1) := by decide +kernel
theorem dX6_init_16 : decode cX6_init 16 = .ok (.new 16, 3) := by decide +kernel
theorem dX6_init_19 : decode cX6_init 19 = .ok (.dup, 1) := by decide +kernel
theorem dX6_init_20 : decode cX6_init 20 = .ok (.invokespecial 18, 3) := by decide +kernel
theorem dX6_init_23 : decode cX6_init 23 = .ok (.putfield 19, 3) := by decide +kernel
theorem dX6_init_26 : decode cX6_init 26 = .ok (.aload_n 0, 1) := by decide +kernel
theorem dX6_init_27 : decode cX6_init 27 = .ok (.new 23, 3) := by decide +kernel
theorem dX6_init_30 : decode cX6_init 30 = .ok (.dup, 1) := by decide +kernel
theorem dX6_init_31 : decode cX6_init 31 = .ok (.invokespecial 25, 3) := by decide +kernel
theorem dX6_init_34 : decode cX6_init 34 = .ok (.putfield 26, 3) := by decide +kernel
theorem dX6_init_37 : decode cX6_init 37 = .ok (.aload_n 0, 1) := by decide +kernel
theorem dX6_init_38 : decode cX6_init 38 = .ok (.new 30, 3) := by decide +kernel
theorem dX6_init_41 : decode cX6_init 41 = .ok (.dup, 1) := by decide +kernel
theorem dX6_init_42 : decode cX6_init 42 = .ok (.invokespecial 32, 3) := by decide +kernel
theorem dX6_init_45 : decode cX6_init 45 = .ok (.putfield 33, 3) := by decide +kernel
theorem dX6_init_48 : decode cX6_init 48 = .ok (.aload_n 0, 1) := by decide +kernel
theorem dX6_init_49 : decode cX6_init 49 = .ok (.new 37, 3) := by decide +kernel
theorem dX6_init_52 : decode cX6_init 52 = .ok (.dup, 1) := by decide +kernel
theorem dX6_init_53 : decode cX6_init 53 = .ok (.invokespecial 39, 3) := by decide +kernel
theorem dX6_init_56 : decode cX6_init 56 = .ok (.putfield 40, 3) := by decide +kernel
theorem dX6_init_59 : decode cX6_init 59 = .ok (.aload_n 0, 1) := by decide +kernel
theorem dX6_init_60 : decode cX6_init 60 = .ok (.new 44, 3) := by decide +kernel
theorem dX6_init_63 : decode cX6_init 63 = .ok (.dup, 1) := by decide +kernel
theorem dX6_init_64 : decode cX6_init 64 = .ok (.invokespecial 46, 3) := by decide +kernel
theorem dX6_init_67 : decode cX6_init 67 = .ok (.putfield 47, 3) := by decide +kernel
theorem dX6_init_70 : decode cX6_init 70 = .ok (.aload_n 0, 1) := by decide +kernel
theorem dX6_init_71 : decode cX6_init 71 = .ok (.getfield 12, 3) := by decide +kernel
theorem dX6_init_74 : decode cX6_init 74 = .ok (.iconst 2, 1) := by decide +kernel
theorem dX6_init_75 : decode cX6_init 75 = .ok (.iconst 2, 1) := by decide +kernel
theorem dX6_init_76 : decode cX6_init 76 = .ok (.invokevirtual 51, 3) := by decide +kernel
theorem dX6_init_79 : decode cX6_init 79 = .ok (.return_, 1) := by decide +kernel
set_option maxRecDepth 20000 in
theorem ggX6_begin_X2_save : GoodIn wsX6_begin wsX2_save := goodIn_r _ [9, 10, 11, 12, 13, 14, 15, 16, 17, 18, 19, 20, 21, 22, 23, 24, 25, 26, 27, 28, 29, 44, 45, 46, 47, 48, 49, 50, 51, 52, 53, 54] (by decide +kernel) (by decide +kernel)
set_option maxRecDepth 20000 in
theorem gX6_begin_X2_save : GoodIn wsX6_begin (wsV RX6 62 RX2 yX2_save wsX2_save) := goodIn_app (goodIn_of _ (by decide +kernel)) ggX6_begin_X2_save
set_option maxRecDepth 20000 in
theorem ggX6_begin_X0_makeEmpty : GoodIn wsX6_begin wsX0_makeEmpty := goodIn_r _ [33, 18, 19, 22, 23, 28, 47, 48, 49, 50, 51, 52, 53, 54] (by decide +kernel) (by decide +kernel)
set_option maxRecDepth 20000 in
theorem gX6_begin_X0_makeEmpty : GoodIn wsX6_begin (wsV RX6 51 RX0 yX0_makeEmpty wsX0_makeEmpty) := goodIn_app (goodIn_of _ (by decide +kernel)) ggX6_begin_X0_makeEmpty
set_option maxRecDepth 20000 in
theorem ggX6_begin_X0_cells : GoodIn wsX6_begin wsX0_cells := goodIn_r _ [37, 18, 19, 47, 48, 49, 50, 51, 52, 53, 54] (by decide +kernel) (by decide +kernel)
set_option maxRecDepth 20000 in
theorem gX6_begin_X0_cells : GoodIn wsX6_begin (wsV RX6 66 RX0 yX0_cells wsX0_cells) := goodIn_app (goodIn_of _ (by decide +kernel)) ggX6_begin_X0_cells
theorem dX6_begin_0 : decode cX6_begin 0 = .ok (.iload_n 1, 1) := by decide +kernel
theorem dX6_begin_1 : decode cX6_begin 1 = .ok (.iconst 1, 1) := by decide +kernel
theorem dX6_begin_2 : decode cX6_begin 2 = .ok (.if_icmp .lt 18, 3) := by decide +kernel
theorem dX6_begin_5 : decode cX6_begin 5 = .ok (.iload_n 1, 1) := by decide +kernel
theorem dX6_begin_6 : decode cX6_begin 6 = .ok (.iconst 3, 1) := by decide +kernel
theorem dX6_begin_7 : decode cX6_begin 7 = .ok (.if_icmp .gt 13, 3) := by decide +kernel
theorem dX6_begin_10 : decode cX6_begin 10 = .ok (.iload_n 2, 1) := by decide +kernel
theorem dX6_begin_11 : decode cX6_begin 11 = .ok (.iconst 1, 1) := by decide +kernel
theorem dX6_begin_12 : decode cX6_begin 12 = .ok (.if_icmp .lt 8, 3) := by decide +kernel
theorem dX6_begin_15 : decode cX6_begin 15 = .ok (.iload_n 2, 1) := by decide +kernel
theorem dX6_begin_16 : decode cX6_begin 16 = .ok (.iconst 4, 1) := by decide +kernel
theorem dX6_begin_17 : decode cX6_begin 17 = .ok (.if_icmp .le 13, 3) := by decide +kernel
theorem dX6_begin_20 : decode cX6_begin 20 = .ok (.new 55, 3) := by decide +kernel
theorem dX6_begin_23 : decode cX6_begin 23 = .ok (.dup, 1) := by decide +kernel
theorem dX6_begin_24 : decode cX6_begin 24 = .ok (.ldc 57, 2) := by decide +kernel
theorem dX6_begin_26 : decode cX6_begin 26 = .ok (.invokespecial 59, 3) := by decide +kernel
theorem dX6_begin_29 : decode cX6_begin 29 = .ok (.athrow, 1) := by decide +kernel
theorem dX6_begin_30 : decode cX6_begin 30 = .ok (.aload_n 0, 1) := by decide +kernel
theorem dX6_begin_31 : decode cX6_begin 31 = .ok (.getfield 19, 3) := by decide +kernel
theorem dX6_begin_34 : decode cX6_begin 34 = .ok (.aload_n 0, 1) := by decide +kernel
theorem dX6_begin_35 : decode cX6_begin 35 = .ok (.getfield 12, 3) := by decide +kernel
theorem dX6_begin_38 : decode cX6_begin 38 = .ok (.invokevirtual 62, 3) := by decide +kernel
theorem dX6_begin_41 : decode cX6_begin 41 = .ok (.aload_n 0, 1) := by decide +kernel
theorem dX6_begin_42 : decode cX6_begin 42 = .ok (.getfield 12, 3) := by decide +kernel
theorem dX6_begin_45 : decode cX6_begin 45 = .ok (.iload_n 1, 1) := by decide +kernel
theorem dX6_begin_46 : decode cX6_begin 46 = .ok (.iload_n 2, 1) := by decide +kernel
theorem dX6_begin_47 : decode cX6_begin 47 = .ok (.invokevirtual 51, 3) := by decide +kernel
theorem dX6_begin_50 : decode cX6_begin 50 = .ok (.aload_n 0, 1) := by decide +kernel
theorem dX6_begin_51 : decode cX6_begin 51 = .ok (.getfield 12, 3) := by decide +kernel
theorem dX6_begin_54 : decode cX6_begin 54 = .ok (.invokevirtual 66, 3) := by decide +kernel
theorem dX6_begin_57 : decode cX6_begin 57 = .ok (.ireturn, 1) := by decide +kernel
set_option maxRecDepth 20000 in
theorem ggX6_addTile_X2_save : GoodIn wsX6_addTile wsX2_save := goodIn_r _ [12, 13, 14, 15, 16, 17, 18, 19, 20, 21, 22, 23, 24, 25, 26, 27, 28, 29, 30, 31, 32, 72, 73, 74, 64, 65, 66, 67, 68, 69, 70, 71] (by decide +kernel) (by decide +kernel)
set_option maxRecDepth 20000 in
theorem gX6_addTile_X2_save : GoodIn wsX6_addTile (wsV RX6 62 RX2 yX2_save wsX2_save) := goodIn_app (goodIn_of _ (by decide +kernel)) ggX6_addTile_X2_save
set_option maxRecDepth 20000 in
theorem ggX6_addTile_X0_addFaces : GoodIn wsX6_addTile wsX0_addFaces := goodIn_r _ [36, 32, 24, 37, 38, 39, 40, 41, 42, 43, 44, 45, 46, 47, 48, 19, 49, 50, 51, 52, 53, 54, 55, 56, 57, 64, 65, 66, 67, 68, 69, 70, 71] (by decide +kernel) (by decide +kernel)
set_option maxRecDepth 20000 in
theorem gX6_addTile_X0_addFaces : GoodIn wsX6_addTile (wsV RX6 81 RX0 yX0_addFaces wsX0_addFaces) := goodIn_app (goodIn_of _ (by decide +kernel)) ggX6_addTile_X0_addFaces
theorem dX6_addTile_0 : decode cX6_addTile 0 = .ok (.iload_n 1, 1) := by decide +kernel
theorem dX6_addTile_1 : decode cX6_addTile 1 = .ok (.ifCond .lt 21, 3) := by decide +kernel
theorem dX6_addTile_4 : decode cX6_addTile 4 = .ok (.iload_n 1, 1) := by decide +kernel
theorem dX6_addTile_5 : decode cX6_addTile 5 = .ok (.sipush 9999, 3) := by decide +kernel
theorem dX6_addTile_8 : decode cX6_addTile 8 = .ok (.if_icmp .gt 14, 3) := by decide +kernel
theorem dX6_addTile_11 : decode cX6_addTile 11 = .ok (.iload_n 2, 1) := by decide +kernel
theorem dX6_addTile_12 : decode cX6_addTile 12 = .ok (.ifCond .lt 10, 3) := by decide +kernel
theorem dX6_addTile_15 : decode cX6_addTile 15 = .ok (.iload_n 2, 1) := by decide +kernel
theorem dX6_addTile_16 : decode cX6_addTile 16 = .ok (.sipush 9999, 3) := by decide +kernel
theorem dX6_addTile_19 : decode cX6_addTile 19 = .ok (.if_icmp .le 13, 3) := by decide +kernel
theorem dX6_addTile_22 : decode cX6_addTile 22 = .ok (.new 55, 3) := by decide +kernel
theorem dX6_addTile_25 : decode cX6_addTile 25 = .ok (.dup, 1) := by decide +kernel
theorem dX6_addTile_26 : decode cX6_addTile 26 = .ok (.ldc 70, 2) := by decide +kernel
theorem dX6_addTile_28 : decode cX6_addTile 28 = .ok (.invokespecial 59, 3) := by decide +kernel
theorem dX6_addTile_31 : decode cX6_addTile 31 = .ok (.athrow, 1) := by decide +kernel
theorem dX6_addTile_32 : decode cX6_addTile 32 = .ok (.aload_n 0, 1) := by decide +kernel
theorem dX6_addTile_33 : decode cX6_addTile 33 = .ok (.getfield 12, 3) := by decide +kernel
theorem dX6_addTile_36 : decode cX6_addTile 36 = .ok (.getfield 72, 3) := by decide +kernel
theorem dX6_addTile_39 : decode cX6_addTile 39 = .ok (.bipush 12, 2) := by decide +kernel
theorem dX6_addTile_41 : decode cX6_addTile 41 = .ok (.if_icmp .lt 13, 3) := by decide +kernel
theorem dX6_addTile_44 : decode cX6_addTile 44 = .ok (.new 76, 3) := by decide +kernel
theorem dX6_addTile_47 : decode cX6_addTile 47 = .ok (.dup, 1) := by decide +kernel
theorem dX6_addTile_48 : decode cX6_addTile 48 = .ok (.ldc 78, 2) := by decide +kernel
theorem dX6_addTile_50 : decode cX6_addTile 50 = .ok (.invokespecial 80, 3) := by decide +kernel
theorem dX6_addTile_53 : decode cX6_addTile 53 = .ok (.athrow, 1) := by decide +kernel
theorem dX6_addTile_54 : decode cX6_addTile 54 = .ok (.aload_n 0, 1) := by decide +kernel
theorem dX6_addTile_55 : decode cX6_addTile 55 = .ok (.getfield 19, 3) := by decide +kernel
theorem dX6_addTile_58 : decode cX6_addTile 58 = .ok (.aload_n 0, 1) := by decide +kernel
theorem dX6_addTile_59 : decode cX6_addTile 59 = .ok (.getfield 12, 3) := by decide +kernel
theorem dX6_addTile_62 : decode cX6_addTile 62 = .ok (.invokevirtual 62, 3) := by decide +kernel
theorem dX6_addTile_65 : decode cX6_addTile 65 = .ok (.aload_n 0, 1) := by decide +kernel
theorem dX6_addTile_66 : decode cX6_addTile 66 = .ok (.getfield 12, 3) := by decide +kernel
theorem dX6_addTile_69 : decode cX6_addTile 69 = .ok (.iload_n 1, 1) := by decide +kernel
theorem dX6_addTile_70 : decode cX6_addTile 70 = .ok (.iload_n 2, 1) := by decide +kernel
theorem dX6_addTile_71 : decode cX6_addTile 71 = .ok (.invokevirtual 81, 3) := by decide +kernel
theorem dX6_addTile_74 : decode cX6_addTile 74 = .ok (.aload_n 0, 1) := by decide +kernel
theorem dX6_addTile_75 : decode cX6_addTile 75 = .ok (.getfield 12, 3) := by decide +kernel
theorem dX6_addTile_78 : decode cX6_addTile 78 = .ok (.getfield 72, 3) := by decide +kernel
theorem dX6_addTile_81 : decode cX6_addTile 81 = .ok (.iconst 1, 1) := by decide +kernel
theorem dX6_addTile_82 : decode cX6_addTile 82 = .ok (.isub, 1) := by decide +kernel
theorem dX6_addTile_83 : decode cX6_addTile 83 = .ok (.ireturn, 1) := by decide +kernel
set_option maxRecDepth 20000 in
theorem ggX6_dropTile_X0_isLaid : GoodIn wsX6_dropTile wsX0_isLaid := goodIn_r _ [10, 11, 41, 42, 43, 44, 45, 46, 47, 48] (by decide +kernel) (by decide +kernel)
set_option maxRecDepth 20000 in
theorem gX6_dropTile_X0_isLaid : GoodIn wsX6_dropTile (wsV RX6 84 RX0 yX0_isLaid wsX0_isLaid) := goodIn_app (goodIn_of _ (by decide +kernel)) ggX6_dropTile_X0_isLaid
set_option maxRecDepth 20000 in
theorem ggX6_dropTile_X2_save : GoodIn wsX6_dropTile wsX2_save := goodIn_r _ [16, 17, 18, 19, 20, 21, 22, 9, 23, 24, 25, 26, 27, 28, 29, 30, 31, 32, 33, 11, 34, 49, 50, 51, 41, 42, 43, 44, 45, 46, 47, 48] (by decide +kernel) (by decide +kernel)
set_option maxRecDepth 20000 in
theorem gX6_dropTile_X2_save : GoodIn wsX6_dropTile (wsV RX6 62 RX2 yX2_save wsX2_save) := goodIn_app (goodIn_of _ (by decide +kernel)) ggX6_dropTile_X2_save
theorem dX6_dropTile_0 : decode cX6_dropTile 0 = .ok (.aload_n 0, 1) := by decide +kernel
theorem dX6_dropTile_1 : decode cX6_dropTile 1 = .ok (.getfield 12, 3) := by decide +kernel
theorem dX6_dropTile_4 : decode cX6_dropTile 4 = .ok (.getfield 72, 3) := by decide +kernel
theorem dX6_dropTile_7 : decode cX6_dropTile 7 = .ok (.iconst 1, 1) := by decide +kernel
theorem dX6_dropTile_8 : decode cX6_dropTile 8 = .ok (.if_icmp .lt 22, 3) := by decide +kernel
theorem dX6_dropTile_11 : decode cX6_dropTile 11 = .ok (.aload_n 0, 1) := by decide +kernel
theorem dX6_dropTile_12 : decode cX6_dropTile 12 = .ok (.getfield 12, 3) := by decide +kernel
theorem dX6_dropTile_15 : decode cX6_dropTile 15 = .ok (.aload_n 0, 1) := by decide +kernel
theorem dX6_dropTile_16 : decode cX6_dropTile 16 = .ok (.getfield 12, 3) := by decide +kernel
theorem dX6_dropTile_19 : decode cX6_dropTile 19 = .ok (.getfield 72, 3) := by decide +kernel
theorem dX6_dropTile_22 : decode cX6_dropTile 22 = .ok (.iconst 1, 1) := by decide +kernel
theorem dX6_dropTile_23 : decode cX6_dropTile 23 = .ok (.isub, 1) := by decide +kernel
theorem dX6_dropTile_24 : decode cX6_dropTile 24 = .ok (.invokevirtual 84, 3) := by decide +kernel
theorem dX6_dropTile_27 : decode cX6_dropTile 27 = .ok (.ifCond .eq 13, 3) := by decide +kernel
theorem dX6_dropTile_30 : decode cX6_dropTile 30 = .ok (.new 76, 3) := by decide +kernel
theorem dX6_dropTile_33 : decode cX6_dropTile 33 = .ok (.dup, 1) := by decide +kernel
theorem dX6_dropTile_34 : decode cX6_dropTile 34 = .ok (.ldc 88, 2) := by decide +kernel
theorem dX6_dropTile_36 : decode cX6_dropTile 36 = .ok (.invokespecial 80, 3) := by decide +kernel
theorem dX6_dropTile_39 : decode cX6_dropTile 39 = .ok (.athrow, 1) := by decide +kernel
theorem dX6_dropTile_40 : decode cX6_dropTile 40 = .ok (.aload_n 0, 1) := by decide +kernel
theorem dX6_dropTile_41 : decode cX6_dropTile 41 = .ok (.getfield 19, 3) := by decide +kernel
theorem dX6_dropTile_44 : decode cX6_dropTile 44 = .ok (.aload_n 0, 1) := by decide +kernel
theorem dX6_dropTile_45 : decode cX6_dropTile 45 = .ok (.getfield 12, 3) := by decide +kernel
theorem dX6_dropTile_48 : decode cX6_dropTile 48 = .ok (.invokevirtual 62, 3) := by decide +kernel
theorem dX6_dropTile_51 : decode cX6_dropTile 51 = .ok (.aload_n 0, 1) := by decide +kernel
theorem dX6_dropTile_52 : decode cX6_dropTile 52 = .ok (.getfield 12, 3) := by decide +kernel
theorem dX6_dropTile_55 : decode cX6_dropTile 55 = .ok (.dup, 1) := by decide +kernel
theorem dX6_dropTile_56 : decode cX6_dropTile 56 = .ok (.getfield 72, 3) := by decide +kernel
theorem dX6_dropTile_59 : decode cX6_dropTile 59 = .ok (.iconst 1, 1) := by decide +kernel
theorem dX6_dropTile_60 : decode cX6_dropTile 60 = .ok (.isub, 1) := by decide +kernel
theorem dX6_dropTile_61 : decode cX6_dropTile 61 = .ok (.putfield 72, 3) := by decide +kernel
theorem dX6_dropTile_64 : decode cX6_dropTile 64 = .ok (.aload_n 0, 1) := by decide +kernel
theorem dX6_dropTile_65 : decode cX6_dropTile 65 = .ok (.getfield 12, 3) := by decide +kernel
theorem dX6_dropTile_68 : decode cX6_dropTile 68 = .ok (.getfield 72, 3) := by decide +kernel
theorem dX6_dropTile_71 : decode cX6_dropTile 71 = .ok (.ireturn, 1) := by decide +kernel
set_option maxRecDepth 20000 in
theorem ggX6_setRule_X2_save : GoodIn wsX6_setRule wsX2_save := goodIn_r _ [10, 11, 12, 13, 14, 15, 16, 17, 18, 19, 20, 21, 22, 23, 24, 25, 26, 27, 28, 29, 30, 45, 46, 47, 37, 38, 39, 40, 41, 42, 43, 44] (by decide +kernel) (by decide +kernel)
set_option maxRecDepth 20000 in
theorem gX6_setRule_X2_save : GoodIn wsX6_setRule (wsV RX6 62 RX2 yX2_save wsX2_save) := goodIn_app (goodIn_of _ (by decide +kernel)) ggX6_setRule_X2_save
theorem dX6_setRule_0 : decode cX6_setRule 0 = .ok (.iload_n 1, 1) := by decide +kernel
theorem dX6_setRule_1 : decode cX6_setRule 1 = .ok (.ifCond .lt 8, 3) := by decide +kernel
theorem dX6_setRule_4 : decode cX6_setRule 4 = .ok (.iload_n 1, 1) := by decide +kernel
theorem dX6_setRule_5 : decode cX6_setRule 5 = .ok (.iconst 2, 1) := by decide +kernel
theorem dX6_setRule_6 : decode cX6_setRule 6 = .ok (.if_icmp .le 13, 3) := by decide +kernel
theorem dX6_setRule_9 : decode cX6_setRule 9 = .ok (.new 55, 3) := by decide +kernel
theorem dX6_setRule_12 : decode cX6_setRule 12 = .ok (.dup, 1) := by decide +kernel
theorem dX6_setRule_13 : decode cX6_setRule 13 = .ok (.ldc 90, 2) := by decide +kernel
theorem dX6_setRule_15 : decode cX6_setRule 15 = .ok (.invokespecial 59, 3) := by decide +kernel
theorem dX6_setRule_18 : decode cX6_setRule 18 = .ok (.athrow, 1) := by decide +kernel
theorem dX6_setRule_19 : decode cX6_setRule 19 = .ok (.aload_n 0, 1) := by decide +kernel
theorem dX6_setRule_20 : decode cX6_setRule 20 = .ok (.getfield 19, 3) := by decide +kernel
theorem dX6_setRule_23 : decode cX6_setRule 23 = .ok (.aload_n 0, 1) := by decide +kernel
theorem dX6_setRule_24 : decode cX6_setRule 24 = .ok (.getfield 12, 3) := by decide +kernel
theorem dX6_setRule_27 : decode cX6_setRule 27 = .ok (.invokevirtual 62, 3) := by decide +kernel
theorem dX6_setRule_30 : decode cX6_setRule 30 = .ok (.aload_n 0, 1) := by decide +kernel
theorem dX6_setRule_31 : decode cX6_setRule 31 = .ok (.getfield 12, 3) := by decide +kernel
theorem dX6_setRule_34 : decode cX6_setRule 34 = .ok (.getfield 92, 3) := by decide +kernel
theorem dX6_setRule_37 : decode cX6_setRule 37 = .ok (.istore_n 2, 1) := by decide +kernel
theorem dX6_setRule_38 : decode cX6_setRule 38 = .ok (.aload_n 0, 1) := by decide +kernel
theorem dX6_setRule_39 : decode cX6_setRule 39 = .ok (.getfield 12, 3) := by decide +kernel
theorem dX6_setRule_42 : decode cX6_setRule 42 = .ok (.iload_n 1, 1) := by decide +kernel
theorem dX6_setRule_43 : decode cX6_setRule 43 = .ok (.putfield 92, 3) := by decide +kernel
theorem dX6_setRule_46 : decode cX6_setRule 46 = .ok (.iload_n 2, 1) := by decide +kernel
theorem dX6_setRule_47 : decode cX6_setRule 47 = .ok (.ireturn, 1) := by decide +kernel
set_option maxRecDepth 20000 in
theorem ggX6_cut_X2_save : GoodIn wsX6_cut wsX2_save := goodIn_r _ [14, 15, 16, 17, 18, 19, 20, 21, 22, 23, 24, 25, 26, 27, 28, 29, 30, 31, 32, 33, 34, 99, 100, 101, 91, 92, 93, 94, 95, 96, 97, 98] (by decide +kernel) (by decide +kernel)
set_option maxRecDepth 20000 in
theorem gX6_cut_X2_save : GoodIn wsX6_cut (wsV RX6 62 RX2 yX2_save wsX2_save) := goodIn_app (goodIn_of _ (by decide +kernel)) ggX6_cut_X2_save
set_option maxRecDepth 20000 in
theorem ggX6_cut_X0_makeEmpty : GoodIn wsX6_cut wsX0_makeEmpty := goodIn_r _ [38, 23, 24, 27, 28, 33, 91, 92, 93, 94, 95, 96, 97, 98] (by decide +kernel) (by decide +kernel)
set_option maxRecDepth 20000 in
theorem gX6_cut_X0_makeEmpty : GoodIn wsX6_cut (wsV RX6 51 RX0 yX0_makeEmpty wsX0_makeEmpty) := goodIn_app (goodIn_of _ (by decide +kernel)) ggX6_cut_X0_makeEmpty
set_option maxRecDepth 20000 in
theorem ggX6_cut_X1_start : GoodIn wsX6_cut wsX1_start := goodIn_r _ [43, 44, 45, 46, 102, 103, 104] (by decide +kernel) (by decide +kernel)
set_option maxRecDepth 20000 in
theorem gX6_cut_X1_start : GoodIn wsX6_cut (wsV RX6 104 RX1 yX1_start wsX1_start) := goodIn_app (goodIn_of _ (by decide +kernel)) ggX6_cut_X1_start
set_option maxRecDepth 20000 in
theorem ggX6_cut_X0_cutTiles : GoodIn wsX6_cut wsX0_cutTiles := goodIn_r _ [50, 26, 34, 51, 52, 53, 21, 54, 23, 24, 55, 56, 57, 58, 59, 60, 61, 62, 63, 64, 65, 42, 66, 46, 45, 44, 67, 68, 69, 70, 71, 72, 73, 74, 75, 76, 77, 78, 79, 80, 81, 82, 83, 84, 91, 92, 93, 94, 95, 96, 97, 98, 102, 103, 104] (by decide +kernel) (by decide +kernel)
set_option maxRecDepth 20000 in
theorem gX6_cut_X0_cutTiles : GoodIn wsX6_cut (wsV RX6 107 RX0 yX0_cutTiles wsX0_cutTiles) := goodIn_app (goodIn_of _ (by decide +kernel)) ggX6_cut_X0_cutTiles
theorem dX6_cut_0 : decode cX6_cut 0 = .ok (.iload_n 1, 1) := by decide +kernel
theorem dX6_cut_1 : decode cX6_cut 1 = .ok (.iconst 1, 1) := by decide +kernel
theorem dX6_cut_2 : decode cX6_cut 2 = .ok (.if_icmp .lt 20, 3) := by decide +kernel
theorem dX6_cut_5 : decode cX6_cut 5 = .ok (.iload_n 1, 1) := by decide +kernel
theorem dX6_cut_6 : decode cX6_cut 6 = .ok (.ldc 95, 2) := by decide +kernel
theorem dX6_cut_8 : decode cX6_cut 8 = .ok (.if_icmp .gt 14, 3) := by decide +kernel
theorem dX6_cut_11 : decode cX6_cut 11 = .ok (.iload_n 2, 1) := by decide +kernel
theorem dX6_cut_12 : decode cX6_cut 12 = .ok (.iconst 1, 1) := by decide +kernel
theorem dX6_cut_13 : decode cX6_cut 13 = .ok (.if_icmp .lt 9, 3) := by decide +kernel
theorem dX6_cut_16 : decode cX6_cut 16 = .ok (.iload_n 2, 1) := by decide +kernel
theorem dX6_cut_17 : decode cX6_cut 17 = .ok (.bipush 9, 2) := by decide +kernel
theorem dX6_cut_19 : decode cX6_cut 19 = .ok (.if_icmp .le 13, 3) := by decide +kernel
theorem dX6_cut_22 : decode cX6_cut 22 = .ok (.new 55, 3) := by decide +kernel
theorem dX6_cut_25 : decode cX6_cut 25 = .ok (.dup, 1) := by decide +kernel
theorem dX6_cut_26 : decode cX6_cut 26 = .ok (.ldc 96, 2) := by decide +kernel
theorem dX6_cut_28 : decode cX6_cut 28 = .ok (.invokespecial 59, 3) := by decide +kernel
theorem dX6_cut_31 : decode cX6_cut 31 = .ok (.athrow, 1) := by decide +kernel
theorem dX6_cut_32 : decode cX6_cut 32 = .ok (.aload_n 0, 1) := by decide +kernel
theorem dX6_cut_33 : decode cX6_cut 33 = .ok (.getfield 19, 3) := by decide +kernel
theorem dX6_cut_36 : decode cX6_cut 36 = .ok (.aload_n 0, 1) := by decide +kernel
theorem dX6_cut_37 : decode cX6_cut 37 = .ok (.getfield 12, 3) := by decide +kernel
theorem dX6_cut_40 : decode cX6_cut 40 = .ok (.invokevirtual 62, 3) := by decide +kernel
theorem dX6_cut_43 : decode cX6_cut 43 = .ok (.aload_n 0, 1) := by decide +kernel
theorem dX6_cut_44 : decode cX6_cut 44 = .ok (.getfield 12, 3) := by decide +kernel
theorem dX6_cut_47 : decode cX6_cut 47 = .ok (.aload_n 0, 1) := by decide +kernel
theorem dX6_cut_48 : decode cX6_cut 48 = .ok (.getfield 12, 3) := by decide +kernel
theorem dX6_cut_51 : decode cX6_cut 51 = .ok (.getfield 98, 3) := by decide +kernel
theorem dX6_cut_54 : decode cX6_cut 54 = .ok (.aload_n 0, 1) := by decide +kernel
theorem dX6_cut_55 : decode cX6_cut 55 = .ok (.getfield 12, 3) := by decide +kernel
theorem dX6_cut_58 : decode cX6_cut 58 = .ok (.getfield 101, 3) := by decide +kernel
theorem dX6_cut_61 : decode cX6_cut 61 = .ok (.invokevirtual 51, 3) := by decide +kernel
theorem dX6_cut_64 : decode cX6_cut 64 = .ok (.aload_n 0, 1) := by decide +kernel
theorem dX6_cut_65 : decode cX6_cut 65 = .ok (.getfield 47, 3) := by decide +kernel
theorem dX6_cut_68 : decode cX6_cut 68 = .ok (.iload_n 1, 1) := by decide +kernel
theorem dX6_cut_69 : decode cX6_cut 69 = .ok (.iload_n 2, 1) := by decide +kernel
theorem dX6_cut_70 : decode cX6_cut 70 = .ok (.invokevirtual 104, 3) := by decide +kernel
theorem dX6_cut_73 : decode cX6_cut 73 = .ok (.aload_n 0, 1) := by decide +kernel
theorem dX6_cut_74 : decode cX6_cut 74 = .ok (.getfield 12, 3) := by decide +kernel
theorem dX6_cut_77 : decode cX6_cut 77 = .ok (.aload_n 0, 1) := by decide +kernel
theorem dX6_cut_78 : decode cX6_cut 78 = .ok (.getfield 47, 3) := by decide +kernel
theorem dX6_cut_81 : decode cX6_cut 81 = .ok (.invokevirtual 107, 3) := by decide +kernel
theorem dX6_cut_84 : decode cX6_cut 84 = .ok (.aload_n 0, 1) := by decide +kernel
theorem dX6_cut_85 : decode cX6_cut 85 = .ok (.getfield 12, 3) := by decide +kernel
theorem dX6_cut_88 : decode cX6_cut 88 = .ok (.getfield 72, 3) := by decide +kernel
theorem dX6_cut_91 : decode cX6_cut 91 = .ok (.ireturn, 1) := by decide +kernel
set_option maxRecDepth 20000 in
theorem ggX6_lay_X6_requirePlacing : GoodIn wsX6_lay wsX6_requirePlacing := goodIn_ca (goodIn_r _ [9, 10, 11, 4, 12, 13, 14, 8, 15, 16, 17, 18, 19, 20, 21, 22, 23, 24, 25, 26, 27, 28, 29, 30, 31, 114, 115, 116, 117, 118, 119, 120, 121, 122, 123, 124, 125, 126, 127] (by decide +kernel) (by decide +kernel)) (goodIn_sub (fun _ h => List.mem_cons_of_mem _ (List.mem_append_right _ h)) (by decide +kernel))
set_option maxRecDepth 20000 in
theorem gX6_lay_X6_requirePlacing : GoodIn wsX6_lay (wsV RX6 111 RX6 yX6_requirePlacing wsX6_requirePlacing) := goodIn_app (goodIn_of _ (by decide +kernel)) ggX6_lay_X6_requirePlacing
set_option maxRecDepth 20000 in
theorem ggX6_lay_X6_reason : GoodIn wsX6_lay wsX6_reason := goodIn_r _ [35, 4, 36, 37, 38, 39, 40, 19, 41, 42, 43, 44, 45, 46, 47, 48, 49, 50, 51, 52, 53, 54, 55, 56, 57, 58, 59, 60, 61, 62, 63, 64, 65, 26, 21, 22, 23, 24, 25, 66, 67, 68, 69, 70, 71, 72, 8, 73, 74, 75, 76, 77, 78, 79, 80, 81, 82, 83, 84, 85, 86, 114, 115, 116, 117, 118, 119, 120, 121, 122, 123, 124, 125, 126, 127, 128, 129, 130, 131] (by decide +kernel) (by decide +kernel)
set_option maxRecDepth 20000 in
theorem gX6_lay_X6_reason : GoodIn wsX6_lay (wsV RX6 114 RX6 yX6_reason wsX6_reason) := goodIn_app (goodIn_of _ (by decide +kernel)) ggX6_lay_X6_reason
set_option maxRecDepth 20000 in
theorem ggX6_lay_X2_save : GoodIn wsX6_lay wsX2_save := goodIn_r _ [91, 92, 93, 94, 95, 96, 97, 19, 98, 25, 26, 99, 31, 100, 42, 101, 102, 103, 104, 47, 71, 132, 133, 134, 120, 121, 122, 123, 124, 125, 126, 127] (by decide +kernel) (by decide +kernel)
set_option maxRecDepth 20000 in
theorem gX6_lay_X2_save : GoodIn wsX6_lay (wsV RX6 62 RX2 yX2_save wsX2_save) := goodIn_app (goodIn_of _ (by decide +kernel)) ggX6_lay_X2_save
set_option maxRecDepth 20000 in
theorem ggX6_lay_X0_put : GoodIn wsX6_lay wsX0_put := goodIn_r _ [108, 42, 47, 120, 121, 122, 123, 124, 125, 126, 127] (by decide +kernel) (by decide +kernel)
set_option maxRecDepth 20000 in
theorem gX6_lay_X0_put : GoodIn wsX6_lay (wsV RX6 120 RX0 yX0_put wsX0_put) := goodIn_app (goodIn_of _ (by decide +kernel)) ggX6_lay_X0_put
set_option maxRecDepth 20000 in
theorem ggX6_lay_X0_emptyCells : GoodIn wsX6_lay wsX0_emptyCells := goodIn_r _ [112, 21, 22, 23, 19, 24, 25, 26, 113, 39, 40, 41, 42, 120, 121, 122, 123, 124, 125, 126, 127] (by decide +kernel) (by decide +kernel)
set_option maxRecDepth 20000 in
theorem gX6_lay_X0_emptyCells : GoodIn wsX6_lay (wsV RX6 123 RX0 yX0_emptyCells wsX0_emptyCells) := goodIn_app (goodIn_of _ (by decide +kernel)) ggX6_lay_X0_emptyCells
theorem dX6_lay_0 : decode cX6_lay 0 = .ok (.aload_n 0, 1) := by decide +kernel
theorem dX6_lay_1 : decode cX6_lay 1 = .ok (.iload_n 1, 1) := by decide +kernel
theorem dX6_lay_2 : decode cX6_lay 2 = .ok (.iload_n 2, 1) := by decide +kernel
theorem dX6_lay_3 : decode cX6_lay 3 = .ok (.invokevirtual 111, 3) := by decide +kernel
theorem dX6_lay_6 : decode cX6_lay 6 = .ok (.aload_n 0, 1) := by decide +kernel
theorem dX6_lay_7 : decode cX6_lay 7 = .ok (.iload_n 1, 1) := by decide +kernel
theorem dX6_lay_8 : decode cX6_lay 8 = .ok (.iload_n 2, 1) := by decide +kernel
theorem dX6_lay_9 : decode cX6_lay 9 = .ok (.invokevirtual 114, 3) := by decide +kernel
theorem dX6_lay_12 : decode cX6_lay 12 = .ok (.ifCond .eq 13, 3) := by decide +kernel
theorem dX6_lay_15 : decode cX6_lay 15 = .ok (.new 76, 3) := by decide +kernel
theorem dX6_lay_18 : decode cX6_lay 18 = .ok (.dup, 1) := by decide +kernel
theorem dX6_lay_19 : decode cX6_lay 19 = .ok (.ldc 118, 2) := by decide +kernel
theorem dX6_lay_21 : decode cX6_lay 21 = .ok (.invokespecial 80, 3) := by decide +kernel
theorem dX6_lay_24 : decode cX6_lay 24 = .ok (.athrow, 1) := by decide +kernel
theorem dX6_lay_25 : decode cX6_lay 25 = .ok (.aload_n 0, 1) := by decide +kernel
theorem dX6_lay_26 : decode cX6_lay 26 = .ok (.getfield 19, 3) := by decide +kernel
theorem dX6_lay_29 : decode cX6_lay 29 = .ok (.aload_n 0, 1) := by decide +kernel
theorem dX6_lay_30 : decode cX6_lay 30 = .ok (.getfield 12, 3) := by decide +kernel
theorem dX6_lay_33 : decode cX6_lay 33 = .ok (.invokevirtual 62, 3) := by decide +kernel
theorem dX6_lay_36 : decode cX6_lay 36 = .ok (.aload_n 0, 1) := by decide +kernel
theorem dX6_lay_37 : decode cX6_lay 37 = .ok (.getfield 12, 3) := by decide +kernel
theorem dX6_lay_40 : decode cX6_lay 40 = .ok (.iload_n 1, 1) := by decide +kernel
theorem dX6_lay_41 : decode cX6_lay 41 = .ok (.iload_n 2, 1) := by decide +kernel
theorem dX6_lay_42 : decode cX6_lay 42 = .ok (.invokevirtual 120, 3) := by decide +kernel
theorem dX6_lay_45 : decode cX6_lay 45 = .ok (.aload_n 0, 1) := by decide +kernel
theorem dX6_lay_46 : decode cX6_lay 46 = .ok (.getfield 12, 3) := by decide +kernel
theorem dX6_lay_49 : decode cX6_lay 49 = .ok (.invokevirtual 123, 3) := by decide +kernel
theorem dX6_lay_52 : decode cX6_lay 52 = .ok (.ireturn, 1) := by decide +kernel
set_option maxRecDepth 20000 in
theorem ggX6_take_X6_requireCell : GoodIn wsX6_take wsX6_requireCell := goodIn_ca (goodIn_r _ [10, 11, 12, 3, 13, 14, 15, 16, 17, 18, 19, 20, 21, 22, 23, 58, 59, 60, 61, 62, 63, 64, 65, 66, 67, 68, 69, 70, 71] (by decide +kernel) (by decide +kernel)) (goodIn_sub (fun _ h => List.mem_cons_of_mem _ (List.mem_append_right _ h)) (by decide +kernel))
set_option maxRecDepth 20000 in
theorem gX6_take_X6_requireCell : GoodIn wsX6_take (wsV RX6 126 RX6 yX6_requireCell wsX6_requireCell) := goodIn_app (goodIn_of _ (by decide +kernel)) ggX6_take_X6_requireCell
set_option maxRecDepth 20000 in
theorem ggX6_take_X0_isEmpty : GoodIn wsX6_take wsX0_isEmpty := goodIn_r _ [27, 28, 64, 65, 66, 67, 68, 69, 70, 71] (by decide +kernel) (by decide +kernel)
set_option maxRecDepth 20000 in
theorem gX6_take_X0_isEmpty : GoodIn wsX6_take (wsV RX6 130 RX0 yX0_isEmpty wsX0_isEmpty) := goodIn_app (goodIn_of _ (by decide +kernel)) ggX6_take_X0_isEmpty
set_option maxRecDepth 20000 in
theorem ggX6_take_X0_isFixed : GoodIn wsX6_take wsX0_isFixed := goodIn_r _ [32, 33, 64, 65, 66, 67, 68, 69, 70, 71] (by decide +kernel) (by decide +kernel)
set_option maxRecDepth 20000 in
theorem gX6_take_X0_isFixed : GoodIn wsX6_take (wsV RX6 133 RX0 yX0_isFixed wsX0_isFixed) := goodIn_app (goodIn_of _ (by decide +kernel)) ggX6_take_X0_isFixed
set_option maxRecDepth 20000 in
theorem ggX6_take_X2_save : GoodIn wsX6_take wsX2_save := goodIn_r _ [38, 39, 40, 41, 42, 43, 44, 16, 45, 22, 23, 46, 47, 33, 28, 48, 49, 50, 51, 52, 53, 72, 73, 74, 64, 65, 66, 67, 68, 69, 70, 71] (by decide +kernel) (by decide +kernel)
set_option maxRecDepth 20000 in
theorem gX6_take_X2_save : GoodIn wsX6_take (wsV RX6 62 RX2 yX2_save wsX2_save) := goodIn_app (goodIn_of _ (by decide +kernel)) ggX6_take_X2_save
set_option maxRecDepth 20000 in
theorem ggX6_take_X0_remove : GoodIn wsX6_take wsX0_remove := goodIn_r _ [57, 52, 28, 64, 65, 66, 67, 68, 69, 70, 71] (by decide +kernel) (by decide +kernel)
set_option maxRecDepth 20000 in
theorem gX6_take_X0_remove : GoodIn wsX6_take (wsV RX6 142 RX0 yX0_remove wsX0_remove) := goodIn_app (goodIn_of _ (by decide +kernel)) ggX6_take_X0_remove
theorem dX6_take_0 : decode cX6_take 0 = .ok (.aload_n 0, 1) := by decide +kernel
theorem dX6_take_1 : decode cX6_take 1 = .ok (.iload_n 1, 1) := by decide +kernel
theorem dX6_take_2 : decode cX6_take 2 = .ok (.invokevirtual 126, 3) := by decide +kernel
theorem dX6_take_5 : decode cX6_take 5 = .ok (.aload_n 0, 1) := by decide +kernel
theorem dX6_take_6 : decode cX6_take 6 = .ok (.getfield 12, 3) := by decide +kernel
theorem dX6_take_9 : decode cX6_take 9 = .ok (.iload_n 1, 1) := by decide +kernel
theorem dX6_take_10 : decode cX6_take 10 = .ok (.invokevirtual 130, 3) := by decide +kernel
theorem dX6_take_13 : decode cX6_take 13 = .ok (.ifCond .ne 14, 3) := by decide +kernel
theorem dX6_take_16 : decode cX6_take 16 = .ok (.aload_n 0, 1) := by decide +kernel
theorem dX6_take_17 : decode cX6_take 17 = .ok (.getfield 12, 3) := by decide +kernel
theorem dX6_take_20 : decode cX6_take 20 = .ok (.iload_n 1, 1) := by decide +kernel
theorem dX6_take_21 : decode cX6_take 21 = .ok (.invokevirtual 133, 3) := by decide +kernel
theorem dX6_take_24 : decode cX6_take 24 = .ok (.ifCond .eq 13, 3) := by decide +kernel
theorem dX6_take_27 : decode cX6_take 27 = .ok (.new 76, 3) := by decide +kernel
theorem dX6_take_30 : decode cX6_take 30 = .ok (.dup, 1) := by decide +kernel
theorem dX6_take_31 : decode cX6_take 31 = .ok (.ldc 136, 2) := by decide +kernel
theorem dX6_take_33 : decode cX6_take 33 = .ok (.invokespecial 80, 3) := by decide +kernel
theorem dX6_take_36 : decode cX6_take 36 = .ok (.athrow, 1) := by decide +kernel
theorem dX6_take_37 : decode cX6_take 37 = .ok (.aload_n 0, 1) := by decide +kernel
theorem dX6_take_38 : decode cX6_take 38 = .ok (.getfield 19, 3) := by decide +kernel
theorem dX6_take_41 : decode cX6_take 41 = .ok (.aload_n 0, 1) := by decide +kernel
theorem dX6_take_42 : decode cX6_take 42 = .ok (.getfield 12, 3) := by decide +kernel
theorem dX6_take_45 : decode cX6_take 45 = .ok (.invokevirtual 62, 3) := by decide +kernel
theorem dX6_take_48 : decode cX6_take 48 = .ok (.aload_n 0, 1) := by decide +kernel
theorem dX6_take_49 : decode cX6_take 49 = .ok (.getfield 12, 3) := by decide +kernel
theorem dX6_take_52 : decode cX6_take 52 = .ok (.getfield 138, 3) := by decide +kernel
theorem dX6_take_55 : decode cX6_take 55 = .ok (.iload_n 1, 1) := by decide +kernel
theorem dX6_take_56 : decode cX6_take 56 = .ok (.iaload, 1) := by decide +kernel
theorem dX6_take_57 : decode cX6_take 57 = .ok (.istore_n 2, 1) := by decide +kernel
theorem dX6_take_58 : decode cX6_take 58 = .ok (.aload_n 0, 1) := by decide +kernel
theorem dX6_take_59 : decode cX6_take 59 = .ok (.getfield 12, 3) := by decide +kernel
theorem dX6_take_62 : decode cX6_take 62 = .ok (.iload_n 1, 1) := by decide +kernel
theorem dX6_take_63 : decode cX6_take 63 = .ok (.invokevirtual 142, 3) := by decide +kernel
theorem dX6_take_66 : decode cX6_take 66 = .ok (.iload_n 2, 1) := by decide +kernel
theorem dX6_take_67 : decode cX6_take 67 = .ok (.ireturn, 1) := by decide +kernel
set_option maxRecDepth 20000 in
theorem ggX6_fix_X6_requireCell : GoodIn wsX6_fix wsX6_requireCell := goodIn_ca (goodIn_r _ [10, 11, 12, 3, 13, 14, 15, 16, 17, 18, 19, 20, 21, 22, 23, 54, 55, 56, 57, 58, 59, 60, 61, 62, 63, 64, 65, 66, 67] (by decide +kernel) (by decide +kernel)) (goodIn_sub (fun _ h => List.mem_cons_of_mem _ (List.mem_append_right _ h)) (by decide +kernel))
set_option maxRecDepth 20000 in
theorem gX6_fix_X6_requireCell : GoodIn wsX6_fix (wsV RX6 126 RX6 yX6_requireCell wsX6_requireCell) := goodIn_app (goodIn_of _ (by decide +kernel)) ggX6_fix_X6_requireCell
set_option maxRecDepth 20000 in
theorem ggX6_fix_X0_isEmpty : GoodIn wsX6_fix wsX0_isEmpty := goodIn_r _ [27, 28, 60, 61, 62, 63, 64, 65, 66, 67] (by decide +kernel) (by decide +kernel)
set_option maxRecDepth 20000 in
theorem gX6_fix_X0_isEmpty : GoodIn wsX6_fix (wsV RX6 130 RX0 yX0_isEmpty wsX0_isEmpty) := goodIn_app (goodIn_of _ (by decide +kernel)) ggX6_fix_X0_isEmpty
set_option maxRecDepth 20000 in
theorem ggX6_fix_X2_save : GoodIn wsX6_fix wsX2_save := goodIn_r _ [33, 34, 35, 36, 37, 38, 39, 16, 40, 22, 23, 41, 42, 43, 28, 44, 45, 46, 47, 48, 49, 68, 69, 70, 60, 61, 62, 63, 64, 65, 66, 67] (by decide +kernel) (by decide +kernel)
set_option maxRecDepth 20000 in
theorem gX6_fix_X2_save : GoodIn wsX6_fix (wsV RX6 62 RX2 yX2_save wsX2_save) := goodIn_app (goodIn_of _ (by decide +kernel)) ggX6_fix_X2_save
set_option maxRecDepth 20000 in
theorem ggX6_fix_X0_isFixed : GoodIn wsX6_fix wsX0_isFixed := goodIn_r _ [53, 43, 60, 61, 62, 63, 64, 65, 66, 67] (by decide +kernel) (by decide +kernel)
set_option maxRecDepth 20000 in
theorem gX6_fix_X0_isFixed : GoodIn wsX6_fix (wsV RX6 133 RX0 yX0_isFixed wsX0_isFixed) := goodIn_app (goodIn_of _ (by decide +kernel)) ggX6_fix_X0_isFixed
theorem dX6_fix_0 : decode cX6_fix 0 = .ok (.aload_n 0, 1) := by decide +kernel
theorem dX6_fix_1 : decode cX6_fix 1 = .ok (.iload_n 1, 1) := by decide +kernel
theorem dX6_fix_2 : decode cX6_fix 2 = .ok (.invokevirtual 126, 3) := by decide +kernel
theorem dX6_fix_5 : decode cX6_fix 5 = .ok (.aload_n 0, 1) := by decide +kernel
theorem dX6_fix_6 : decode cX6_fix 6 = .ok (.getfield 12, 3) := by decide +kernel
theorem dX6_fix_9 : decode cX6_fix 9 = .ok (.iload_n 1, 1) := by decide +kernel
theorem dX6_fix_10 : decode cX6_fix 10 = .ok (.invokevirtual 130, 3) := by decide +kernel
theorem dX6_fix_13 : decode cX6_fix 13 = .ok (.ifCond .eq 13, 3) := by decide +kernel
theorem dX6_fix_16 : decode cX6_fix 16 = .ok (.new 76, 3) := by decide +kernel
theorem dX6_fix_19 : decode cX6_fix 19 = .ok (.dup, 1) := by decide +kernel
theorem dX6_fix_20 : decode cX6_fix 20 = .ok (.ldc 145, 2) := by decide +kernel
theorem dX6_fix_22 : decode cX6_fix 22 = .ok (.invokespecial 80, 3) := by decide +kernel
theorem dX6_fix_25 : decode cX6_fix 25 = .ok (.athrow, 1) := by decide +kernel
theorem dX6_fix_26 : decode cX6_fix 26 = .ok (.aload_n 0, 1) := by decide +kernel
theorem dX6_fix_27 : decode cX6_fix 27 = .ok (.getfield 19, 3) := by decide +kernel
theorem dX6_fix_30 : decode cX6_fix 30 = .ok (.aload_n 0, 1) := by decide +kernel
theorem dX6_fix_31 : decode cX6_fix 31 = .ok (.getfield 12, 3) := by decide +kernel
theorem dX6_fix_34 : decode cX6_fix 34 = .ok (.invokevirtual 62, 3) := by decide +kernel
theorem dX6_fix_37 : decode cX6_fix 37 = .ok (.aload_n 0, 1) := by decide +kernel
theorem dX6_fix_38 : decode cX6_fix 38 = .ok (.getfield 12, 3) := by decide +kernel
theorem dX6_fix_41 : decode cX6_fix 41 = .ok (.dup, 1) := by decide +kernel
theorem dX6_fix_42 : decode cX6_fix 42 = .ok (.getfield 147, 3) := by decide +kernel
theorem dX6_fix_45 : decode cX6_fix 45 = .ok (.iconst 1, 1) := by decide +kernel
theorem dX6_fix_46 : decode cX6_fix 46 = .ok (.iload_n 1, 1) := by decide +kernel
theorem dX6_fix_47 : decode cX6_fix 47 = .ok (.ishl, 1) := by decide +kernel
theorem dX6_fix_48 : decode cX6_fix 48 = .ok (.ixor, 1) := by decide +kernel
theorem dX6_fix_49 : decode cX6_fix 49 = .ok (.putfield 147, 3) := by decide +kernel
theorem dX6_fix_52 : decode cX6_fix 52 = .ok (.aload_n 0, 1) := by decide +kernel
theorem dX6_fix_53 : decode cX6_fix 53 = .ok (.getfield 12, 3) := by decide +kernel
theorem dX6_fix_56 : decode cX6_fix 56 = .ok (.iload_n 1, 1) := by decide +kernel
theorem dX6_fix_57 : decode cX6_fix 57 = .ok (.invokevirtual 133, 3) := by decide +kernel
theorem dX6_fix_60 : decode cX6_fix 60 = .ok (.ifCond .eq 7, 3) := by decide +kernel
theorem dX6_fix_63 : decode cX6_fix 63 = .ok (.iconst 1, 1) := by decide +kernel
theorem dX6_fix_64 : decode cX6_fix 64 = .ok (.goto 4, 3) := by decide +kernel
theorem dX6_fix_67 : decode cX6_fix 67 = .ok (.iconst 0, 1) := by decide +kernel
theorem dX6_fix_68 : decode cX6_fix 68 = .ok (.ireturn, 1) := by decide +kernel
set_option maxRecDepth 20000 in
theorem ggX6_clear_X2_save : GoodIn wsX6_clear wsX2_save := goodIn_r _ [8, 9, 10, 11, 12, 13, 14, 15, 16, 17, 18, 19, 20, 21, 22, 23, 24, 25, 26, 27, 28, 59, 60, 61, 51, 52, 53, 54, 55, 56, 57, 58] (by decide +kernel) (by decide +kernel)
set_option maxRecDepth 20000 in
theorem gX6_clear_X2_save : GoodIn wsX6_clear (wsV RX6 62 RX2 yX2_save wsX2_save) := goodIn_app (goodIn_of _ (by decide +kernel)) ggX6_clear_X2_save
set_option maxRecDepth 20000 in
theorem ggX6_clear_X0_removeAllBut : GoodIn wsX6_clear wsX0_removeAllBut := goodIn_r _ [32, 33, 34, 35, 15, 36, 17, 18, 37, 38, 39, 40, 22, 41, 42, 43, 44, 27, 51, 52, 53, 54, 55, 56, 57, 58] (by decide +kernel) (by decide +kernel)
set_option maxRecDepth 20000 in
theorem gX6_clear_X0_removeAllBut : GoodIn wsX6_clear (wsV RX6 150 RX0 yX0_removeAllBut wsX0_removeAllBut) := goodIn_app (goodIn_of _ (by decide +kernel)) ggX6_clear_X0_removeAllBut
theorem dX6_clear_0 : decode cX6_clear 0 = .ok (.aload_n 0, 1) := by decide +kernel
theorem dX6_clear_1 : decode cX6_clear 1 = .ok (.getfield 19, 3) := by decide +kernel
theorem dX6_clear_4 : decode cX6_clear 4 = .ok (.aload_n 0, 1) := by decide +kernel
theorem dX6_clear_5 : decode cX6_clear 5 = .ok (.getfield 12, 3) := by decide +kernel
theorem dX6_clear_8 : decode cX6_clear 8 = .ok (.invokevirtual 62, 3) := by decide +kernel
theorem dX6_clear_11 : decode cX6_clear 11 = .ok (.aload_n 0, 1) := by decide +kernel
theorem dX6_clear_12 : decode cX6_clear 12 = .ok (.getfield 12, 3) := by decide +kernel
theorem dX6_clear_15 : decode cX6_clear 15 = .ok (.aload_n 0, 1) := by decide +kernel
theorem dX6_clear_16 : decode cX6_clear 16 = .ok (.getfield 12, 3) := by decide +kernel
theorem dX6_clear_19 : decode cX6_clear 19 = .ok (.getfield 147, 3) := by decide +kernel
theorem dX6_clear_22 : decode cX6_clear 22 = .ok (.invokevirtual 150, 3) := by decide +kernel
theorem dX6_clear_25 : decode cX6_clear 25 = .ok (.ireturn, 1) := by decide +kernel
set_option maxRecDepth 20000 in
theorem ggX6_turnOver_X2_save : GoodIn wsX6_turnOver wsX2_save := goodIn_r _ [7, 8, 9, 10, 11, 12, 13, 14, 15, 16, 17, 18, 19, 20, 21, 22, 23, 24, 25, 26, 27, 58, 59, 60, 61, 62, 63, 64, 65, 66, 67, 68] (by decide +kernel) (by decide +kernel)
set_option maxRecDepth 20000 in
theorem gX6_turnOver_X2_save : GoodIn wsX6_turnOver (wsV RX6 62 RX2 yX2_save wsX2_save) := goodIn_app (goodIn_of _ (by decide +kernel)) ggX6_turnOver_X2_save
set_option maxRecDepth 20000 in
theorem ggX6_turnOver_X0_mirror : GoodIn wsX6_turnOver wsX0_mirror := goodIn_r _ [31, 20, 16, 17, 26, 21, 32, 33, 34, 14, 35, 36, 37, 38, 39, 40, 41, 42, 43, 44, 45, 46, 61, 62, 63, 64, 65, 66, 67, 68] (by decide +kernel) (by decide +kernel)
set_option maxRecDepth 20000 in
theorem gX6_turnOver_X0_mirror : GoodIn wsX6_turnOver (wsV RX6 154 RX0 yX0_mirror wsX0_mirror) := goodIn_app (goodIn_of _ (by decide +kernel)) ggX6_turnOver_X0_mirror
set_option maxRecDepth 20000 in
theorem ggX6_turnOver_X0_cells : GoodIn wsX6_turnOver wsX0_cells := goodIn_r _ [42, 16, 17, 61, 62, 63, 64, 65, 66, 67, 68] (by decide +kernel) (by decide +kernel)
set_option maxRecDepth 20000 in
theorem gX6_turnOver_X0_cells : GoodIn wsX6_turnOver (wsV RX6 66 RX0 yX0_cells wsX0_cells) := goodIn_app (goodIn_of _ (by decide +kernel)) ggX6_turnOver_X0_cells
set_option maxRecDepth 20000 in
theorem ggX6_turnOver_X0_emptyCells : GoodIn wsX6_turnOver wsX0_emptyCells := goodIn_r _ [51, 39, 40, 41, 14, 42, 16, 17, 43, 44, 45, 46, 21, 61, 62, 63, 64, 65, 66, 67, 68] (by decide +kernel) (by decide +kernel)
set_option maxRecDepth 20000 in
theorem gX6_turnOver_X0_emptyCells : GoodIn wsX6_turnOver (wsV RX6 123 RX0 yX0_emptyCells wsX0_emptyCells) := goodIn_app (goodIn_of _ (by decide +kernel)) ggX6_turnOver_X0_emptyCells
theorem dX6_turnOver_0 : decode cX6_turnOver 0 = .ok (.aload_n 0, 1) := by decide +kernel
theorem dX6_turnOver_1 : decode cX6_turnOver 1 = .ok (.getfield 19, 3) := by decide +kernel
theorem dX6_turnOver_4 : decode cX6_turnOver 4 = .ok (.aload_n 0, 1) := by decide +kernel
theorem dX6_turnOver_5 : decode cX6_turnOver 5 = .ok (.getfield 12, 3) := by decide +kernel
theorem dX6_turnOver_8 : decode cX6_turnOver 8 = .ok (.invokevirtual 62, 3) := by decide +kernel
theorem dX6_turnOver_11 : decode cX6_turnOver 11 = .ok (.aload_n 0, 1) := by decide +kernel
theorem dX6_turnOver_12 : decode cX6_turnOver 12 = .ok (.getfield 12, 3) := by decide +kernel
theorem dX6_turnOver_15 : decode cX6_turnOver 15 = .ok (.invokevirtual 154, 3) := by decide +kernel
theorem dX6_turnOver_18 : decode cX6_turnOver 18 = .ok (.aload_n 0, 1) := by decide +kernel
theorem dX6_turnOver_19 : decode cX6_turnOver 19 = .ok (.getfield 12, 3) := by decide +kernel
theorem dX6_turnOver_22 : decode cX6_turnOver 22 = .ok (.invokevirtual 66, 3) := by decide +kernel
theorem dX6_turnOver_25 : decode cX6_turnOver 25 = .ok (.aload_n 0, 1) := by decide +kernel
theorem dX6_turnOver_26 : decode cX6_turnOver 26 = .ok (.getfield 12, 3) := by decide +kernel
theorem dX6_turnOver_29 : decode cX6_turnOver 29 = .ok (.invokevirtual 123, 3) := by decide +kernel
theorem dX6_turnOver_32 : decode cX6_turnOver 32 = .ok (.isub, 1) := by decide +kernel
theorem dX6_turnOver_33 : decode cX6_turnOver 33 = .ok (.ireturn, 1) := by decide +kernel
set_option maxRecDepth 20000 in
theorem ggX6_solve_X4_run : GoodIn wsX6_solve wsX4_run := goodIn_r _ [12, 13, 14, 15, 16, 17, 18, 19, 20, 21, 22, 23, 24, 25, 26, 27, 28, 29, 30, 31, 32, 33, 11, 34, 35, 36, 37, 38, 39, 40, 41, 42, 43, 44, 45, 46, 47, 48, 49, 50, 51, 52, 53, 54, 55, 56, 57, 58, 59, 60, 61, 62, 63, 64, 65, 66, 67, 68, 69, 70, 71, 72, 73, 74, 75, 76, 77, 78, 79, 80, 81, 82, 83, 84, 85, 86, 87, 88, 89, 90, 91, 92, 93, 94, 95, 96, 97, 98, 99, 100, 101, 102, 103, 104, 105, 106, 107, 108, 109, 110, 132, 133, 134, 135, 136, 137, 138, 139, 140, 141, 142, 143, 144, 145, 146, 147, 148, 149, 150] (by decide +kernel) (by decide +kernel)
set_option maxRecDepth 20000 in
theorem gX6_solve_X4_run : GoodIn wsX6_solve (wsV RX6 157 RX4 yX4_run wsX4_run) := goodIn_app (goodIn_of _ (by decide +kernel)) ggX6_solve_X4_run
set_option maxRecDepth 20000 in
theorem ggX6_solve_X2_save : GoodIn wsX6_solve wsX2_save := goodIn_r _ [115, 116, 117, 118, 119, 15, 16, 17, 18, 19, 20, 21, 22, 23, 24, 25, 26, 27, 28, 29, 30, 151, 152, 153, 139, 140, 141, 142, 143, 144, 145, 146] (by decide +kernel) (by decide +kernel)
set_option maxRecDepth 20000 in
theorem gX6_solve_X2_save : GoodIn wsX6_solve (wsV RX6 62 RX2 yX2_save wsX2_save) := goodIn_app (goodIn_of _ (by decide +kernel)) ggX6_solve_X2_save
set_option maxRecDepth 20000 in
theorem ggX6_solve_X0_emptyCells : GoodIn wsX6_solve wsX0_emptyCells := goodIn_r _ [123, 73, 48, 49, 17, 50, 19, 20, 124, 52, 53, 54, 24, 139, 140, 141, 142, 143, 144, 145, 146] (by decide +kernel) (by decide +kernel)
set_option maxRecDepth 20000 in
theorem gX6_solve_X0_emptyCells : GoodIn wsX6_solve (wsV RX6 123 RX0 yX0_emptyCells wsX0_emptyCells) := goodIn_app (goodIn_of _ (by decide +kernel)) ggX6_solve_X0_emptyCells
set_option maxRecDepth 20000 in
theorem ggX6_solve_X0_copyFrom : GoodIn wsX6_solve wsX0_copyFrom := goodIn_r _ [18, 19, 20, 21, 22, 23, 24, 25, 26, 27, 28, 29, 30, 139, 140, 141, 142, 143, 144, 145, 146] (by decide +kernel) (by decide +kernel)
set_option maxRecDepth 20000 in
theorem gX6_solve_X0_copyFrom : GoodIn wsX6_solve (wsV RX6 169 RX0 yX0_copyFrom wsX0_copyFrom) := goodIn_app (goodIn_of _ (by decide +kernel)) ggX6_solve_X0_copyFrom
theorem dX6_solve_0 : decode cX6_solve 0 = .ok (.aload_n 0, 1) := by decide +kernel
theorem dX6_solve_1 : decode cX6_solve 1 = .ok (.getfield 40, 3) := by decide +kernel
theorem dX6_solve_4 : decode cX6_solve 4 = .ok (.aload_n 0, 1) := by decide +kernel
theorem dX6_solve_5 : decode cX6_solve 5 = .ok (.getfield 12, 3) := by decide +kernel
theorem dX6_solve_8 : decode cX6_solve 8 = .ok (.iconst 1, 1) := by decide +kernel
theorem dX6_solve_9 : decode cX6_solve 9 = .ok (.invokevirtual 157, 3) := by decide +kernel
theorem dX6_solve_12 : decode cX6_solve 12 = .ok (.aload_n 0, 1) := by decide +kernel
theorem dX6_solve_13 : decode cX6_solve 13 = .ok (.getfield 40, 3) := by decide +kernel
theorem dX6_solve_16 : decode cX6_solve 16 = .ok (.getfield 161, 3) := by decide +kernel
theorem dX6_solve_19 : decode cX6_solve 19 = .ok (.iconst 1, 1) := by decide +kernel
theorem dX6_solve_20 : decode cX6_solve 20 = .ok (.if_icmp .ge 13, 3) := by decide +kernel
theorem dX6_solve_23 : decode cX6_solve 23 = .ok (.new 76, 3) := by decide +kernel
theorem dX6_solve_26 : decode cX6_solve 26 = .ok (.dup, 1) := by decide +kernel
theorem dX6_solve_27 : decode cX6_solve 27 = .ok (.ldc 164, 2) := by decide +kernel
theorem dX6_solve_29 : decode cX6_solve 29 = .ok (.invokespecial 80, 3) := by decide +kernel
theorem dX6_solve_32 : decode cX6_solve 32 = .ok (.athrow, 1) := by decide +kernel
theorem dX6_solve_33 : decode cX6_solve 33 = .ok (.aload_n 0, 1) := by decide +kernel
theorem dX6_solve_34 : decode cX6_solve 34 = .ok (.getfield 19, 3) := by decide +kernel
theorem dX6_solve_37 : decode cX6_solve 37 = .ok (.aload_n 0, 1) := by decide +kernel
theorem dX6_solve_38 : decode cX6_solve 38 = .ok (.getfield 12, 3) := by decide +kernel
theorem dX6_solve_41 : decode cX6_solve 41 = .ok (.invokevirtual 62, 3) := by decide +kernel
theorem dX6_solve_44 : decode cX6_solve 44 = .ok (.aload_n 0, 1) := by decide +kernel
theorem dX6_solve_45 : decode cX6_solve 45 = .ok (.getfield 12, 3) := by decide +kernel
theorem dX6_solve_48 : decode cX6_solve 48 = .ok (.invokevirtual 123, 3) := by decide +kernel
theorem dX6_solve_51 : decode cX6_solve 51 = .ok (.istore_n 1, 1) := by decide +kernel
theorem dX6_solve_52 : decode cX6_solve 52 = .ok (.aload_n 0, 1) := by decide +kernel
theorem dX6_solve_53 : decode cX6_solve 53 = .ok (.getfield 12, 3) := by decide +kernel
theorem dX6_solve_56 : decode cX6_solve 56 = .ok (.aload_n 0, 1) := by decide +kernel
theorem dX6_solve_57 : decode cX6_solve 57 = .ok (.getfield 40, 3) := by decide +kernel
theorem dX6_solve_60 : decode cX6_solve 60 = .ok (.getfield 166, 3) := by decide +kernel
theorem dX6_solve_63 : decode cX6_solve 63 = .ok (.invokevirtual 169, 3) := by decide +kernel
theorem dX6_solve_66 : decode cX6_solve 66 = .ok (.iload_n 1, 1) := by decide +kernel
theorem dX6_solve_67 : decode cX6_solve 67 = .ok (.ireturn, 1) := by decide +kernel
set_option maxRecDepth 20000 in
theorem ggX6_undo_X2_restore : GoodIn wsX6_undo wsX2_restore := goodIn_r _ [10, 11, 12, 13, 14, 15, 16, 17, 18, 19, 20, 21, 22, 23, 24, 25, 26, 27, 28, 29, 30, 37, 38, 39, 40, 41, 42, 43, 44, 45, 46, 47] (by decide +kernel) (by decide +kernel)
set_option maxRecDepth 20000 in
theorem gX6_undo_X2_restore : GoodIn wsX6_undo (wsV RX6 204 RX2 yX2_restore wsX2_restore) := goodIn_app (goodIn_of _ (by decide +kernel)) ggX6_undo_X2_restore
theorem dX6_undo_0 : decode cX6_undo 0 = .ok (.aload_n 0, 1) := by decide +kernel
theorem dX6_undo_1 : decode cX6_undo 1 = .ok (.getfield 19, 3) := by decide +kernel
theorem dX6_undo_4 : decode cX6_undo 4 = .ok (.getfield 199, 3) := by decide +kernel
theorem dX6_undo_7 : decode cX6_undo 7 = .ok (.iconst 1, 1) := by decide +kernel
theorem dX6_undo_8 : decode cX6_undo 8 = .ok (.if_icmp .ge 13, 3) := by decide +kernel
theorem dX6_undo_11 : decode cX6_undo 11 = .ok (.new 76, 3) := by decide +kernel
theorem dX6_undo_14 : decode cX6_undo 14 = .ok (.dup, 1) := by decide +kernel
theorem dX6_undo_15 : decode cX6_undo 15 = .ok (.ldc 202, 2) := by decide +kernel
theorem dX6_undo_17 : decode cX6_undo 17 = .ok (.invokespecial 80, 3) := by decide +kernel
theorem dX6_undo_20 : decode cX6_undo 20 = .ok (.athrow, 1) := by decide +kernel
theorem dX6_undo_21 : decode cX6_undo 21 = .ok (.aload_n 0, 1) := by decide +kernel
theorem dX6_undo_22 : decode cX6_undo 22 = .ok (.getfield 19, 3) := by decide +kernel
theorem dX6_undo_25 : decode cX6_undo 25 = .ok (.aload_n 0, 1) := by decide +kernel
theorem dX6_undo_26 : decode cX6_undo 26 = .ok (.getfield 12, 3) := by decide +kernel
theorem dX6_undo_29 : decode cX6_undo 29 = .ok (.invokevirtual 204, 3) := by decide +kernel
theorem dX6_undo_32 : decode cX6_undo 32 = .ok (.aload_n 0, 1) := by decide +kernel
theorem dX6_undo_33 : decode cX6_undo 33 = .ok (.getfield 19, 3) := by decide +kernel
theorem dX6_undo_36 : decode cX6_undo 36 = .ok (.getfield 199, 3) := by decide +kernel
theorem dX6_undo_39 : decode cX6_undo 39 = .ok (.ireturn, 1) := by decide +kernel
set_option maxRecDepth 20000 in
theorem ggX6_cell_X6_requireCell : GoodIn wsX6_cell wsX6_requireCell := goodIn_ca (goodIn_r _ [7, 8, 9, 10, 11, 12, 13, 14, 15, 16, 17, 18, 19, 20, 21, 96, 97, 98, 99, 100, 101, 102, 103, 104, 105, 106, 107, 108, 109] (by decide +kernel) (by decide +kernel)) (goodIn_sub (fun _ h => List.mem_cons_of_mem _ (List.mem_append_right _ h)) (by decide +kernel))
set_option maxRecDepth 20000 in
theorem gX6_cell_X6_requireCell : GoodIn wsX6_cell (wsV RX6 126 RX6 yX6_requireCell wsX6_requireCell) := goodIn_app (goodIn_of _ (by decide +kernel)) ggX6_cell_X6_requireCell
set_option maxRecDepth 20000 in
theorem ggX6_cell_X6_cellProperty : GoodIn wsX6_cell wsX6_cellProperty := goodIn_r _ [25, 10, 26, 27, 28, 29, 14, 30, 31, 32, 33, 34, 6, 35, 36, 37, 38, 39, 40, 41, 42, 43, 44, 45, 46, 47, 48, 49, 50, 51, 52, 53, 54, 55, 56, 57, 58, 59, 60, 21, 16, 17, 18, 19, 20, 61, 62, 63, 64, 65, 66, 67, 68, 69, 70, 71, 72, 73, 74, 75, 76, 77, 78, 79, 80, 81, 82, 83, 84, 85, 86, 87, 88, 89, 90, 91, 92, 93, 94, 95, 96, 97, 98, 99, 100, 101, 102, 103, 104, 105, 106, 107, 108, 109, 110, 111, 112, 113] (by decide +kernel) (by decide +kernel)
set_option maxRecDepth 20000 in
theorem gX6_cell_X6_cellProperty : GoodIn wsX6_cell (wsV RX6 209 RX6 yX6_cellProperty wsX6_cellProperty) := goodIn_app (goodIn_of _ (by decide +kernel)) ggX6_cell_X6_cellProperty
theorem dX6_cell_0 : decode cX6_cell 0 = .ok (.aload_n 0, 1) := by decide +kernel
theorem dX6_cell_1 : decode cX6_cell 1 = .ok (.iload_n 1, 1) := by decide +kernel
theorem dX6_cell_2 : decode cX6_cell 2 = .ok (.invokevirtual 126, 3) := by decide +kernel
theorem dX6_cell_5 : decode cX6_cell 5 = .ok (.iload_n 2, 1) := by decide +kernel
theorem dX6_cell_6 : decode cX6_cell 6 = .ok (.ifCond .lt 8, 3) := by decide +kernel
theorem dX6_cell_9 : decode cX6_cell 9 = .ok (.iload_n 2, 1) := by decide +kernel
theorem dX6_cell_10 : decode cX6_cell 10 = .ok (.iconst 4, 1) := by decide +kernel
theorem dX6_cell_11 : decode cX6_cell 11 = .ok (.if_icmp .lt 13, 3) := by decide +kernel
theorem dX6_cell_14 : decode cX6_cell 14 = .ok (.new 55, 3) := by decide +kernel
theorem dX6_cell_17 : decode cX6_cell 17 = .ok (.dup, 1) := by decide +kernel
theorem dX6_cell_18 : decode cX6_cell 18 = .ok (.ldc 207, 2) := by decide +kernel
theorem dX6_cell_20 : decode cX6_cell 20 = .ok (.invokespecial 59, 3) := by decide +kernel
theorem dX6_cell_23 : decode cX6_cell 23 = .ok (.athrow, 1) := by decide +kernel
theorem dX6_cell_24 : decode cX6_cell 24 = .ok (.aload_n 0, 1) := by decide +kernel
theorem dX6_cell_25 : decode cX6_cell 25 = .ok (.iload_n 1, 1) := by decide +kernel
theorem dX6_cell_26 : decode cX6_cell 26 = .ok (.iload_n 2, 1) := by decide +kernel
theorem dX6_cell_27 : decode cX6_cell 27 = .ok (.invokevirtual 209, 3) := by decide +kernel
theorem dX6_cell_30 : decode cX6_cell 30 = .ok (.ireturn, 1) := by decide +kernel
set_option maxRecDepth 20000 in
theorem ggX6_color_X6_requireCell : GoodIn wsX6_color wsX6_requireCell := goodIn_ca (goodIn_r _ [7, 1, 2, 8, 9, 10, 11, 12, 13, 14, 15, 16, 17, 18, 19, 38, 39, 40, 41, 42, 43, 44, 45, 46, 47, 48, 49, 50, 51] (by decide +kernel) (by decide +kernel)) (goodIn_sub (fun _ h => List.mem_cons_of_mem _ (List.mem_append_right _ h)) (by decide +kernel))
set_option maxRecDepth 20000 in
theorem gX6_color_X6_requireCell : GoodIn wsX6_color (wsV RX6 126 RX6 yX6_requireCell wsX6_requireCell) := goodIn_app (goodIn_of _ (by decide +kernel)) ggX6_color_X6_requireCell
set_option maxRecDepth 20000 in
theorem ggX6_color_X6_colorAt : GoodIn wsX6_color wsX6_colorAt := goodIn_r _ [23, 8, 24, 25, 26, 12, 27, 28, 29, 30, 31, 32, 33, 34, 35, 6, 36, 37, 38, 39, 40, 41, 42, 43, 44, 45, 46, 47, 48, 49, 50, 51] (by decide +kernel) (by decide +kernel)
set_option maxRecDepth 20000 in
theorem gX6_color_X6_colorAt : GoodIn wsX6_color (wsV RX6 217 RX6 yX6_colorAt wsX6_colorAt) := goodIn_app (goodIn_of _ (by decide +kernel)) ggX6_color_X6_colorAt
theorem dX6_color_0 : decode cX6_color 0 = .ok (.aload_n 0, 1) := by decide +kernel
theorem dX6_color_1 : decode cX6_color 1 = .ok (.iload_n 1, 1) := by decide +kernel
theorem dX6_color_2 : decode cX6_color 2 = .ok (.invokevirtual 126, 3) := by decide +kernel
theorem dX6_color_5 : decode cX6_color 5 = .ok (.iload_n 2, 1) := by decide +kernel
theorem dX6_color_6 : decode cX6_color 6 = .ok (.ifCond .lt 8, 3) := by decide +kernel
theorem dX6_color_9 : decode cX6_color 9 = .ok (.iload_n 2, 1) := by decide +kernel
theorem dX6_color_10 : decode cX6_color 10 = .ok (.iconst 4, 1) := by decide +kernel
theorem dX6_color_11 : decode cX6_color 11 = .ok (.if_icmp .lt 13, 3) := by decide +kernel
theorem dX6_color_14 : decode cX6_color 14 = .ok (.new 212, 3) := by decide +kernel
theorem dX6_color_17 : decode cX6_color 17 = .ok (.dup, 1) := by decide +kernel
theorem dX6_color_18 : decode cX6_color 18 = .ok (.ldc 214, 2) := by decide +kernel
theorem dX6_color_20 : decode cX6_color 20 = .ok (.invokespecial 216, 3) := by decide +kernel
theorem dX6_color_23 : decode cX6_color 23 = .ok (.athrow, 1) := by decide +kernel
theorem dX6_color_24 : decode cX6_color 24 = .ok (.aload_n 0, 1) := by decide +kernel
theorem dX6_color_25 : decode cX6_color 25 = .ok (.iload_n 1, 1) := by decide +kernel
theorem dX6_color_26 : decode cX6_color 26 = .ok (.iload_n 2, 1) := by decide +kernel
theorem dX6_color_27 : decode cX6_color 27 = .ok (.iload_n 3, 1) := by decide +kernel
theorem dX6_color_28 : decode cX6_color 28 = .ok (.invokevirtual 217, 3) := by decide +kernel
theorem dX6_color_31 : decode cX6_color 31 = .ok (.ireturn, 1) := by decide +kernel
set_option maxRecDepth 20000 in
theorem ggX6_tile_X6_tileProperty : GoodIn wsX6_tile wsX6_tileProperty := goodIn_r _ [11, 5, 12, 13, 14, 15, 16, 17, 18, 19, 10, 20, 21, 22, 23, 24, 25, 26, 27, 28, 29, 30, 31, 32, 33, 34, 35, 36, 37, 38, 39] (by decide +kernel) (by decide +kernel)
set_option maxRecDepth 20000 in
theorem gX6_tile_X6_tileProperty : GoodIn wsX6_tile (wsV RX6 223 RX6 yX6_tileProperty wsX6_tileProperty) := goodIn_app (goodIn_of _ (by decide +kernel)) ggX6_tile_X6_tileProperty
theorem dX6_tile_0 : decode cX6_tile 0 = .ok (.iload_n 1, 1) := by decide +kernel
theorem dX6_tile_1 : decode cX6_tile 1 = .ok (.ifCond .lt 14, 3) := by decide +kernel
theorem dX6_tile_4 : decode cX6_tile 4 = .ok (.iload_n 1, 1) := by decide +kernel
theorem dX6_tile_5 : decode cX6_tile 5 = .ok (.aload_n 0, 1) := by decide +kernel
theorem dX6_tile_6 : decode cX6_tile 6 = .ok (.getfield 12, 3) := by decide +kernel
theorem dX6_tile_9 : decode cX6_tile 9 = .ok (.getfield 72, 3) := by decide +kernel
theorem dX6_tile_12 : decode cX6_tile 12 = .ok (.if_icmp .lt 13, 3) := by decide +kernel
theorem dX6_tile_15 : decode cX6_tile 15 = .ok (.new 212, 3) := by decide +kernel
theorem dX6_tile_18 : decode cX6_tile 18 = .ok (.dup, 1) := by decide +kernel
theorem dX6_tile_19 : decode cX6_tile 19 = .ok (.ldc 221, 2) := by decide +kernel
theorem dX6_tile_21 : decode cX6_tile 21 = .ok (.invokespecial 216, 3) := by decide +kernel
theorem dX6_tile_24 : decode cX6_tile 24 = .ok (.athrow, 1) := by decide +kernel
theorem dX6_tile_25 : decode cX6_tile 25 = .ok (.iload_n 2, 1) := by decide +kernel
theorem dX6_tile_26 : decode cX6_tile 26 = .ok (.ifCond .lt 8, 3) := by decide +kernel
theorem dX6_tile_29 : decode cX6_tile 29 = .ok (.iload_n 2, 1) := by decide +kernel
theorem dX6_tile_30 : decode cX6_tile 30 = .ok (.iconst 4, 1) := by decide +kernel
theorem dX6_tile_31 : decode cX6_tile 31 = .ok (.if_icmp .lt 13, 3) := by decide +kernel
theorem dX6_tile_34 : decode cX6_tile 34 = .ok (.new 55, 3) := by decide +kernel
theorem dX6_tile_37 : decode cX6_tile 37 = .ok (.dup, 1) := by decide +kernel
theorem dX6_tile_38 : decode cX6_tile 38 = .ok (.ldc 207, 2) := by decide +kernel
theorem dX6_tile_40 : decode cX6_tile 40 = .ok (.invokespecial 59, 3) := by decide +kernel
theorem dX6_tile_43 : decode cX6_tile 43 = .ok (.athrow, 1) := by decide +kernel
theorem dX6_tile_44 : decode cX6_tile 44 = .ok (.aload_n 0, 1) := by decide +kernel
theorem dX6_tile_45 : decode cX6_tile 45 = .ok (.iload_n 1, 1) := by decide +kernel
theorem dX6_tile_46 : decode cX6_tile 46 = .ok (.iload_n 2, 1) := by decide +kernel
theorem dX6_tile_47 : decode cX6_tile 47 = .ok (.invokevirtual 223, 3) := by decide +kernel
theorem dX6_tile_50 : decode cX6_tile 50 = .ok (.ireturn, 1) := by decide +kernel
set_option maxRecDepth 20000 in
theorem ggX6_count_X6_number : GoodIn wsX6_count wsX6_number := goodIn_r _ [7, 8, 9, 10, 11, 12, 13, 14, 15, 16, 17, 18, 19, 20, 21, 22, 23, 24, 25, 26, 27, 28, 29, 30, 31, 32, 33, 34, 35, 36, 37, 38, 39, 40, 41, 42, 43, 44, 45, 46, 47, 48, 49, 50, 51, 52, 53, 54, 55, 56, 57, 6, 58, 59, 60, 61, 62, 63, 64, 65, 66, 67, 68, 69, 70, 71, 72, 73, 74, 75, 76, 77, 78, 79, 80, 81, 82, 83, 84, 85, 86, 87, 88, 89, 90, 91, 92, 93, 94, 95, 96, 97, 98, 99, 100, 101, 102, 103, 104, 105, 106, 107, 108, 109, 110, 111, 112, 113, 114, 115, 116, 117] (by decide +kernel) (by decide +kernel)
set_option maxRecDepth 20000 in
theorem gX6_count_X6_number : GoodIn wsX6_count (wsV RX6 228 RX6 yX6_number wsX6_number) := goodIn_app (goodIn_of _ (by decide +kernel)) ggX6_count_X6_number
theorem dX6_count_0 : decode cX6_count 0 = .ok (.iload_n 1, 1) := by decide +kernel
theorem dX6_count_1 : decode cX6_count 1 = .ok (.ifCond .lt 9, 3) := by decide +kernel
theorem dX6_count_4 : decode cX6_count 4 = .ok (.iload_n 1, 1) := by decide +kernel
theorem dX6_count_5 : decode cX6_count 5 = .ok (.bipush 10, 2) := by decide +kernel
theorem dX6_count_7 : decode cX6_count 7 = .ok (.if_icmp .lt 13, 3) := by decide +kernel
theorem dX6_count_10 : decode cX6_count 10 = .ok (.new 55, 3) := by decide +kernel
theorem dX6_count_13 : decode cX6_count 13 = .ok (.dup, 1) := by decide +kernel
theorem dX6_count_14 : decode cX6_count 14 = .ok (.ldc 226, 2) := by decide +kernel
theorem dX6_count_16 : decode cX6_count 16 = .ok (.invokespecial 59, 3) := by decide +kernel
theorem dX6_count_19 : decode cX6_count 19 = .ok (.athrow, 1) := by decide +kernel
theorem dX6_count_20 : decode cX6_count 20 = .ok (.aload_n 0, 1) := by decide +kernel
theorem dX6_count_21 : decode cX6_count 21 = .ok (.iload_n 1, 1) := by decide +kernel
theorem dX6_count_22 : decode cX6_count 22 = .ok (.invokevirtual 228, 3) := by decide +kernel
theorem dX6_count_25 : decode cX6_count 25 = .ok (.ireturn, 1) := by decide +kernel
set_option maxRecDepth 20000 in
theorem ggX6_layings_X4_run : GoodIn wsX6_layings wsX4_run := goodIn_r _ [9, 10, 11, 12, 13, 14, 15, 16, 17, 18, 19, 20, 21, 22, 23, 24, 25, 26, 27, 28, 29, 30, 8, 31, 32, 33, 34, 35, 36, 37, 38, 39, 40, 41, 42, 43, 44, 45, 46, 47, 48, 49, 50, 51, 52, 53, 54, 55, 56, 57, 58, 59, 60, 61, 62, 63, 64, 65, 66, 67, 68, 69, 70, 71, 72, 73, 74, 75, 76, 77, 78, 79, 80, 81, 82, 83, 84, 85, 86, 87, 88, 89, 90, 91, 92, 93, 94, 95, 96, 97, 98, 99, 100, 101, 102, 103, 104, 105, 106, 107, 118, 119, 120, 121, 122, 123, 124, 125, 126, 127, 128, 129, 130, 131, 132, 133, 134, 135, 136] (by decide +kernel) (by decide +kernel)
set_option maxRecDepth 20000 in
theorem gX6_layings_X4_run : GoodIn wsX6_layings (wsV RX6 157 RX4 yX4_run wsX4_run) := goodIn_app (goodIn_of _ (by decide +kernel)) ggX6_layings_X4_run
set_option maxRecDepth 20000 in
theorem ggX6_layings_X4_result : GoodIn wsX6_layings wsX4_result := goodIn_r _ [111, 33, 34, 35, 118, 119, 120, 121, 122, 123, 124] (by decide +kernel) (by decide +kernel)
set_option maxRecDepth 20000 in
theorem gX6_layings_X4_result : GoodIn wsX6_layings (wsV RX6 233 RX4 yX4_result wsX4_result) := goodIn_app (goodIn_of _ (by decide +kernel)) ggX6_layings_X4_result
theorem dX6_layings_0 : decode cX6_layings 0 = .ok (.iload_n 1, 1) := by decide +kernel
theorem dX6_layings_1 : decode cX6_layings 1 = .ok (.iconst 1, 1) := by decide +kernel
theorem dX6_layings_2 : decode cX6_layings 2 = .ok (.if_icmp .lt 18, 3) := by decide +kernel
theorem dX6_layings_5 : decode cX6_layings 5 = .ok (.iload_n 1, 1) := by decide +kernel
theorem dX6_layings_6 : decode cX6_layings 6 = .ok (.bipush 50, 2) := by decide +kernel
theorem dX6_layings_8 : decode cX6_layings 8 = .ok (.if_icmp .gt 12, 3) := by decide +kernel
theorem dX6_layings_11 : decode cX6_layings 11 = .ok (.iload_n 2, 1) := by decide +kernel
theorem dX6_layings_12 : decode cX6_layings 12 = .ok (.ifCond .lt 8, 3) := by decide +kernel
theorem dX6_layings_15 : decode cX6_layings 15 = .ok (.iload_n 2, 1) := by decide +kernel
theorem dX6_layings_16 : decode cX6_layings 16 = .ok (.iconst 3, 1) := by decide +kernel
theorem dX6_layings_17 : decode cX6_layings 17 = .ok (.if_icmp .lt 13, 3) := by decide +kernel
theorem dX6_layings_20 : decode cX6_layings 20 = .ok (.new 55, 3) := by decide +kernel
theorem dX6_layings_23 : decode cX6_layings 23 = .ok (.dup, 1) := by decide +kernel
theorem dX6_layings_24 : decode cX6_layings 24 = .ok (.ldc 231, 2) := by decide +kernel
theorem dX6_layings_26 : decode cX6_layings 26 = .ok (.invokespecial 59, 3) := by decide +kernel
theorem dX6_layings_29 : decode cX6_layings 29 = .ok (.athrow, 1) := by decide +kernel
theorem dX6_layings_30 : decode cX6_layings 30 = .ok (.aload_n 0, 1) := by decide +kernel
theorem dX6_layings_31 : decode cX6_layings 31 = .ok (.getfield 40, 3) := by decide +kernel
theorem dX6_layings_34 : decode cX6_layings 34 = .ok (.aload_n 0, 1) := by decide +kernel
theorem dX6_layings_35 : decode cX6_layings 35 = .ok (.getfield 12, 3) := by decide +kernel
theorem dX6_layings_38 : decode cX6_layings 38 = .ok (.iload_n 1, 1) := by decide +kernel
theorem dX6_layings_39 : decode cX6_layings 39 = .ok (.invokevirtual 157, 3) := by decide +kernel
theorem dX6_layings_42 : decode cX6_layings 42 = .ok (.aload_n 0, 1) := by decide +kernel
theorem dX6_layings_43 : decode cX6_layings 43 = .ok (.getfield 40, 3) := by decide +kernel
theorem dX6_layings_46 : decode cX6_layings 46 = .ok (.iload_n 2, 1) := by decide +kernel
theorem dX6_layings_47 : decode cX6_layings 47 = .ok (.invokevirtual 233, 3) := by decide +kernel
theorem dX6_layings_50 : decode cX6_layings 50 = .ok (.ireturn, 1) := by decide +kernel
set_option maxRecDepth 20000 in
theorem ggX6_hint_X6_bestStep : GoodIn wsX6_hint wsX6_bestStep := goodIn_r _ [5, 6, 7, 8, 9, 10, 11, 12, 13, 14, 15, 16, 4, 17, 18, 19, 20, 21, 22, 23, 24, 25, 26, 27, 28, 29, 30, 31, 32, 33, 34, 35, 36, 37, 38, 39, 40, 41, 42, 43, 44, 45, 46, 47, 48, 49, 50, 51, 52, 53, 54, 55, 56, 57, 58, 59, 60, 61, 62, 63, 64, 65, 66, 67, 68, 69, 70, 71, 72, 73, 74, 75, 76, 77, 78, 79, 80, 81, 82, 83, 84, 85, 86, 87, 88, 89, 90, 91, 92, 93, 94, 95, 96] (by decide +kernel) (by decide +kernel)
set_option maxRecDepth 20000 in
theorem gX6_hint_X6_bestStep : GoodIn wsX6_hint (wsV RX6 236 RX6 yX6_bestStep wsX6_bestStep) := goodIn_app (goodIn_of _ (by decide +kernel)) ggX6_hint_X6_bestStep
theorem dX6_hint_0 : decode cX6_hint 0 = .ok (.aload_n 0, 1) := by decide +kernel
theorem dX6_hint_1 : decode cX6_hint 1 = .ok (.invokevirtual 236, 3) := by decide +kernel
theorem dX6_hint_4 : decode cX6_hint 4 = .ok (.ireturn, 1) := by decide +kernel
set_option maxRecDepth 20000 in
theorem ggX6_why_X6_requirePlacing : GoodIn wsX6_why wsX6_requirePlacing := goodIn_ca (goodIn_r _ [5, 6, 7, 8, 9, 10, 11, 4, 12, 13, 14, 15, 16, 17, 18, 19, 20, 21, 22, 23, 24, 25, 26, 27, 28, 84, 85, 86, 87, 88, 89, 90, 91, 92, 93, 94, 95, 96, 97] (by decide +kernel) (by decide +kernel)) (goodIn_sub (fun _ h => List.mem_cons_of_mem _ (List.mem_append_right _ h)) (by decide +kernel))
set_option maxRecDepth 20000 in
theorem gX6_why_X6_requirePlacing : GoodIn wsX6_why (wsV RX6 111 RX6 yX6_requirePlacing wsX6_requirePlacing) := goodIn_app (goodIn_of _ (by decide +kernel)) ggX6_why_X6_requirePlacing
set_option maxRecDepth 20000 in
theorem ggX6_why_X6_reason : GoodIn wsX6_why wsX6_reason := goodIn_r _ [32, 8, 33, 34, 35, 36, 37, 16, 38, 39, 40, 41, 42, 43, 44, 45, 46, 47, 48, 49, 50, 51, 52, 53, 54, 55, 56, 57, 58, 59, 60, 61, 62, 23, 18, 19, 20, 21, 22, 63, 64, 65, 66, 67, 68, 69, 4, 70, 71, 72, 73, 74, 75, 76, 77, 78, 79, 80, 81, 82, 83, 84, 85, 86, 87, 88, 89, 90, 91, 92, 93, 94, 95, 96, 97, 98, 99, 100, 101] (by decide +kernel) (by decide +kernel)
set_option maxRecDepth 20000 in
theorem gX6_why_X6_reason : GoodIn wsX6_why (wsV RX6 114 RX6 yX6_reason wsX6_reason) := goodIn_app (goodIn_of _ (by decide +kernel)) ggX6_why_X6_reason
theorem dX6_why_0 : decode cX6_why 0 = .ok (.aload_n 0, 1) := by decide +kernel
theorem dX6_why_1 : decode cX6_why 1 = .ok (.iload_n 1, 1) := by decide +kernel
theorem dX6_why_2 : decode cX6_why 2 = .ok (.iload_n 2, 1) := by decide +kernel
theorem dX6_why_3 : decode cX6_why 3 = .ok (.invokevirtual 111, 3) := by decide +kernel
theorem dX6_why_6 : decode cX6_why 6 = .ok (.aload_n 0, 1) := by decide +kernel
theorem dX6_why_7 : decode cX6_why 7 = .ok (.iload_n 1, 1) := by decide +kernel
theorem dX6_why_8 : decode cX6_why 8 = .ok (.iload_n 2, 1) := by decide +kernel
theorem dX6_why_9 : decode cX6_why 9 = .ok (.invokevirtual 114, 3) := by decide +kernel
theorem dX6_why_12 : decode cX6_why 12 = .ok (.ireturn, 1) := by decide +kernel
set_option maxRecDepth 20000 in
theorem ggX6_fitting_X6_fittingPart : GoodIn wsX6_fitting wsX6_fittingPart := goodIn_r _ [5, 6, 7, 8, 9, 10, 11, 12, 13, 14, 15, 16, 17, 18, 19, 20, 21, 22, 23, 24, 25, 26, 27, 28, 29, 30, 31, 32, 33, 34, 35, 36, 37, 4, 38, 39, 40, 41, 42, 43, 44, 45, 46, 47, 48, 49, 50, 51, 52, 53, 54, 55] (by decide +kernel) (by decide +kernel)
set_option maxRecDepth 20000 in
theorem gX6_fitting_X6_fittingPart : GoodIn wsX6_fitting (wsV RX6 248 RX6 yX6_fittingPart wsX6_fittingPart) := goodIn_app (goodIn_of _ (by decide +kernel)) ggX6_fitting_X6_fittingPart
theorem dX6_fitting_0 : decode cX6_fitting 0 = .ok (.aload_n 0, 1) := by decide +kernel
theorem dX6_fitting_1 : decode cX6_fitting 1 = .ok (.invokevirtual 248, 3) := by decide +kernel
theorem dX6_fitting_4 : decode cX6_fitting 4 = .ok (.dreturn, 1) := by decide +kernel
set_option maxRecDepth 20000 in
theorem ggX6_requireCell_X0_hasCell : GoodIn wsX6_requireCell wsX0_hasCell := goodIn_r _ [8, 9, 10, 11, 7, 12, 13, 14, 21, 22, 23, 24, 25, 26, 27, 28] (by decide +kernel) (by decide +kernel)
set_option maxRecDepth 20000 in
theorem gX6_requireCell_X0_hasCell : GoodIn wsX6_requireCell (wsV RX6 267 RX0 yX0_hasCell wsX0_hasCell) := goodIn_app (goodIn_of _ (by decide +kernel)) ggX6_requireCell_X0_hasCell
theorem dX6_requireCell_0 : decode cX6_requireCell 0 = .ok (.aload_n 0, 1) := by decide +kernel
theorem dX6_requireCell_1 : decode cX6_requireCell 1 = .ok (.getfield 12, 3) := by decide +kernel
theorem dX6_requireCell_4 : decode cX6_requireCell 4 = .ok (.iload_n 1, 1) := by decide +kernel
theorem dX6_requireCell_5 : decode cX6_requireCell 5 = .ok (.invokevirtual 267, 3) := by decide +kernel
theorem dX6_requireCell_8 : decode cX6_requireCell 8 = .ok (.ifCond .ne 14, 3) := by decide +kernel
theorem dX6_requireCell_11 : decode cX6_requireCell 11 = .ok (.new 212, 3) := by decide +kernel
theorem dX6_requireCell_14 : decode cX6_requireCell 14 = .ok (.dup, 1) := by decide +kernel
theorem dX6_requireCell_15 : decode cX6_requireCell 15 = .ok (.ldc_w 270, 3) := by decide +kernel
theorem dX6_requireCell_18 : decode cX6_requireCell 18 = .ok (.invokespecial 216, 3) := by decide +kernel
theorem dX6_requireCell_21 : decode cX6_requireCell 21 = .ok (.athrow, 1) := by decide +kernel
theorem dX6_requireCell_22 : decode cX6_requireCell 22 = .ok (.return_, 1) := by decide +kernel
set_option maxRecDepth 20000 in
theorem ggX6_requirePlacing_X6_requireCell : GoodIn wsX6_requirePlacing wsX6_requireCell := goodIn_ca (goodIn_r _ [8, 1, 2, 3, 9, 10, 11, 12, 13, 14, 15, 16, 17, 18, 19, 25, 26, 27, 28, 29, 30, 31, 32, 33, 34, 35, 36, 37, 38] (by decide +kernel) (by decide +kernel)) (goodIn_sub (fun _ h => List.mem_cons_of_mem _ (List.mem_append_right _ h)) (by decide +kernel))
set_option maxRecDepth 20000 in
theorem gX6_requirePlacing_X6_requireCell : GoodIn wsX6_requirePlacing (wsV RX6 126 RX6 yX6_requireCell wsX6_requireCell) := goodIn_app (goodIn_of _ (by decide +kernel)) ggX6_requirePlacing_X6_requireCell
set_option maxRecDepth 20000 in
theorem ggX6_requirePlacing_X0_hasPlacing : GoodIn wsX6_requirePlacing wsX0_hasPlacing := goodIn_r _ [23, 24, 31, 32, 33, 34, 35, 36, 37, 38] (by decide +kernel) (by decide +kernel)
set_option maxRecDepth 20000 in
theorem gX6_requirePlacing_X0_hasPlacing : GoodIn wsX6_requirePlacing (wsV RX6 272 RX0 yX0_hasPlacing wsX0_hasPlacing) := goodIn_app (goodIn_of _ (by decide +kernel)) ggX6_requirePlacing_X0_hasPlacing
theorem dX6_requirePlacing_0 : decode cX6_requirePlacing 0 = .ok (.aload_n 0, 1) := by decide +kernel
theorem dX6_requirePlacing_1 : decode cX6_requirePlacing 1 = .ok (.iload_n 1, 1) := by decide +kernel
theorem dX6_requirePlacing_2 : decode cX6_requirePlacing 2 = .ok (.invokevirtual 126, 3) := by decide +kernel
theorem dX6_requirePlacing_5 : decode cX6_requirePlacing 5 = .ok (.aload_n 0, 1) := by decide +kernel
theorem dX6_requirePlacing_6 : decode cX6_requirePlacing 6 = .ok (.getfield 12, 3) := by decide +kernel
theorem dX6_requirePlacing_9 : decode cX6_requirePlacing 9 = .ok (.iload_n 2, 1) := by decide +kernel
theorem dX6_requirePlacing_10 : decode cX6_requirePlacing 10 = .ok (.invokevirtual 272, 3) := by decide +kernel
theorem dX6_requirePlacing_13 : decode cX6_requirePlacing 13 = .ok (.ifCond .ne 13, 3) := by decide +kernel
theorem dX6_requirePlacing_16 : decode cX6_requirePlacing 16 = .ok (.new 212, 3) := by decide +kernel
theorem dX6_requirePlacing_19 : decode cX6_requirePlacing 19 = .ok (.dup, 1) := by decide +kernel
theorem dX6_requirePlacing_20 : decode cX6_requirePlacing 20 = .ok (.ldc 221, 2) := by decide +kernel
theorem dX6_requirePlacing_22 : decode cX6_requirePlacing 22 = .ok (.invokespecial 216, 3) := by decide +kernel
theorem dX6_requirePlacing_25 : decode cX6_requirePlacing 25 = .ok (.athrow, 1) := by decide +kernel
theorem dX6_requirePlacing_26 : decode cX6_requirePlacing 26 = .ok (.return_, 1) := by decide +kernel
set_option maxRecDepth 20000 in
theorem ggX6_reason_X0_isEmpty : GoodIn wsX6_reason wsX0_isEmpty := goodIn_r _ [8, 9, 67, 68, 69, 70, 71, 72, 73, 74] (by decide +kernel) (by decide +kernel)
set_option maxRecDepth 20000 in
theorem gX6_reason_X0_isEmpty : GoodIn wsX6_reason (wsV RX6 130 RX0 yX0_isEmpty wsX0_isEmpty) := goodIn_app (goodIn_of _ (by decide +kernel)) ggX6_reason_X0_isEmpty
set_option maxRecDepth 20000 in
theorem ggX6_reason_X0_isLaid : GoodIn wsX6_reason wsX0_isLaid := goodIn_r _ [13, 14, 67, 68, 69, 70, 71, 72, 73, 74] (by decide +kernel) (by decide +kernel)
set_option maxRecDepth 20000 in
theorem gX6_reason_X0_isLaid : GoodIn wsX6_reason (wsV RX6 84 RX0 yX0_isLaid wsX0_isLaid) := goodIn_app (goodIn_of _ (by decide +kernel)) ggX6_reason_X0_isLaid
set_option maxRecDepth 20000 in
theorem ggX6_reason_X3_read : GoodIn wsX6_reason wsX3_read := goodIn_r _ [19, 20, 21, 22, 23, 24, 25, 26, 18, 27, 28, 29, 30, 31, 7, 32, 33, 34, 35, 36, 37, 38, 39, 5, 6, 8, 9, 40, 41, 42, 43, 44, 45, 46, 47, 48, 49, 50, 51, 52, 53, 54, 55, 75, 76, 77, 78, 67, 68, 69, 70, 71, 72, 73, 74] (by decide +kernel) (by decide +kernel)
set_option maxRecDepth 20000 in
theorem gX6_reason_X3_read : GoodIn wsX6_reason (wsV RX6 275 RX3 yX3_read wsX3_read) := goodIn_app (goodIn_of _ (by decide +kernel)) ggX6_reason_X3_read
set_option maxRecDepth 20000 in
theorem ggX6_reason_X3_reasonAgainst : GoodIn wsX6_reason wsX3_reasonAgainst := goodIn_r _ [59, 20, 22, 21, 60, 23, 75, 76, 77, 78] (by decide +kernel) (by decide +kernel)
set_option maxRecDepth 20000 in
theorem gX6_reason_X3_reasonAgainst : GoodIn wsX6_reason (wsV RX6 281 RX3 yX3_reasonAgainst wsX3_reasonAgainst) := goodIn_app (goodIn_of _ (by decide +kernel)) ggX6_reason_X3_reasonAgainst
theorem dX6_reason_0 : decode cX6_reason 0 = .ok (.aload_n 0, 1) := by decide +kernel
theorem dX6_reason_1 : decode cX6_reason 1 = .ok (.getfield 12, 3) := by decide +kernel
theorem dX6_reason_4 : decode cX6_reason 4 = .ok (.iload_n 1, 1) := by decide +kernel
theorem dX6_reason_5 : decode cX6_reason 5 = .ok (.invokevirtual 130, 3) := by decide +kernel
theorem dX6_reason_8 : decode cX6_reason 8 = .ok (.ifCond .ne 5, 3) := by decide +kernel
theorem dX6_reason_11 : decode cX6_reason 11 = .ok (.iconst 1, 1) := by decide +kernel
theorem dX6_reason_12 : decode cX6_reason 12 = .ok (.ireturn, 1) := by decide +kernel
theorem dX6_reason_13 : decode cX6_reason 13 = .ok (.aload_n 0, 1) := by decide +kernel
theorem dX6_reason_14 : decode cX6_reason 14 = .ok (.getfield 12, 3) := by decide +kernel
theorem dX6_reason_17 : decode cX6_reason 17 = .ok (.iload_n 2, 1) := by decide +kernel
theorem dX6_reason_18 : decode cX6_reason 18 = .ok (.bipush 8, 2) := by decide +kernel
theorem dX6_reason_20 : decode cX6_reason 20 = .ok (.idiv, 1) := by decide +kernel
theorem dX6_reason_21 : decode cX6_reason 21 = .ok (.invokevirtual 84, 3) := by decide +kernel
theorem dX6_reason_24 : decode cX6_reason 24 = .ok (.ifCond .eq 5, 3) := by decide +kernel
theorem dX6_reason_27 : decode cX6_reason 27 = .ok (.iconst 2, 1) := by decide +kernel
theorem dX6_reason_28 : decode cX6_reason 28 = .ok (.ireturn, 1) := by decide +kernel
theorem dX6_reason_29 : decode cX6_reason 29 = .ok (.aload_n 0, 1) := by decide +kernel
theorem dX6_reason_30 : decode cX6_reason 30 = .ok (.getfield 33, 3) := by decide +kernel
theorem dX6_reason_33 : decode cX6_reason 33 = .ok (.aload_n 0, 1) := by decide +kernel
theorem dX6_reason_34 : decode cX6_reason 34 = .ok (.getfield 12, 3) := by decide +kernel
theorem dX6_reason_37 : decode cX6_reason 37 = .ok (.iload_n 1, 1) := by decide +kernel
theorem dX6_reason_38 : decode cX6_reason 38 = .ok (.invokevirtual 275, 3) := by decide +kernel
theorem dX6_reason_41 : decode cX6_reason 41 = .ok (.aload_n 0, 1) := by decide +kernel
theorem dX6_reason_42 : decode cX6_reason 42 = .ok (.getfield 33, 3) := by decide +kernel
theorem dX6_reason_45 : decode cX6_reason 45 = .ok (.aload_n 0, 1) := by decide +kernel
theorem dX6_reason_46 : decode cX6_reason 46 = .ok (.getfield 12, 3) := by decide +kernel
theorem dX6_reason_49 : decode cX6_reason 49 = .ok (.getfield 278, 3) := by decide +kernel
theorem dX6_reason_52 : decode cX6_reason 52 = .ok (.iload_n 2, 1) := by decide +kernel
theorem dX6_reason_53 : decode cX6_reason 53 = .ok (.iaload, 1) := by decide +kernel
theorem dX6_reason_54 : decode cX6_reason 54 = .ok (.invokevirtual 281, 3) := by decide +kernel
theorem dX6_reason_57 : decode cX6_reason 57 = .ok (.ireturn, 1) := by decide +kernel
set_option maxRecDepth 20000 in
theorem ggX6_cellProperty_X0_isFixed : GoodIn wsX6_cellProperty wsX0_isFixed := goodIn_r _ [7, 8, 86, 87, 88, 89, 90, 91, 92, 93] (by decide +kernel) (by decide +kernel)
set_option maxRecDepth 20000 in
theorem gX6_cellProperty_X0_isFixed : GoodIn wsX6_cellProperty (wsV RX6 133 RX0 yX0_isFixed wsX0_isFixed) := goodIn_app (goodIn_of _ (by decide +kernel)) ggX6_cellProperty_X0_isFixed
set_option maxRecDepth 20000 in
theorem ggX6_cellProperty_X6_possibleCount : GoodIn wsX6_cellProperty wsX6_possibleCount := goodIn_r _ [13, 1, 14, 15, 16, 17, 18, 6, 19, 20, 21, 22, 23, 24, 25, 26, 27, 28, 29, 30, 31, 32, 33, 34, 35, 36, 37, 38, 39, 40, 41, 42, 43, 44, 45, 46, 47, 48, 49, 50, 51, 12, 52, 53, 54, 55, 56, 57, 58, 59, 60, 61, 62, 63, 64, 65, 66, 67, 68, 69, 70, 71, 72, 73, 74, 75, 80, 81, 82, 83, 84, 85, 86, 87, 88, 89, 90, 91, 92, 93, 94, 95, 96, 97] (by decide +kernel) (by decide +kernel)
set_option maxRecDepth 20000 in
theorem gX6_cellProperty_X6_possibleCount : GoodIn wsX6_cellProperty (wsV RX6 284 RX6 yX6_possibleCount wsX6_possibleCount) := goodIn_app (goodIn_of _ (by decide +kernel)) ggX6_cellProperty_X6_possibleCount
set_option maxRecDepth 20000 in
theorem ggX6_cellProperty_X6_firstPossible : GoodIn wsX6_cellProperty wsX6_firstPossible := goodIn_r _ [79, 1, 14, 15, 16, 17, 18, 6, 19, 20, 21, 22, 23, 24, 25, 26, 27, 28, 29, 30, 31, 32, 33, 34, 35, 36, 37, 38, 39, 40, 41, 42, 43, 44, 45, 46, 47, 48, 49, 50, 51, 12, 52, 53, 54, 55, 56, 57, 58, 59, 60, 61, 62, 63, 64, 65, 66, 67, 68, 69, 70, 71, 72, 73, 74, 75, 80, 81, 82, 83, 84, 85, 86, 87, 88, 89, 90, 91, 92, 93, 94, 95, 96, 97] (by decide +kernel) (by decide +kernel)
set_option maxRecDepth 20000 in
theorem gX6_cellProperty_X6_firstPossible : GoodIn wsX6_cellProperty (wsV RX6 287 RX6 yX6_firstPossible wsX6_firstPossible) := goodIn_app (goodIn_of _ (by decide +kernel)) ggX6_cellProperty_X6_firstPossible
theorem dX6_cellProperty_0 : decode cX6_cellProperty 0 = .ok (.iload_n 2, 1) := by decide +kernel
theorem dX6_cellProperty_1 : decode cX6_cellProperty 1 = .ok (.tableswitch 60 0 2 #[27, 37, 54], 27) := by decide +kernel
theorem dX6_cellProperty_28 : decode cX6_cellProperty 28 = .ok (.aload_n 0, 1) := by decide +kernel
theorem dX6_cellProperty_29 : decode cX6_cellProperty 29 = .ok (.getfield 12, 3) := by decide +kernel
theorem dX6_cellProperty_32 : decode cX6_cellProperty 32 = .ok (.getfield 138, 3) := by decide +kernel
theorem dX6_cellProperty_35 : decode cX6_cellProperty 35 = .ok (.iload_n 1, 1) := by decide +kernel
theorem dX6_cellProperty_36 : decode cX6_cellProperty 36 = .ok (.iaload, 1) := by decide +kernel
theorem dX6_cellProperty_37 : decode cX6_cellProperty 37 = .ok (.ireturn, 1) := by decide +kernel
theorem dX6_cellProperty_38 : decode cX6_cellProperty 38 = .ok (.aload_n 0, 1) := by decide +kernel
theorem dX6_cellProperty_39 : decode cX6_cellProperty 39 = .ok (.getfield 12, 3) := by decide +kernel
theorem dX6_cellProperty_42 : decode cX6_cellProperty 42 = .ok (.iload_n 1, 1) := by decide +kernel
theorem dX6_cellProperty_43 : decode cX6_cellProperty 43 = .ok (.invokevirtual 133, 3) := by decide +kernel
theorem dX6_cellProperty_46 : decode cX6_cellProperty 46 = .ok (.ifCond .eq 7, 3) := by decide +kernel
theorem dX6_cellProperty_49 : decode cX6_cellProperty 49 = .ok (.iconst 1, 1) := by decide +kernel
theorem dX6_cellProperty_50 : decode cX6_cellProperty 50 = .ok (.goto 4, 3) := by decide +kernel
theorem dX6_cellProperty_53 : decode cX6_cellProperty 53 = .ok (.iconst 0, 1) := by decide +kernel
theorem dX6_cellProperty_54 : decode cX6_cellProperty 54 = .ok (.ireturn, 1) := by decide +kernel
theorem dX6_cellProperty_55 : decode cX6_cellProperty 55 = .ok (.aload_n 0, 1) := by decide +kernel
theorem dX6_cellProperty_56 : decode cX6_cellProperty 56 = .ok (.iload_n 1, 1) := by decide +kernel
theorem dX6_cellProperty_57 : decode cX6_cellProperty 57 = .ok (.invokevirtual 284, 3) := by decide +kernel
theorem dX6_cellProperty_60 : decode cX6_cellProperty 60 = .ok (.ireturn, 1) := by decide +kernel
theorem dX6_cellProperty_61 : decode cX6_cellProperty 61 = .ok (.aload_n 0, 1) := by decide +kernel
theorem dX6_cellProperty_62 : decode cX6_cellProperty 62 = .ok (.iload_n 1, 1) := by decide +kernel
theorem dX6_cellProperty_63 : decode cX6_cellProperty 63 = .ok (.invokevirtual 287, 3) := by decide +kernel
theorem dX6_cellProperty_66 : decode cX6_cellProperty 66 = .ok (.ireturn, 1) := by decide +kernel
set_option maxRecDepth 20000 in
theorem ggX6_possibleCount_X0_isEmpty : GoodIn wsX6_possibleCount wsX0_isEmpty := goodIn_r _ [8, 9, 72, 73, 74, 75, 76, 77, 78, 79] (by decide +kernel) (by decide +kernel)
set_option maxRecDepth 20000 in
theorem gX6_possibleCount_X0_isEmpty : GoodIn wsX6_possibleCount (wsV RX6 130 RX0 yX0_isEmpty wsX0_isEmpty) := goodIn_app (goodIn_of _ (by decide +kernel)) ggX6_possibleCount_X0_isEmpty
set_option maxRecDepth 20000 in
theorem ggX6_possibleCount_X3_read : GoodIn wsX6_possibleCount wsX3_read := goodIn_r _ [14, 15, 16, 17, 18, 19, 20, 21, 13, 22, 23, 24, 25, 26, 7, 27, 28, 29, 30, 31, 32, 33, 34, 5, 6, 8, 9, 35, 36, 37, 38, 39, 40, 41, 42, 43, 44, 45, 46, 47, 48, 49, 50, 80, 81, 82, 83, 72, 73, 74, 75, 76, 77, 78, 79] (by decide +kernel) (by decide +kernel)
set_option maxRecDepth 20000 in
theorem gX6_possibleCount_X3_read : GoodIn wsX6_possibleCount (wsV RX6 275 RX3 yX3_read wsX3_read) := goodIn_app (goodIn_of _ (by decide +kernel)) ggX6_possibleCount_X3_read
set_option maxRecDepth 20000 in
theorem ggX6_possibleCount_X6_meetsNeeds : GoodIn wsX6_possibleCount wsX6_meetsNeeds := goodIn_r _ [54, 1, 2, 55, 56, 57, 58, 7, 59, 60, 61, 62, 63, 13, 64, 15, 17, 16, 65, 18, 66, 67, 68, 69, 70, 71, 72, 73, 74, 75, 76, 77, 78, 79, 80, 81, 82, 83] (by decide +kernel) (by decide +kernel)
set_option maxRecDepth 20000 in
theorem gX6_possibleCount_X6_meetsNeeds : GoodIn wsX6_possibleCount (wsV RX6 290 RX6 yX6_meetsNeeds wsX6_meetsNeeds) := goodIn_app (goodIn_of _ (by decide +kernel)) ggX6_possibleCount_X6_meetsNeeds
theorem dX6_possibleCount_0 : decode cX6_possibleCount 0 = .ok (.aload_n 0, 1) := by decide +kernel
theorem dX6_possibleCount_1 : decode cX6_possibleCount 1 = .ok (.getfield 12, 3) := by decide +kernel
theorem dX6_possibleCount_4 : decode cX6_possibleCount 4 = .ok (.iload_n 1, 1) := by decide +kernel
theorem dX6_possibleCount_5 : decode cX6_possibleCount 5 = .ok (.invokevirtual 130, 3) := by decide +kernel
theorem dX6_possibleCount_8 : decode cX6_possibleCount 8 = .ok (.ifCond .ne 5, 3) := by decide +kernel
theorem dX6_possibleCount_11 : decode cX6_possibleCount 11 = .ok (.iconst 0, 1) := by decide +kernel
theorem dX6_possibleCount_12 : decode cX6_possibleCount 12 = .ok (.ireturn, 1) := by decide +kernel
theorem dX6_possibleCount_13 : decode cX6_possibleCount 13 = .ok (.aload_n 0, 1) := by decide +kernel
theorem dX6_possibleCount_14 : decode cX6_possibleCount 14 = .ok (.getfield 33, 3) := by decide +kernel
theorem dX6_possibleCount_17 : decode cX6_possibleCount 17 = .ok (.aload_n 0, 1) := by decide +kernel
theorem dX6_possibleCount_18 : decode cX6_possibleCount 18 = .ok (.getfield 12, 3) := by decide +kernel
theorem dX6_possibleCount_21 : decode cX6_possibleCount 21 = .ok (.iload_n 1, 1) := by decide +kernel
theorem dX6_possibleCount_22 : decode cX6_possibleCount 22 = .ok (.invokevirtual 275, 3) := by decide +kernel
theorem dX6_possibleCount_25 : decode cX6_possibleCount 25 = .ok (.iconst 0, 1) := by decide +kernel
theorem dX6_possibleCount_26 : decode cX6_possibleCount 26 = .ok (.istore_n 2, 1) := by decide +kernel
theorem dX6_possibleCount_27 : decode cX6_possibleCount 27 = .ok (.iconst 0, 1) := by decide +kernel
theorem dX6_possibleCount_28 : decode cX6_possibleCount 28 = .ok (.istore_n 3, 1) := by decide +kernel
theorem dX6_possibleCount_29 : decode cX6_possibleCount 29 = .ok (.iload_n 3, 1) := by decide +kernel
theorem dX6_possibleCount_30 : decode cX6_possibleCount 30 = .ok (.bipush 8, 2) := by decide +kernel
theorem dX6_possibleCount_32 : decode cX6_possibleCount 32 = .ok (.aload_n 0, 1) := by decide +kernel
theorem dX6_possibleCount_33 : decode cX6_possibleCount 33 = .ok (.getfield 12, 3) := by decide +kernel
theorem dX6_possibleCount_36 : decode cX6_possibleCount 36 = .ok (.getfield 72, 3) := by decide +kernel
theorem dX6_possibleCount_39 : decode cX6_possibleCount 39 = .ok (.imul, 1) := by decide +kernel
theorem dX6_possibleCount_40 : decode cX6_possibleCount 40 = .ok (.if_icmp .ge 20, 3) := by decide +kernel
theorem dX6_possibleCount_43 : decode cX6_possibleCount 43 = .ok (.aload_n 0, 1) := by decide +kernel
theorem dX6_possibleCount_44 : decode cX6_possibleCount 44 = .ok (.iload_n 3, 1) := by decide +kernel
theorem dX6_possibleCount_45 : decode cX6_possibleCount 45 = .ok (.invokevirtual 290, 3) := by decide +kernel
theorem dX6_possibleCount_48 : decode cX6_possibleCount 48 = .ok (.ifCond .eq 6, 3) := by decide +kernel
theorem dX6_possibleCount_51 : decode cX6_possibleCount 51 = .ok (.iinc 2 1, 3) := by decide +kernel
theorem dX6_possibleCount_54 : decode cX6_possibleCount 54 = .ok (.iinc 3 1, 3) := by decide +kernel
theorem dX6_possibleCount_57 : decode cX6_possibleCount 57 = .ok (.goto (-28), 3) := by decide +kernel
theorem dX6_possibleCount_60 : decode cX6_possibleCount 60 = .ok (.iload_n 2, 1) := by decide +kernel
theorem dX6_possibleCount_61 : decode cX6_possibleCount 61 = .ok (.ireturn, 1) := by decide +kernel
set_option maxRecDepth 20000 in
theorem ggX6_firstPossible_X0_isEmpty : GoodIn wsX6_firstPossible wsX0_isEmpty := goodIn_r _ [8, 9, 72, 73, 74, 75, 76, 77, 78, 79] (by decide +kernel) (by decide +kernel)
set_option maxRecDepth 20000 in
theorem gX6_firstPossible_X0_isEmpty : GoodIn wsX6_firstPossible (wsV RX6 130 RX0 yX0_isEmpty wsX0_isEmpty) := goodIn_app (goodIn_of _ (by decide +kernel)) ggX6_firstPossible_X0_isEmpty
set_option maxRecDepth 20000 in
theorem ggX6_firstPossible_X3_read : GoodIn wsX6_firstPossible wsX3_read := goodIn_r _ [14, 15, 16, 17, 18, 19, 20, 21, 13, 22, 23, 24, 25, 26, 7, 27, 28, 29, 30, 31, 32, 33, 34, 5, 6, 8, 9, 35, 36, 37, 38, 39, 40, 41, 42, 43, 44, 45, 46, 47, 48, 49, 50, 80, 81, 82, 83, 72, 73, 74, 75, 76, 77, 78, 79] (by decide +kernel) (by decide +kernel)
set_option maxRecDepth 20000 in
theorem gX6_firstPossible_X3_read : GoodIn wsX6_firstPossible (wsV RX6 275 RX3 yX3_read wsX3_read) := goodIn_app (goodIn_of _ (by decide +kernel)) ggX6_firstPossible_X3_read
set_option maxRecDepth 20000 in
theorem ggX6_firstPossible_X6_meetsNeeds : GoodIn wsX6_firstPossible wsX6_meetsNeeds := goodIn_r _ [54, 1, 2, 55, 56, 57, 58, 7, 59, 60, 61, 62, 63, 13, 64, 15, 17, 16, 65, 18, 66, 67, 68, 69, 70, 71, 72, 73, 74, 75, 76, 77, 78, 79, 80, 81, 82, 83] (by decide +kernel) (by decide +kernel)
set_option maxRecDepth 20000 in
theorem gX6_firstPossible_X6_meetsNeeds : GoodIn wsX6_firstPossible (wsV RX6 290 RX6 yX6_meetsNeeds wsX6_meetsNeeds) := goodIn_app (goodIn_of _ (by decide +kernel)) ggX6_firstPossible_X6_meetsNeeds
theorem dX6_firstPossible_0 : decode cX6_firstPossible 0 = .ok (.aload_n 0, 1) := by decide +kernel
theorem dX6_firstPossible_1 : decode cX6_firstPossible 1 = .ok (.getfield 12, 3) := by decide +kernel
theorem dX6_firstPossible_4 : decode cX6_firstPossible 4 = .ok (.iload_n 1, 1) := by decide +kernel
theorem dX6_firstPossible_5 : decode cX6_firstPossible 5 = .ok (.invokevirtual 130, 3) := by decide +kernel
theorem dX6_firstPossible_8 : decode cX6_firstPossible 8 = .ok (.ifCond .ne 5, 3) := by decide +kernel
theorem dX6_firstPossible_11 : decode cX6_firstPossible 11 = .ok (.iconst (-1), 1) := by decide +kernel
theorem dX6_firstPossible_12 : decode cX6_firstPossible 12 = .ok (.ireturn, 1) := by decide +kernel
theorem dX6_firstPossible_13 : decode cX6_firstPossible 13 = .ok (.aload_n 0, 1) := by decide +kernel
theorem dX6_firstPossible_14 : decode cX6_firstPossible 14 = .ok (.getfield 33, 3) := by decide +kernel
theorem dX6_firstPossible_17 : decode cX6_firstPossible 17 = .ok (.aload_n 0, 1) := by decide +kernel
theorem dX6_firstPossible_18 : decode cX6_firstPossible 18 = .ok (.getfield 12, 3) := by decide +kernel
theorem dX6_firstPossible_21 : decode cX6_firstPossible 21 = .ok (.iload_n 1, 1) := by decide +kernel
theorem dX6_firstPossible_22 : decode cX6_firstPossible 22 = .ok (.invokevirtual 275, 3) := by decide +kernel
theorem dX6_firstPossible_25 : decode cX6_firstPossible 25 = .ok (.iconst 0, 1) := by decide +kernel
theorem dX6_firstPossible_26 : decode cX6_firstPossible 26 = .ok (.istore_n 2, 1) := by decide +kernel
theorem dX6_firstPossible_27 : decode cX6_firstPossible 27 = .ok (.iload_n 2, 1) := by decide +kernel
theorem dX6_firstPossible_28 : decode cX6_firstPossible 28 = .ok (.bipush 8, 2) := by decide +kernel
theorem dX6_firstPossible_30 : decode cX6_firstPossible 30 = .ok (.aload_n 0, 1) := by decide +kernel
theorem dX6_firstPossible_31 : decode cX6_firstPossible 31 = .ok (.getfield 12, 3) := by decide +kernel
theorem dX6_firstPossible_34 : decode cX6_firstPossible 34 = .ok (.getfield 72, 3) := by decide +kernel
theorem dX6_firstPossible_37 : decode cX6_firstPossible 37 = .ok (.imul, 1) := by decide +kernel
theorem dX6_firstPossible_38 : decode cX6_firstPossible 38 = .ok (.if_icmp .ge 19, 3) := by decide +kernel
theorem dX6_firstPossible_41 : decode cX6_firstPossible 41 = .ok (.aload_n 0, 1) := by decide +kernel
theorem dX6_firstPossible_42 : decode cX6_firstPossible 42 = .ok (.iload_n 2, 1) := by decide +kernel
theorem dX6_firstPossible_43 : decode cX6_firstPossible 43 = .ok (.invokevirtual 290, 3) := by decide +kernel
theorem dX6_firstPossible_46 : decode cX6_firstPossible 46 = .ok (.ifCond .eq 5, 3) := by decide +kernel
theorem dX6_firstPossible_49 : decode cX6_firstPossible 49 = .ok (.iload_n 2, 1) := by decide +kernel
theorem dX6_firstPossible_50 : decode cX6_firstPossible 50 = .ok (.ireturn, 1) := by decide +kernel
theorem dX6_firstPossible_51 : decode cX6_firstPossible 51 = .ok (.iinc 2 1, 3) := by decide +kernel
theorem dX6_firstPossible_54 : decode cX6_firstPossible 54 = .ok (.goto (-27), 3) := by decide +kernel
theorem dX6_firstPossible_57 : decode cX6_firstPossible 57 = .ok (.iconst (-1), 1) := by decide +kernel
theorem dX6_firstPossible_58 : decode cX6_firstPossible 58 = .ok (.ireturn, 1) := by decide +kernel
set_option maxRecDepth 20000 in
theorem ggX6_meetsNeeds_X0_isLaid : GoodIn wsX6_meetsNeeds wsX0_isLaid := goodIn_r _ [8, 9, 26, 27, 28, 29, 30, 31, 32, 33] (by decide +kernel) (by decide +kernel)
set_option maxRecDepth 20000 in
theorem gX6_meetsNeeds_X0_isLaid : GoodIn wsX6_meetsNeeds (wsV RX6 84 RX0 yX0_isLaid wsX0_isLaid) := goodIn_app (goodIn_of _ (by decide +kernel)) ggX6_meetsNeeds_X0_isLaid
set_option maxRecDepth 20000 in
theorem ggX6_meetsNeeds_X3_reasonAgainst : GoodIn wsX6_meetsNeeds wsX3_reasonAgainst := goodIn_r _ [14, 15, 16, 17, 18, 19, 34, 35, 36, 37] (by decide +kernel) (by decide +kernel)
set_option maxRecDepth 20000 in
theorem gX6_meetsNeeds_X3_reasonAgainst : GoodIn wsX6_meetsNeeds (wsV RX6 281 RX3 yX3_reasonAgainst wsX3_reasonAgainst) := goodIn_app (goodIn_of _ (by decide +kernel)) ggX6_meetsNeeds_X3_reasonAgainst
theorem dX6_meetsNeeds_0 : decode cX6_meetsNeeds 0 = .ok (.aload_n 0, 1) := by decide +kernel
theorem dX6_meetsNeeds_1 : decode cX6_meetsNeeds 1 = .ok (.getfield 12, 3) := by decide +kernel
theorem dX6_meetsNeeds_4 : decode cX6_meetsNeeds 4 = .ok (.iload_n 1, 1) := by decide +kernel
theorem dX6_meetsNeeds_5 : decode cX6_meetsNeeds 5 = .ok (.bipush 8, 2) := by decide +kernel
theorem dX6_meetsNeeds_7 : decode cX6_meetsNeeds 7 = .ok (.idiv, 1) := by decide +kernel
theorem dX6_meetsNeeds_8 : decode cX6_meetsNeeds 8 = .ok (.invokevirtual 84, 3) := by decide +kernel
theorem dX6_meetsNeeds_11 : decode cX6_meetsNeeds 11 = .ok (.ifCond .ne 26, 3) := by decide +kernel
theorem dX6_meetsNeeds_14 : decode cX6_meetsNeeds 14 = .ok (.aload_n 0, 1) := by decide +kernel
theorem dX6_meetsNeeds_15 : decode cX6_meetsNeeds 15 = .ok (.getfield 33, 3) := by decide +kernel
theorem dX6_meetsNeeds_18 : decode cX6_meetsNeeds 18 = .ok (.aload_n 0, 1) := by decide +kernel
theorem dX6_meetsNeeds_19 : decode cX6_meetsNeeds 19 = .ok (.getfield 12, 3) := by decide +kernel
theorem dX6_meetsNeeds_22 : decode cX6_meetsNeeds 22 = .ok (.getfield 278, 3) := by decide +kernel
theorem dX6_meetsNeeds_25 : decode cX6_meetsNeeds 25 = .ok (.iload_n 1, 1) := by decide +kernel
theorem dX6_meetsNeeds_26 : decode cX6_meetsNeeds 26 = .ok (.iaload, 1) := by decide +kernel
theorem dX6_meetsNeeds_27 : decode cX6_meetsNeeds 27 = .ok (.invokevirtual 281, 3) := by decide +kernel
theorem dX6_meetsNeeds_30 : decode cX6_meetsNeeds 30 = .ok (.ifCond .ne 7, 3) := by decide +kernel
theorem dX6_meetsNeeds_33 : decode cX6_meetsNeeds 33 = .ok (.iconst 1, 1) := by decide +kernel
theorem dX6_meetsNeeds_34 : decode cX6_meetsNeeds 34 = .ok (.goto 4, 3) := by decide +kernel
theorem dX6_meetsNeeds_37 : decode cX6_meetsNeeds 37 = .ok (.iconst 0, 1) := by decide +kernel
theorem dX6_meetsNeeds_38 : decode cX6_meetsNeeds 38 = .ok (.ireturn, 1) := by decide +kernel
set_option maxRecDepth 20000 in
theorem ggX6_colorAt_X0_isEmpty : GoodIn wsX6_colorAt wsX0_isEmpty := goodIn_r _ [6, 7, 24, 25, 26, 27, 28, 29, 30, 31] (by decide +kernel) (by decide +kernel)
set_option maxRecDepth 20000 in
theorem gX6_colorAt_X0_isEmpty : GoodIn wsX6_colorAt (wsV RX6 130 RX0 yX0_isEmpty wsX0_isEmpty) := goodIn_app (goodIn_of _ (by decide +kernel)) ggX6_colorAt_X0_isEmpty
set_option maxRecDepth 20000 in
theorem ggX6_colorAt_X0_lookIn : GoodIn wsX6_colorAt wsX0_lookIn := goodIn_r _ [11, 12, 7, 24, 25, 26, 27, 28, 29, 30, 31] (by decide +kernel) (by decide +kernel)
set_option maxRecDepth 20000 in
theorem gX6_colorAt_X0_lookIn : GoodIn wsX6_colorAt (wsV RX6 293 RX0 yX0_lookIn wsX0_lookIn) := goodIn_app (goodIn_of _ (by decide +kernel)) ggX6_colorAt_X0_lookIn
set_option maxRecDepth 20000 in
theorem ggX6_colorAt_X6_colorsAt : GoodIn wsX6_colorAt wsX6_colorsAt := goodIn_r _ [16, 17] (by decide +kernel) (by decide +kernel)
set_option maxRecDepth 20000 in
theorem gX6_colorAt_X6_colorsAt : GoodIn wsX6_colorAt (va_wsS RX6 296 yX6_colorsAt wsX6_colorsAt) := goodIn_app (goodIn_of _ (by decide +kernel)) ggX6_colorAt_X6_colorsAt
theorem dX6_colorAt_0 : decode cX6_colorAt 0 = .ok (.aload_n 0, 1) := by decide +kernel
theorem dX6_colorAt_1 : decode cX6_colorAt 1 = .ok (.getfield 12, 3) := by decide +kernel
theorem dX6_colorAt_4 : decode cX6_colorAt 4 = .ok (.iload_n 1, 1) := by decide +kernel
theorem dX6_colorAt_5 : decode cX6_colorAt 5 = .ok (.invokevirtual 130, 3) := by decide +kernel
theorem dX6_colorAt_8 : decode cX6_colorAt 8 = .ok (.ifCond .eq 5, 3) := by decide +kernel
theorem dX6_colorAt_11 : decode cX6_colorAt 11 = .ok (.iconst (-1), 1) := by decide +kernel
theorem dX6_colorAt_12 : decode cX6_colorAt 12 = .ok (.ireturn, 1) := by decide +kernel
theorem dX6_colorAt_13 : decode cX6_colorAt 13 = .ok (.aload_n 0, 1) := by decide +kernel
theorem dX6_colorAt_14 : decode cX6_colorAt 14 = .ok (.getfield 12, 3) := by decide +kernel
theorem dX6_colorAt_17 : decode cX6_colorAt 17 = .ok (.iload_n 1, 1) := by decide +kernel
theorem dX6_colorAt_18 : decode cX6_colorAt 18 = .ok (.invokevirtual 293, 3) := by decide +kernel
theorem dX6_colorAt_21 : decode cX6_colorAt 21 = .ok (.iload_n 2, 1) := by decide +kernel
theorem dX6_colorAt_22 : decode cX6_colorAt 22 = .ok (.invokestatic 296, 3) := by decide +kernel
theorem dX6_colorAt_25 : decode cX6_colorAt 25 = .ok (.istore 4, 2) := by decide +kernel
theorem dX6_colorAt_27 : decode cX6_colorAt 27 = .ok (.iload_n 3, 1) := by decide +kernel
theorem dX6_colorAt_28 : decode cX6_colorAt 28 = .ok (.ifCond .eq 11, 3) := by decide +kernel
theorem dX6_colorAt_31 : decode cX6_colorAt 31 = .ok (.iload 4, 2) := by decide +kernel
theorem dX6_colorAt_33 : decode cX6_colorAt 33 = .ok (.bipush 16, 2) := by decide +kernel
theorem dX6_colorAt_35 : decode cX6_colorAt 35 = .ok (.iushr, 1) := by decide +kernel
theorem dX6_colorAt_36 : decode cX6_colorAt 36 = .ok (.goto 8, 3) := by decide +kernel
theorem dX6_colorAt_39 : decode cX6_colorAt 39 = .ok (.iload 4, 2) := by decide +kernel
theorem dX6_colorAt_41 : decode cX6_colorAt 41 = .ok (.bipush 15, 2) := by decide +kernel
theorem dX6_colorAt_43 : decode cX6_colorAt 43 = .ok (.iand, 1) := by decide +kernel
theorem dX6_colorAt_44 : decode cX6_colorAt 44 = .ok (.ireturn, 1) := by decide +kernel
set_option maxRecDepth 20000 in
theorem ggX6_tileProperty_X0_faceOf : GoodIn wsX6_tileProperty wsX0_faceOf := goodIn_r _ [7, 8, 9, 10, 11, 12, 23, 24, 25, 26, 27, 28, 29, 30] (by decide +kernel) (by decide +kernel)
set_option maxRecDepth 20000 in
theorem gX6_tileProperty_X0_faceOf : GoodIn wsX6_tileProperty (wsV RX6 299 RX0 yX0_faceOf wsX0_faceOf) := goodIn_app (goodIn_of _ (by decide +kernel)) ggX6_tileProperty_X0_faceOf
set_option maxRecDepth 20000 in
theorem ggX6_tileProperty_X0_lowestLike : GoodIn wsX6_tileProperty wsX0_lowestLike := goodIn_r _ [16, 8, 23, 24, 25, 26, 27, 28, 29, 30] (by decide +kernel) (by decide +kernel)
set_option maxRecDepth 20000 in
theorem gX6_tileProperty_X0_lowestLike : GoodIn wsX6_tileProperty (wsV RX6 305 RX0 yX0_lowestLike wsX0_lowestLike) := goodIn_app (goodIn_of _ (by decide +kernel)) ggX6_tileProperty_X0_lowestLike
theorem dX6_tileProperty_0 : decode cX6_tileProperty 0 = .ok (.iload_n 2, 1) := by decide +kernel
theorem dX6_tileProperty_1 : decode cX6_tileProperty 1 = .ok (.tableswitch 57 0 2 #[27, 37, 47], 27) := by decide +kernel
theorem dX6_tileProperty_28 : decode cX6_tileProperty 28 = .ok (.aload_n 0, 1) := by decide +kernel
theorem dX6_tileProperty_29 : decode cX6_tileProperty 29 = .ok (.getfield 12, 3) := by decide +kernel
theorem dX6_tileProperty_32 : decode cX6_tileProperty 32 = .ok (.iload_n 1, 1) := by decide +kernel
theorem dX6_tileProperty_33 : decode cX6_tileProperty 33 = .ok (.iconst 0, 1) := by decide +kernel
theorem dX6_tileProperty_34 : decode cX6_tileProperty 34 = .ok (.invokevirtual 299, 3) := by decide +kernel
theorem dX6_tileProperty_37 : decode cX6_tileProperty 37 = .ok (.ireturn, 1) := by decide +kernel
theorem dX6_tileProperty_38 : decode cX6_tileProperty 38 = .ok (.aload_n 0, 1) := by decide +kernel
theorem dX6_tileProperty_39 : decode cX6_tileProperty 39 = .ok (.getfield 12, 3) := by decide +kernel
theorem dX6_tileProperty_42 : decode cX6_tileProperty 42 = .ok (.iload_n 1, 1) := by decide +kernel
theorem dX6_tileProperty_43 : decode cX6_tileProperty 43 = .ok (.iconst 1, 1) := by decide +kernel
theorem dX6_tileProperty_44 : decode cX6_tileProperty 44 = .ok (.invokevirtual 299, 3) := by decide +kernel
theorem dX6_tileProperty_47 : decode cX6_tileProperty 47 = .ok (.ireturn, 1) := by decide +kernel
theorem dX6_tileProperty_48 : decode cX6_tileProperty 48 = .ok (.aload_n 0, 1) := by decide +kernel
theorem dX6_tileProperty_49 : decode cX6_tileProperty 49 = .ok (.getfield 12, 3) := by decide +kernel
theorem dX6_tileProperty_52 : decode cX6_tileProperty 52 = .ok (.getfield 302, 3) := by decide +kernel
theorem dX6_tileProperty_55 : decode cX6_tileProperty 55 = .ok (.iload_n 1, 1) := by decide +kernel
theorem dX6_tileProperty_56 : decode cX6_tileProperty 56 = .ok (.iaload, 1) := by decide +kernel
theorem dX6_tileProperty_57 : decode cX6_tileProperty 57 = .ok (.ireturn, 1) := by decide +kernel
theorem dX6_tileProperty_58 : decode cX6_tileProperty 58 = .ok (.aload_n 0, 1) := by decide +kernel
theorem dX6_tileProperty_59 : decode cX6_tileProperty 59 = .ok (.getfield 12, 3) := by decide +kernel
theorem dX6_tileProperty_62 : decode cX6_tileProperty 62 = .ok (.iload_n 1, 1) := by decide +kernel
theorem dX6_tileProperty_63 : decode cX6_tileProperty 63 = .ok (.invokevirtual 305, 3) := by decide +kernel
theorem dX6_tileProperty_66 : decode cX6_tileProperty 66 = .ok (.ireturn, 1) := by decide +kernel
set_option maxRecDepth 20000 in
theorem ggX6_number_X0_emptyCells : GoodIn wsX6_number wsX0_emptyCells := goodIn_r _ [14, 15, 16, 17, 13, 18, 19, 20, 21, 22, 23, 24, 25, 97, 98, 99, 100, 101, 102, 103, 104] (by decide +kernel) (by decide +kernel)
set_option maxRecDepth 20000 in
theorem gX6_number_X0_emptyCells : GoodIn wsX6_number (wsV RX6 123 RX0 yX0_emptyCells wsX0_emptyCells) := goodIn_app (goodIn_of _ (by decide +kernel)) ggX6_number_X0_emptyCells
set_option maxRecDepth 20000 in
theorem ggX6_number_J6_bitCount_0f7a4 : GoodIn wsX6_number wsJ6_bitCount_0f7a4 := goodIn_r _ [29, 30, 31, 32] (by decide +kernel) (by decide +kernel)
set_option maxRecDepth 20000 in
theorem gX6_number_J6_bitCount_0f7a4 : GoodIn wsX6_number (va_wsS RX6 239 yJ6_bitCount_0f7a4 wsJ6_bitCount_0f7a4) := goodIn_app (goodIn_of _ (by decide +kernel)) ggX6_number_J6_bitCount_0f7a4
set_option maxRecDepth 20000 in
theorem ggX6_number_X0_pairsAlike : GoodIn wsX6_number wsX0_pairsAlike := goodIn_r _ [36, 15, 16, 17, 13, 18, 19, 20, 37, 38, 39, 40, 41, 42, 43, 44, 21, 22, 23, 24, 25, 45, 46, 47, 48, 49, 50, 51, 52, 53, 54, 55, 97, 98, 99, 100, 101, 102, 103, 104] (by decide +kernel) (by decide +kernel)
set_option maxRecDepth 20000 in
theorem gX6_number_X0_pairsAlike : GoodIn wsX6_number (wsV RX6 308 RX0 yX0_pairsAlike wsX0_pairsAlike) := goodIn_app (goodIn_of _ (by decide +kernel)) ggX6_number_X0_pairsAlike
set_option maxRecDepth 20000 in
theorem ggX6_number_X6_misfits : GoodIn wsX6_number wsX6_misfits := goodIn_r _ [59, 1, 60, 61, 16, 17, 13, 18, 19, 20, 62, 22, 23, 24, 25, 63, 64, 65, 66, 67, 68, 69, 70, 71, 72, 73, 74, 75, 76, 77, 42, 43, 44, 15, 78, 79, 46, 47, 48, 49, 54, 51, 55, 50, 52, 53, 80, 81, 82, 83, 84, 85, 86, 87, 88, 89, 90, 91, 92, 93, 94, 95, 96, 97, 98, 99, 100, 101, 102, 103, 104, 108, 109, 110, 111] (by decide +kernel) (by decide +kernel)
set_option maxRecDepth 20000 in
theorem gX6_number_X6_misfits : GoodIn wsX6_number (wsV RX6 312 RX6 yX6_misfits wsX6_misfits) := goodIn_app (goodIn_of _ (by decide +kernel)) ggX6_number_X6_misfits
theorem dX6_number_0 : decode cX6_number 0 = .ok (.iload_n 1, 1) := by decide +kernel
theorem dX6_number_1 : decode cX6_number 1 = .ok (.tableswitch 128 0 8 #[51, 59, 67, 75, 83, 94, 102, 112, 123], 51) := by decide +kernel
theorem dX6_number_52 : decode cX6_number 52 = .ok (.aload_n 0, 1) := by decide +kernel
theorem dX6_number_53 : decode cX6_number 53 = .ok (.getfield 12, 3) := by decide +kernel
theorem dX6_number_56 : decode cX6_number 56 = .ok (.getfield 98, 3) := by decide +kernel
theorem dX6_number_59 : decode cX6_number 59 = .ok (.ireturn, 1) := by decide +kernel
theorem dX6_number_60 : decode cX6_number 60 = .ok (.aload_n 0, 1) := by decide +kernel
theorem dX6_number_61 : decode cX6_number 61 = .ok (.getfield 12, 3) := by decide +kernel
theorem dX6_number_64 : decode cX6_number 64 = .ok (.getfield 101, 3) := by decide +kernel
theorem dX6_number_67 : decode cX6_number 67 = .ok (.ireturn, 1) := by decide +kernel
theorem dX6_number_68 : decode cX6_number 68 = .ok (.aload_n 0, 1) := by decide +kernel
theorem dX6_number_69 : decode cX6_number 69 = .ok (.getfield 12, 3) := by decide +kernel
theorem dX6_number_72 : decode cX6_number 72 = .ok (.getfield 72, 3) := by decide +kernel
theorem dX6_number_75 : decode cX6_number 75 = .ok (.ireturn, 1) := by decide +kernel
theorem dX6_number_76 : decode cX6_number 76 = .ok (.aload_n 0, 1) := by decide +kernel
theorem dX6_number_77 : decode cX6_number 77 = .ok (.getfield 12, 3) := by decide +kernel
theorem dX6_number_80 : decode cX6_number 80 = .ok (.invokevirtual 123, 3) := by decide +kernel
theorem dX6_number_83 : decode cX6_number 83 = .ok (.ireturn, 1) := by decide +kernel
theorem dX6_number_84 : decode cX6_number 84 = .ok (.aload_n 0, 1) := by decide +kernel
theorem dX6_number_85 : decode cX6_number 85 = .ok (.getfield 12, 3) := by decide +kernel
theorem dX6_number_88 : decode cX6_number 88 = .ok (.getfield 147, 3) := by decide +kernel
theorem dX6_number_91 : decode cX6_number 91 = .ok (.invokestatic 239, 3) := by decide +kernel
theorem dX6_number_94 : decode cX6_number 94 = .ok (.ireturn, 1) := by decide +kernel
theorem dX6_number_95 : decode cX6_number 95 = .ok (.aload_n 0, 1) := by decide +kernel
theorem dX6_number_96 : decode cX6_number 96 = .ok (.getfield 12, 3) := by decide +kernel
theorem dX6_number_99 : decode cX6_number 99 = .ok (.getfield 92, 3) := by decide +kernel
theorem dX6_number_102 : decode cX6_number 102 = .ok (.ireturn, 1) := by decide +kernel
theorem dX6_number_103 : decode cX6_number 103 = .ok (.aload_n 0, 1) := by decide +kernel
theorem dX6_number_104 : decode cX6_number 104 = .ok (.getfield 12, 3) := by decide +kernel
theorem dX6_number_107 : decode cX6_number 107 = .ok (.bipush 15, 2) := by decide +kernel
theorem dX6_number_109 : decode cX6_number 109 = .ok (.invokevirtual 308, 3) := by decide +kernel
theorem dX6_number_112 : decode cX6_number 112 = .ok (.ireturn, 1) := by decide +kernel
theorem dX6_number_113 : decode cX6_number 113 = .ok (.aload_n 0, 1) := by decide +kernel
theorem dX6_number_114 : decode cX6_number 114 = .ok (.getfield 12, 3) := by decide +kernel
theorem dX6_number_117 : decode cX6_number 117 = .ok (.ldc_w 311, 3) := by decide +kernel
theorem dX6_number_120 : decode cX6_number 120 = .ok (.invokevirtual 308, 3) := by decide +kernel
theorem dX6_number_123 : decode cX6_number 123 = .ok (.ireturn, 1) := by decide +kernel
theorem dX6_number_124 : decode cX6_number 124 = .ok (.aload_n 0, 1) := by decide +kernel
theorem dX6_number_125 : decode cX6_number 125 = .ok (.invokevirtual 312, 3) := by decide +kernel
theorem dX6_number_128 : decode cX6_number 128 = .ok (.ireturn, 1) := by decide +kernel
theorem dX6_number_129 : decode cX6_number 129 = .ok (.aload_n 0, 1) := by decide +kernel
theorem dX6_number_130 : decode cX6_number 130 = .ok (.getfield 19, 3) := by decide +kernel
theorem dX6_number_133 : decode cX6_number 133 = .ok (.getfield 199, 3) := by decide +kernel
theorem dX6_number_136 : decode cX6_number 136 = .ok (.ireturn, 1) := by decide +kernel
set_option maxRecDepth 20000 in
theorem ggX6_misfits_X0_cells : GoodIn wsX6_misfits wsX0_cells := goodIn_r _ [7, 8, 9, 63, 64, 65, 66, 67, 68, 69, 70] (by decide +kernel) (by decide +kernel)
set_option maxRecDepth 20000 in
theorem gX6_misfits_X0_cells : GoodIn wsX6_misfits (wsV RX6 66 RX0 yX0_cells wsX0_cells) := goodIn_app (goodIn_of _ (by decide +kernel)) ggX6_misfits_X0_cells
set_option maxRecDepth 20000 in
theorem ggX6_misfits_X0_isEmpty : GoodIn wsX6_misfits wsX0_isEmpty := goodIn_r _ [13, 14, 63, 64, 65, 66, 67, 68, 69, 70] (by decide +kernel) (by decide +kernel)
set_option maxRecDepth 20000 in
theorem gX6_misfits_X0_isEmpty : GoodIn wsX6_misfits (wsV RX6 130 RX0 yX0_isEmpty wsX0_isEmpty) := goodIn_app (goodIn_of _ (by decide +kernel)) ggX6_misfits_X0_isEmpty
set_option maxRecDepth 20000 in
theorem ggX6_misfits_X3_read : GoodIn wsX6_misfits wsX3_read := goodIn_r _ [19, 20, 21, 22, 23, 24, 25, 26, 18, 27, 28, 29, 30, 31, 6, 32, 9, 33, 4, 5, 7, 8, 34, 11, 12, 13, 14, 35, 36, 37, 38, 39, 40, 41, 42, 43, 44, 45, 46, 47, 48, 49, 50, 71, 72, 73, 74, 63, 64, 65, 66, 67, 68, 69, 70] (by decide +kernel) (by decide +kernel)
set_option maxRecDepth 20000 in
theorem gX6_misfits_X3_read : GoodIn wsX6_misfits (wsV RX6 275 RX3 yX3_read wsX3_read) := goodIn_app (goodIn_of _ (by decide +kernel)) ggX6_misfits_X3_read
set_option maxRecDepth 20000 in
theorem ggX6_misfits_X0_lookIn : GoodIn wsX6_misfits wsX0_lookIn := goodIn_r _ [38, 39, 14, 63, 64, 65, 66, 67, 68, 69, 70] (by decide +kernel) (by decide +kernel)
set_option maxRecDepth 20000 in
theorem gX6_misfits_X0_lookIn : GoodIn wsX6_misfits (wsV RX6 293 RX0 yX0_lookIn wsX0_lookIn) := goodIn_app (goodIn_of _ (by decide +kernel)) ggX6_misfits_X0_lookIn
set_option maxRecDepth 20000 in
theorem ggX6_misfits_X3_reasonAgainst : GoodIn wsX6_misfits wsX3_reasonAgainst := goodIn_r _ [55, 20, 22, 21, 56, 23, 71, 72, 73, 74] (by decide +kernel) (by decide +kernel)
set_option maxRecDepth 20000 in
theorem gX6_misfits_X3_reasonAgainst : GoodIn wsX6_misfits (wsV RX6 281 RX3 yX3_reasonAgainst wsX3_reasonAgainst) := goodIn_app (goodIn_of _ (by decide +kernel)) ggX6_misfits_X3_reasonAgainst
theorem dX6_misfits_0 : decode cX6_misfits 0 = .ok (.iconst 0, 1) := by decide +kernel
theorem dX6_misfits_1 : decode cX6_misfits 1 = .ok (.istore_n 1, 1) := by decide +kernel
theorem dX6_misfits_2 : decode cX6_misfits 2 = .ok (.iconst 0, 1) := by decide +kernel
theorem dX6_misfits_3 : decode cX6_misfits 3 = .ok (.istore_n 2, 1) := by decide +kernel
theorem dX6_misfits_4 : decode cX6_misfits 4 = .ok (.iload_n 2, 1) := by decide +kernel
theorem dX6_misfits_5 : decode cX6_misfits 5 = .ok (.aload_n 0, 1) := by decide +kernel
theorem dX6_misfits_6 : decode cX6_misfits 6 = .ok (.getfield 12, 3) := by decide +kernel
theorem dX6_misfits_9 : decode cX6_misfits 9 = .ok (.invokevirtual 66, 3) := by decide +kernel
theorem dX6_misfits_12 : decode cX6_misfits 12 = .ok (.if_icmp .ge 53, 3) := by decide +kernel
theorem dX6_misfits_15 : decode cX6_misfits 15 = .ok (.aload_n 0, 1) := by decide +kernel
theorem dX6_misfits_16 : decode cX6_misfits 16 = .ok (.getfield 12, 3) := by decide +kernel
theorem dX6_misfits_19 : decode cX6_misfits 19 = .ok (.iload_n 2, 1) := by decide +kernel
theorem dX6_misfits_20 : decode cX6_misfits 20 = .ok (.invokevirtual 130, 3) := by decide +kernel
theorem dX6_misfits_23 : decode cX6_misfits 23 = .ok (.ifCond .ne 36, 3) := by decide +kernel
theorem dX6_misfits_26 : decode cX6_misfits 26 = .ok (.aload_n 0, 1) := by decide +kernel
theorem dX6_misfits_27 : decode cX6_misfits 27 = .ok (.getfield 33, 3) := by decide +kernel
theorem dX6_misfits_30 : decode cX6_misfits 30 = .ok (.aload_n 0, 1) := by decide +kernel
theorem dX6_misfits_31 : decode cX6_misfits 31 = .ok (.getfield 12, 3) := by decide +kernel
theorem dX6_misfits_34 : decode cX6_misfits 34 = .ok (.iload_n 2, 1) := by decide +kernel
theorem dX6_misfits_35 : decode cX6_misfits 35 = .ok (.invokevirtual 275, 3) := by decide +kernel
theorem dX6_misfits_38 : decode cX6_misfits 38 = .ok (.aload_n 0, 1) := by decide +kernel
theorem dX6_misfits_39 : decode cX6_misfits 39 = .ok (.getfield 33, 3) := by decide +kernel
theorem dX6_misfits_42 : decode cX6_misfits 42 = .ok (.aload_n 0, 1) := by decide +kernel
theorem dX6_misfits_43 : decode cX6_misfits 43 = .ok (.getfield 12, 3) := by decide +kernel
theorem dX6_misfits_46 : decode cX6_misfits 46 = .ok (.iload_n 2, 1) := by decide +kernel
theorem dX6_misfits_47 : decode cX6_misfits 47 = .ok (.invokevirtual 293, 3) := by decide +kernel
theorem dX6_misfits_50 : decode cX6_misfits 50 = .ok (.invokevirtual 281, 3) := by decide +kernel
theorem dX6_misfits_53 : decode cX6_misfits 53 = .ok (.ifCond .eq 6, 3) := by decide +kernel
theorem dX6_misfits_56 : decode cX6_misfits 56 = .ok (.iinc 1 1, 3) := by decide +kernel
theorem dX6_misfits_59 : decode cX6_misfits 59 = .ok (.iinc 2 1, 3) := by decide +kernel
theorem dX6_misfits_62 : decode cX6_misfits 62 = .ok (.goto (-58), 3) := by decide +kernel
theorem dX6_misfits_65 : decode cX6_misfits 65 = .ok (.iload_n 1, 1) := by decide +kernel
theorem dX6_misfits_66 : decode cX6_misfits 66 = .ok (.ireturn, 1) := by decide +kernel
set_option maxRecDepth 20000 in
theorem ggX6_bestStep_X0_cells : GoodIn wsX6_bestStep wsX0_cells := goodIn_r _ [6, 7, 8, 81, 82, 83, 84, 85, 86, 87, 88] (by decide +kernel) (by decide +kernel)
set_option maxRecDepth 20000 in
theorem gX6_bestStep_X0_cells : GoodIn wsX6_bestStep (wsV RX6 66 RX0 yX0_cells wsX0_cells) := goodIn_app (goodIn_of _ (by decide +kernel)) ggX6_bestStep_X0_cells
set_option maxRecDepth 20000 in
theorem ggX6_bestStep_X6_possibleCount : GoodIn wsX6_bestStep wsX6_possibleCount := goodIn_r _ [13, 1, 14, 15, 16, 17, 18, 5, 19, 20, 21, 22, 23, 24, 25, 26, 27, 28, 29, 30, 31, 32, 33, 34, 35, 36, 37, 38, 8, 39, 3, 4, 6, 7, 40, 41, 42, 43, 44, 45, 46, 12, 47, 48, 49, 50, 51, 52, 53, 54, 55, 56, 57, 58, 59, 60, 61, 62, 63, 64, 65, 66, 67, 68, 69, 70, 75, 76, 77, 78, 79, 80, 81, 82, 83, 84, 85, 86, 87, 88, 89, 90, 91, 92] (by decide +kernel) (by decide +kernel)
set_option maxRecDepth 20000 in
theorem gX6_bestStep_X6_possibleCount : GoodIn wsX6_bestStep (wsV RX6 284 RX6 yX6_possibleCount wsX6_possibleCount) := goodIn_app (goodIn_of _ (by decide +kernel)) ggX6_bestStep_X6_possibleCount
set_option maxRecDepth 20000 in
theorem ggX6_bestStep_X6_firstPossible : GoodIn wsX6_bestStep wsX6_firstPossible := goodIn_r _ [74, 1, 14, 15, 16, 17, 18, 5, 19, 20, 21, 22, 23, 24, 25, 26, 27, 28, 29, 30, 31, 32, 33, 34, 35, 36, 37, 38, 8, 39, 3, 4, 6, 7, 40, 41, 42, 43, 44, 45, 46, 12, 47, 48, 49, 50, 51, 52, 53, 54, 55, 56, 57, 58, 59, 60, 61, 62, 63, 64, 65, 66, 67, 68, 69, 70, 75, 76, 77, 78, 79, 80, 81, 82, 83, 84, 85, 86, 87, 88, 89, 90, 91, 92] (by decide +kernel) (by decide +kernel)
set_option maxRecDepth 20000 in
theorem gX6_bestStep_X6_firstPossible : GoodIn wsX6_bestStep (wsV RX6 287 RX6 yX6_firstPossible wsX6_firstPossible) := goodIn_app (goodIn_of _ (by decide +kernel)) ggX6_bestStep_X6_firstPossible
theorem dX6_bestStep_0 : decode cX6_bestStep 0 = .ok (.iconst (-1), 1) := by decide +kernel
theorem dX6_bestStep_1 : decode cX6_bestStep 1 = .ok (.istore_n 1, 1) := by decide +kernel
theorem dX6_bestStep_2 : decode cX6_bestStep 2 = .ok (.iconst 0, 1) := by decide +kernel
theorem dX6_bestStep_3 : decode cX6_bestStep 3 = .ok (.istore_n 2, 1) := by decide +kernel
theorem dX6_bestStep_4 : decode cX6_bestStep 4 = .ok (.iconst 0, 1) := by decide +kernel
theorem dX6_bestStep_5 : decode cX6_bestStep 5 = .ok (.istore_n 3, 1) := by decide +kernel
theorem dX6_bestStep_6 : decode cX6_bestStep 6 = .ok (.iload_n 3, 1) := by decide +kernel
theorem dX6_bestStep_7 : decode cX6_bestStep 7 = .ok (.aload_n 0, 1) := by decide +kernel
theorem dX6_bestStep_8 : decode cX6_bestStep 8 = .ok (.getfield 12, 3) := by decide +kernel
theorem dX6_bestStep_11 : decode cX6_bestStep 11 = .ok (.invokevirtual 66, 3) := by decide +kernel
theorem dX6_bestStep_14 : decode cX6_bestStep 14 = .ok (.if_icmp .ge 37, 3) := by decide +kernel
theorem dX6_bestStep_17 : decode cX6_bestStep 17 = .ok (.aload_n 0, 1) := by decide +kernel
theorem dX6_bestStep_18 : decode cX6_bestStep 18 = .ok (.iload_n 3, 1) := by decide +kernel
theorem dX6_bestStep_19 : decode cX6_bestStep 19 = .ok (.invokevirtual 284, 3) := by decide +kernel
theorem dX6_bestStep_22 : decode cX6_bestStep 22 = .ok (.istore 4, 2) := by decide +kernel
theorem dX6_bestStep_24 : decode cX6_bestStep 24 = .ok (.iload 4, 2) := by decide +kernel
theorem dX6_bestStep_26 : decode cX6_bestStep 26 = .ok (.ifCond .le 19, 3) := by decide +kernel
theorem dX6_bestStep_29 : decode cX6_bestStep 29 = .ok (.iload_n 1, 1) := by decide +kernel
theorem dX6_bestStep_30 : decode cX6_bestStep 30 = .ok (.iconst (-1), 1) := by decide +kernel
theorem dX6_bestStep_31 : decode cX6_bestStep 31 = .ok (.if_icmp .eq 9, 3) := by decide +kernel
theorem dX6_bestStep_34 : decode cX6_bestStep 34 = .ok (.iload 4, 2) := by decide +kernel
theorem dX6_bestStep_36 : decode cX6_bestStep 36 = .ok (.iload_n 2, 1) := by decide +kernel
theorem dX6_bestStep_37 : decode cX6_bestStep 37 = .ok (.if_icmp .ge 8, 3) := by decide +kernel
theorem dX6_bestStep_40 : decode cX6_bestStep 40 = .ok (.iload_n 3, 1) := by decide +kernel
theorem dX6_bestStep_41 : decode cX6_bestStep 41 = .ok (.istore_n 1, 1) := by decide +kernel
theorem dX6_bestStep_42 : decode cX6_bestStep 42 = .ok (.iload 4, 2) := by decide +kernel
theorem dX6_bestStep_44 : decode cX6_bestStep 44 = .ok (.istore_n 2, 1) := by decide +kernel
theorem dX6_bestStep_45 : decode cX6_bestStep 45 = .ok (.iinc 3 1, 3) := by decide +kernel
theorem dX6_bestStep_48 : decode cX6_bestStep 48 = .ok (.goto (-42), 3) := by decide +kernel
theorem dX6_bestStep_51 : decode cX6_bestStep 51 = .ok (.iload_n 1, 1) := by decide +kernel
theorem dX6_bestStep_52 : decode cX6_bestStep 52 = .ok (.iconst (-1), 1) := by decide +kernel
theorem dX6_bestStep_53 : decode cX6_bestStep 53 = .ok (.if_icmp .ne 7, 3) := by decide +kernel
theorem dX6_bestStep_56 : decode cX6_bestStep 56 = .ok (.iconst (-1), 1) := by decide +kernel
theorem dX6_bestStep_57 : decode cX6_bestStep 57 = .ok (.goto 13, 3) := by decide +kernel
theorem dX6_bestStep_60 : decode cX6_bestStep 60 = .ok (.bipush 100, 2) := by decide +kernel
theorem dX6_bestStep_62 : decode cX6_bestStep 62 = .ok (.iload_n 1, 1) := by decide +kernel
theorem dX6_bestStep_63 : decode cX6_bestStep 63 = .ok (.imul, 1) := by decide +kernel
theorem dX6_bestStep_64 : decode cX6_bestStep 64 = .ok (.aload_n 0, 1) := by decide +kernel
theorem dX6_bestStep_65 : decode cX6_bestStep 65 = .ok (.iload_n 1, 1) := by decide +kernel
theorem dX6_bestStep_66 : decode cX6_bestStep 66 = .ok (.invokevirtual 287, 3) := by decide +kernel
theorem dX6_bestStep_69 : decode cX6_bestStep 69 = .ok (.iadd, 1) := by decide +kernel
theorem dX6_bestStep_70 : decode cX6_bestStep 70 = .ok (.ireturn, 1) := by decide +kernel
set_option maxRecDepth 20000 in
theorem ggX6_fittingPart_X0_pairsAlike : GoodIn wsX6_fittingPart wsX0_pairsAlike := goodIn_r _ [7, 8, 9, 10, 6, 11, 12, 13, 14, 15, 16, 17, 18, 19, 20, 21, 22, 23, 24, 25, 26, 27, 28, 29, 30, 31, 32, 33, 34, 35, 36, 37, 44, 45, 46, 47, 48, 49, 50, 51] (by decide +kernel) (by decide +kernel)
set_option maxRecDepth 20000 in
theorem gX6_fittingPart_X0_pairsAlike : GoodIn wsX6_fittingPart (wsV RX6 308 RX0 yX0_pairsAlike wsX0_pairsAlike) := goodIn_app (goodIn_of _ (by decide +kernel)) ggX6_fittingPart_X0_pairsAlike
theorem dX6_fittingPart_0 : decode cX6_fittingPart 0 = .ok (.aload_n 0, 1) := by decide +kernel
theorem dX6_fittingPart_1 : decode cX6_fittingPart 1 = .ok (.getfield 12, 3) := by decide +kernel
theorem dX6_fittingPart_4 : decode cX6_fittingPart 4 = .ok (.iconst 0, 1) := by decide +kernel
theorem dX6_fittingPart_5 : decode cX6_fittingPart 5 = .ok (.invokevirtual 308, 3) := by decide +kernel
theorem dX6_fittingPart_8 : decode cX6_fittingPart 8 = .ok (.istore_n 1, 1) := by decide +kernel
theorem dX6_fittingPart_9 : decode cX6_fittingPart 9 = .ok (.iload_n 1, 1) := by decide +kernel
theorem dX6_fittingPart_10 : decode cX6_fittingPart 10 = .ok (.iconst 1, 1) := by decide +kernel
theorem dX6_fittingPart_11 : decode cX6_fittingPart 11 = .ok (.if_icmp .ge 5, 3) := by decide +kernel
theorem dX6_fittingPart_14 : decode cX6_fittingPart 14 = .ok (.dconst 1, 1) := by decide +kernel
theorem dX6_fittingPart_15 : decode cX6_fittingPart 15 = .ok (.dreturn, 1) := by decide +kernel
theorem dX6_fittingPart_16 : decode cX6_fittingPart 16 = .ok (.aload_n 0, 1) := by decide +kernel
theorem dX6_fittingPart_17 : decode cX6_fittingPart 17 = .ok (.getfield 12, 3) := by decide +kernel
theorem dX6_fittingPart_20 : decode cX6_fittingPart 20 = .ok (.bipush 15, 2) := by decide +kernel
theorem dX6_fittingPart_22 : decode cX6_fittingPart 22 = .ok (.invokevirtual 308, 3) := by decide +kernel
theorem dX6_fittingPart_25 : decode cX6_fittingPart 25 = .ok (.aload_n 0, 1) := by decide +kernel
theorem dX6_fittingPart_26 : decode cX6_fittingPart 26 = .ok (.getfield 12, 3) := by decide +kernel
theorem dX6_fittingPart_29 : decode cX6_fittingPart 29 = .ok (.ldc_w 311, 3) := by decide +kernel
theorem dX6_fittingPart_32 : decode cX6_fittingPart 32 = .ok (.invokevirtual 308, 3) := by decide +kernel
theorem dX6_fittingPart_35 : decode cX6_fittingPart 35 = .ok (.iadd, 1) := by decide +kernel
theorem dX6_fittingPart_36 : decode cX6_fittingPart 36 = .ok (.istore_n 2, 1) := by decide +kernel
theorem dX6_fittingPart_37 : decode cX6_fittingPart 37 = .ok (.iload_n 2, 1) := by decide +kernel
theorem dX6_fittingPart_38 : decode cX6_fittingPart 38 = .ok (.i2d, 1) := by decide +kernel
theorem dX6_fittingPart_39 : decode cX6_fittingPart 39 = .ok (.iconst 2, 1) := by decide +kernel
theorem dX6_fittingPart_40 : decode cX6_fittingPart 40 = .ok (.iload_n 1, 1) := by decide +kernel
theorem dX6_fittingPart_41 : decode cX6_fittingPart 41 = .ok (.imul, 1) := by decide +kernel
theorem dX6_fittingPart_42 : decode cX6_fittingPart 42 = .ok (.i2d, 1) := by decide +kernel
theorem dX6_fittingPart_43 : decode cX6_fittingPart 43 = .ok (.ddiv, 1) := by decide +kernel
theorem dX6_fittingPart_44 : decode cX6_fittingPart 44 = .ok (.dreturn, 1) := by decide +kernel
theorem dX6_colorsAt_0 : decode cX6_colorsAt 0 = .ok (.iload_n 0, 1) := by decide +kernel
theorem dX6_colorsAt_1 : decode cX6_colorsAt 1 = .ok (.iconst 4, 1) := by decide +kernel
theorem dX6_colorsAt_2 : decode cX6_colorsAt 2 = .ok (.iload_n 1, 1) := by decide +kernel
theorem dX6_colorsAt_3 : decode cX6_colorsAt 3 = .ok (.imul, 1) := by decide +kernel
theorem dX6_colorsAt_4 : decode cX6_colorsAt 4 = .ok (.iushr, 1) := by decide +kernel
theorem dX6_colorsAt_5 : decode cX6_colorsAt 5 = .ok (.ldc_w 321, 3) := by decide +kernel
theorem dX6_colorsAt_8 : decode cX6_colorsAt 8 = .ok (.iand, 1) := by decide +kernel
theorem dX6_colorsAt_9 : decode cX6_colorsAt 9 = .ok (.ireturn, 1) := by decide +kernel
theorem dX6_opposite_0 : decode cX6_opposite 0 = .ok (.iload_n 0, 1) := by decide +kernel
theorem dX6_opposite_1 : decode cX6_opposite 1 = .ok (.iconst 2, 1) := by decide +kernel
theorem dX6_opposite_2 : decode cX6_opposite 2 = .ok (.iadd, 1) := by decide +kernel
theorem dX6_opposite_3 : decode cX6_opposite 3 = .ok (.iconst 4, 1) := by decide +kernel
theorem dX6_opposite_4 : decode cX6_opposite 4 = .ok (.irem, 1) := by decide +kernel
theorem dX6_opposite_5 : decode cX6_opposite 5 = .ok (.ireturn, 1) := by decide +kernel
theorem dX6_seenFromBehind_0 : decode cX6_seenFromBehind 0 = .ok (.iconst 4, 1) := by decide +kernel
theorem dX6_seenFromBehind_1 : decode cX6_seenFromBehind 1 = .ok (.iload_n 0, 1) := by decide +kernel
theorem dX6_seenFromBehind_2 : decode cX6_seenFromBehind 2 = .ok (.isub, 1) := by decide +kernel
theorem dX6_seenFromBehind_3 : decode cX6_seenFromBehind 3 = .ok (.iconst 4, 1) := by decide +kernel
theorem dX6_seenFromBehind_4 : decode cX6_seenFromBehind 4 = .ok (.irem, 1) := by decide +kernel
theorem dX6_seenFromBehind_5 : decode cX6_seenFromBehind 5 = .ok (.ireturn, 1) := by decide +kernel
set_option maxRecDepth 20000 in
theorem ggX6_turned_X6_colorsAt : GoodIn wsX6_turned wsX6_colorsAt := goodIn_r _ [4, 5] (by decide +kernel) (by decide +kernel)
set_option maxRecDepth 20000 in
theorem gX6_turned_X6_colorsAt : GoodIn wsX6_turned (va_wsS RX6 296 yX6_colorsAt wsX6_colorsAt) := goodIn_app (goodIn_of _ (by decide +kernel)) ggX6_turned_X6_colorsAt
theorem dX6_turned_0 : decode cX6_turned 0 = .ok (.iconst 0, 1) := by decide +kernel
theorem dX6_turned_1 : decode cX6_turned 1 = .ok (.istore_n 1, 1) := by decide +kernel
theorem dX6_turned_2 : decode cX6_turned 2 = .ok (.iconst 0, 1) := by decide +kernel
theorem dX6_turned_3 : decode cX6_turned 3 = .ok (.istore_n 2, 1) := by decide +kernel
theorem dX6_turned_4 : decode cX6_turned 4 = .ok (.iload_n 2, 1) := by decide +kernel
theorem dX6_turned_5 : decode cX6_turned 5 = .ok (.iconst 4, 1) := by decide +kernel
theorem dX6_turned_6 : decode cX6_turned 6 = .ok (.if_icmp .ge 25, 3) := by decide +kernel
theorem dX6_turned_9 : decode cX6_turned 9 = .ok (.iload_n 1, 1) := by decide +kernel
theorem dX6_turned_10 : decode cX6_turned 10 = .ok (.iload_n 0, 1) := by decide +kernel
theorem dX6_turned_11 : decode cX6_turned 11 = .ok (.iload_n 2, 1) := by decide +kernel
theorem dX6_turned_12 : decode cX6_turned 12 = .ok (.invokestatic 296, 3) := by decide +kernel
theorem dX6_turned_15 : decode cX6_turned 15 = .ok (.iconst 4, 1) := by decide +kernel
theorem dX6_turned_16 : decode cX6_turned 16 = .ok (.iload_n 2, 1) := by decide +kernel
theorem dX6_turned_17 : decode cX6_turned 17 = .ok (.iconst 1, 1) := by decide +kernel
theorem dX6_turned_18 : decode cX6_turned 18 = .ok (.iadd, 1) := by decide +kernel
theorem dX6_turned_19 : decode cX6_turned 19 = .ok (.iconst 4, 1) := by decide +kernel
theorem dX6_turned_20 : decode cX6_turned 20 = .ok (.irem, 1) := by decide +kernel
theorem dX6_turned_21 : decode cX6_turned 21 = .ok (.imul, 1) := by decide +kernel
theorem dX6_turned_22 : decode cX6_turned 22 = .ok (.ishl, 1) := by decide +kernel
theorem dX6_turned_23 : decode cX6_turned 23 = .ok (.ior, 1) := by decide +kernel
theorem dX6_turned_24 : decode cX6_turned 24 = .ok (.istore_n 1, 1) := by decide +kernel
theorem dX6_turned_25 : decode cX6_turned 25 = .ok (.iinc 2 1, 3) := by decide +kernel
theorem dX6_turned_28 : decode cX6_turned 28 = .ok (.goto (-24), 3) := by decide +kernel
theorem dX6_turned_31 : decode cX6_turned 31 = .ok (.iload_n 1, 1) := by decide +kernel
theorem dX6_turned_32 : decode cX6_turned 32 = .ok (.ireturn, 1) := by decide +kernel
set_option maxRecDepth 20000 in
theorem ggX6_turnedOver_X6_colorsAt : GoodIn wsX6_turnedOver wsX6_colorsAt := goodIn_r _ [4, 5] (by decide +kernel) (by decide +kernel)
set_option maxRecDepth 20000 in
theorem gX6_turnedOver_X6_colorsAt : GoodIn wsX6_turnedOver (va_wsS RX6 296 yX6_colorsAt wsX6_colorsAt) := goodIn_app (goodIn_of _ (by decide +kernel)) ggX6_turnedOver_X6_colorsAt
set_option maxRecDepth 20000 in
theorem ggX6_turnedOver_X6_seenFromBehind : GoodIn wsX6_turnedOver wsX6_seenFromBehind := goodIn_r _ [8] (by decide +kernel) (by decide +kernel)
set_option maxRecDepth 20000 in
theorem gX6_turnedOver_X6_seenFromBehind : GoodIn wsX6_turnedOver (va_wsS RX6 322 yX6_seenFromBehind wsX6_seenFromBehind) := goodIn_app (goodIn_of _ (by decide +kernel)) ggX6_turnedOver_X6_seenFromBehind
theorem dX6_turnedOver_0 : decode cX6_turnedOver 0 = .ok (.iconst 0, 1) := by decide +kernel
theorem dX6_turnedOver_1 : decode cX6_turnedOver 1 = .ok (.istore_n 1, 1) := by decide +kernel
theorem dX6_turnedOver_2 : decode cX6_turnedOver 2 = .ok (.iconst 0, 1) := by decide +kernel
theorem dX6_turnedOver_3 : decode cX6_turnedOver 3 = .ok (.istore_n 2, 1) := by decide +kernel
theorem dX6_turnedOver_4 : decode cX6_turnedOver 4 = .ok (.iload_n 2, 1) := by decide +kernel
theorem dX6_turnedOver_5 : decode cX6_turnedOver 5 = .ok (.iconst 4, 1) := by decide +kernel
theorem dX6_turnedOver_6 : decode cX6_turnedOver 6 = .ok (.if_icmp .ge 41, 3) := by decide +kernel
theorem dX6_turnedOver_9 : decode cX6_turnedOver 9 = .ok (.iload_n 0, 1) := by decide +kernel
theorem dX6_turnedOver_10 : decode cX6_turnedOver 10 = .ok (.iload_n 2, 1) := by decide +kernel
theorem dX6_turnedOver_11 : decode cX6_turnedOver 11 = .ok (.invokestatic 296, 3) := by decide +kernel
theorem dX6_turnedOver_14 : decode cX6_turnedOver 14 = .ok (.istore_n 3, 1) := by decide +kernel
theorem dX6_turnedOver_15 : decode cX6_turnedOver 15 = .ok (.iload_n 3, 1) := by decide +kernel
theorem dX6_turnedOver_16 : decode cX6_turnedOver 16 = .ok (.bipush 16, 2) := by decide +kernel
theorem dX6_turnedOver_18 : decode cX6_turnedOver 18 = .ok (.iushr, 1) := by decide +kernel
theorem dX6_turnedOver_19 : decode cX6_turnedOver 19 = .ok (.iload_n 3, 1) := by decide +kernel
theorem dX6_turnedOver_20 : decode cX6_turnedOver 20 = .ok (.bipush 15, 2) := by decide +kernel
theorem dX6_turnedOver_22 : decode cX6_turnedOver 22 = .ok (.iand, 1) := by decide +kernel
theorem dX6_turnedOver_23 : decode cX6_turnedOver 23 = .ok (.bipush 16, 2) := by decide +kernel
theorem dX6_turnedOver_25 : decode cX6_turnedOver 25 = .ok (.ishl, 1) := by decide +kernel
theorem dX6_turnedOver_26 : decode cX6_turnedOver 26 = .ok (.ior, 1) := by decide +kernel
theorem dX6_turnedOver_27 : decode cX6_turnedOver 27 = .ok (.istore 4, 2) := by decide +kernel
theorem dX6_turnedOver_29 : decode cX6_turnedOver 29 = .ok (.iload_n 1, 1) := by decide +kernel
theorem dX6_turnedOver_30 : decode cX6_turnedOver 30 = .ok (.iload 4, 2) := by decide +kernel
theorem dX6_turnedOver_32 : decode cX6_turnedOver 32 = .ok (.iconst 4, 1) := by decide +kernel
theorem dX6_turnedOver_33 : decode cX6_turnedOver 33 = .ok (.iload_n 2, 1) := by decide +kernel
theorem dX6_turnedOver_34 : decode cX6_turnedOver 34 = .ok (.invokestatic 322, 3) := by decide +kernel
theorem dX6_turnedOver_37 : decode cX6_turnedOver 37 = .ok (.imul, 1) := by decide +kernel
theorem dX6_turnedOver_38 : decode cX6_turnedOver 38 = .ok (.ishl, 1) := by decide +kernel
theorem dX6_turnedOver_39 : decode cX6_turnedOver 39 = .ok (.ior, 1) := by decide +kernel
theorem dX6_turnedOver_40 : decode cX6_turnedOver 40 = .ok (.istore_n 1, 1) := by decide +kernel
theorem dX6_turnedOver_41 : decode cX6_turnedOver 41 = .ok (.iinc 2 1, 3) := by decide +kernel
theorem dX6_turnedOver_44 : decode cX6_turnedOver 44 = .ok (.goto (-40), 3) := by decide +kernel
theorem dX6_turnedOver_47 : decode cX6_turnedOver 47 = .ok (.iload_n 1, 1) := by decide +kernel
theorem dX6_turnedOver_48 : decode cX6_turnedOver 48 = .ok (.ireturn, 1) := by decide +kernel
set_option maxRecDepth 20000 in
theorem ggX6_lookOfFaces_X6_digit : GoodIn wsX6_lookOfFaces wsX6_digit := goodIn_r _ [4] (by decide +kernel) (by decide +kernel)
set_option maxRecDepth 20000 in
theorem gX6_lookOfFaces_X6_digit : GoodIn wsX6_lookOfFaces (va_wsS RX6 325 yX6_digit wsX6_digit) := goodIn_app (goodIn_of _ (by decide +kernel)) ggX6_lookOfFaces_X6_digit
set_option maxRecDepth 20000 in
theorem ggX6_lookOfFaces_X6_seenFromBehind : GoodIn wsX6_lookOfFaces wsX6_seenFromBehind := goodIn_r _ [7] (by decide +kernel) (by decide +kernel)
set_option maxRecDepth 20000 in
theorem gX6_lookOfFaces_X6_seenFromBehind : GoodIn wsX6_lookOfFaces (va_wsS RX6 322 yX6_seenFromBehind wsX6_seenFromBehind) := goodIn_app (goodIn_of _ (by decide +kernel)) ggX6_lookOfFaces_X6_seenFromBehind
theorem dX6_lookOfFaces_0 : decode cX6_lookOfFaces 0 = .ok (.iconst 0, 1) := by decide +kernel
theorem dX6_lookOfFaces_1 : decode cX6_lookOfFaces 1 = .ok (.istore_n 2, 1) := by decide +kernel
theorem dX6_lookOfFaces_2 : decode cX6_lookOfFaces 2 = .ok (.iconst 0, 1) := by decide +kernel
theorem dX6_lookOfFaces_3 : decode cX6_lookOfFaces 3 = .ok (.istore_n 3, 1) := by decide +kernel
theorem dX6_lookOfFaces_4 : decode cX6_lookOfFaces 4 = .ok (.iload_n 3, 1) := by decide +kernel
theorem dX6_lookOfFaces_5 : decode cX6_lookOfFaces 5 = .ok (.iconst 4, 1) := by decide +kernel
theorem dX6_lookOfFaces_6 : decode cX6_lookOfFaces 6 = .ok (.if_icmp .ge 41, 3) := by decide +kernel
theorem dX6_lookOfFaces_9 : decode cX6_lookOfFaces 9 = .ok (.iload_n 0, 1) := by decide +kernel
theorem dX6_lookOfFaces_10 : decode cX6_lookOfFaces 10 = .ok (.iload_n 3, 1) := by decide +kernel
theorem dX6_lookOfFaces_11 : decode cX6_lookOfFaces 11 = .ok (.invokestatic 325, 3) := by decide +kernel
theorem dX6_lookOfFaces_14 : decode cX6_lookOfFaces 14 = .ok (.istore 4, 2) := by decide +kernel
theorem dX6_lookOfFaces_16 : decode cX6_lookOfFaces 16 = .ok (.iload_n 1, 1) := by decide +kernel
theorem dX6_lookOfFaces_17 : decode cX6_lookOfFaces 17 = .ok (.iload_n 3, 1) := by decide +kernel
theorem dX6_lookOfFaces_18 : decode cX6_lookOfFaces 18 = .ok (.invokestatic 322, 3) := by decide +kernel
theorem dX6_lookOfFaces_21 : decode cX6_lookOfFaces 21 = .ok (.invokestatic 325, 3) := by decide +kernel
theorem dX6_lookOfFaces_24 : decode cX6_lookOfFaces 24 = .ok (.istore 5, 2) := by decide +kernel
theorem dX6_lookOfFaces_26 : decode cX6_lookOfFaces 26 = .ok (.iload_n 2, 1) := by decide +kernel
theorem dX6_lookOfFaces_27 : decode cX6_lookOfFaces 27 = .ok (.iload 4, 2) := by decide +kernel
theorem dX6_lookOfFaces_29 : decode cX6_lookOfFaces 29 = .ok (.iload 5, 2) := by decide +kernel
theorem dX6_lookOfFaces_31 : decode cX6_lookOfFaces 31 = .ok (.bipush 16, 2) := by decide +kernel
theorem dX6_lookOfFaces_33 : decode cX6_lookOfFaces 33 = .ok (.ishl, 1) := by decide +kernel
theorem dX6_lookOfFaces_34 : decode cX6_lookOfFaces 34 = .ok (.ior, 1) := by decide +kernel
theorem dX6_lookOfFaces_35 : decode cX6_lookOfFaces 35 = .ok (.iconst 4, 1) := by decide +kernel
theorem dX6_lookOfFaces_36 : decode cX6_lookOfFaces 36 = .ok (.iload_n 3, 1) := by decide +kernel
theorem dX6_lookOfFaces_37 : decode cX6_lookOfFaces 37 = .ok (.imul, 1) := by decide +kernel
theorem dX6_lookOfFaces_38 : decode cX6_lookOfFaces 38 = .ok (.ishl, 1) := by decide +kernel
theorem dX6_lookOfFaces_39 : decode cX6_lookOfFaces 39 = .ok (.ior, 1) := by decide +kernel
theorem dX6_lookOfFaces_40 : decode cX6_lookOfFaces 40 = .ok (.istore_n 2, 1) := by decide +kernel
theorem dX6_lookOfFaces_41 : decode cX6_lookOfFaces 41 = .ok (.iinc 3 1, 3) := by decide +kernel
theorem dX6_lookOfFaces_44 : decode cX6_lookOfFaces 44 = .ok (.goto (-40), 3) := by decide +kernel
theorem dX6_lookOfFaces_47 : decode cX6_lookOfFaces 47 = .ok (.iload_n 2, 1) := by decide +kernel
theorem dX6_lookOfFaces_48 : decode cX6_lookOfFaces 48 = .ok (.ireturn, 1) := by decide +kernel
theorem dX6_digit_0 : decode cX6_digit 0 = .ok (.iload_n 0, 1) := by decide +kernel
theorem dX6_digit_1 : decode cX6_digit 1 = .ok (.istore_n 2, 1) := by decide +kernel
theorem dX6_digit_2 : decode cX6_digit 2 = .ok (.iload_n 1, 1) := by decide +kernel
theorem dX6_digit_3 : decode cX6_digit 3 = .ok (.istore_n 3, 1) := by decide +kernel
theorem dX6_digit_4 : decode cX6_digit 4 = .ok (.iload_n 3, 1) := by decide +kernel
theorem dX6_digit_5 : decode cX6_digit 5 = .ok (.iconst 3, 1) := by decide +kernel
theorem dX6_digit_6 : decode cX6_digit 6 = .ok (.if_icmp .ge 14, 3) := by decide +kernel
theorem dX6_digit_9 : decode cX6_digit 9 = .ok (.iload_n 2, 1) := by decide +kernel
theorem dX6_digit_10 : decode cX6_digit 10 = .ok (.bipush 10, 2) := by decide +kernel
theorem dX6_digit_12 : decode cX6_digit 12 = .ok (.idiv, 1) := by decide +kernel
theorem dX6_digit_13 : decode cX6_digit 13 = .ok (.istore_n 2, 1) := by decide +kernel
theorem dX6_digit_14 : decode cX6_digit 14 = .ok (.iinc 3 1, 3) := by decide +kernel
theorem dX6_digit_17 : decode cX6_digit 17 = .ok (.goto (-13), 3) := by decide +kernel
theorem dX6_digit_20 : decode cX6_digit 20 = .ok (.iload_n 2, 1) := by decide +kernel
theorem dX6_digit_21 : decode cX6_digit 21 = .ok (.bipush 10, 2) := by decide +kernel
theorem dX6_digit_23 : decode cX6_digit 23 = .ok (.irem, 1) := by decide +kernel
theorem dX6_digit_24 : decode cX6_digit 24 = .ok (.ireturn, 1) := by decide +kernel
theorem dX6_placingTurnedOver_0 : decode cX6_placingTurnedOver 0 = .ok (.iload_n 0, 1) := by decide +kernel
theorem dX6_placingTurnedOver_1 : decode cX6_placingTurnedOver 1 = .ok (.iconst (-1), 1) := by decide +kernel
theorem dX6_placingTurnedOver_2 : decode cX6_placingTurnedOver 2 = .ok (.if_icmp .ne 5, 3) := by decide +kernel
theorem dX6_placingTurnedOver_5 : decode cX6_placingTurnedOver 5 = .ok (.iconst (-1), 1) := by decide +kernel
theorem dX6_placingTurnedOver_6 : decode cX6_placingTurnedOver 6 = .ok (.ireturn, 1) := by decide +kernel
theorem dX6_placingTurnedOver_7 : decode cX6_placingTurnedOver 7 = .ok (.iload_n 0, 1) := by decide +kernel
theorem dX6_placingTurnedOver_8 : decode cX6_placingTurnedOver 8 = .ok (.bipush 8, 2) := by decide +kernel
theorem dX6_placingTurnedOver_10 : decode cX6_placingTurnedOver 10 = .ok (.idiv, 1) := by decide +kernel
theorem dX6_placingTurnedOver_11 : decode cX6_placingTurnedOver 11 = .ok (.istore_n 1, 1) := by decide +kernel
theorem dX6_placingTurnedOver_12 : decode cX6_placingTurnedOver 12 = .ok (.iconst 1, 1) := by decide +kernel
theorem dX6_placingTurnedOver_13 : decode cX6_placingTurnedOver 13 = .ok (.iload_n 0, 1) := by decide +kernel
theorem dX6_placingTurnedOver_14 : decode cX6_placingTurnedOver 14 = .ok (.iconst 4, 1) := by decide +kernel
theorem dX6_placingTurnedOver_15 : decode cX6_placingTurnedOver 15 = .ok (.idiv, 1) := by decide +kernel
theorem dX6_placingTurnedOver_16 : decode cX6_placingTurnedOver 16 = .ok (.iconst 2, 1) := by decide +kernel
theorem dX6_placingTurnedOver_17 : decode cX6_placingTurnedOver 17 = .ok (.irem, 1) := by decide +kernel
theorem dX6_placingTurnedOver_18 : decode cX6_placingTurnedOver 18 = .ok (.isub, 1) := by decide +kernel
theorem dX6_placingTurnedOver_19 : decode cX6_placingTurnedOver 19 = .ok (.istore_n 2, 1) := by decide +kernel
theorem dX6_placingTurnedOver_20 : decode cX6_placingTurnedOver 20 = .ok (.iconst 4, 1) := by decide +kernel
theorem dX6_placingTurnedOver_21 : decode cX6_placingTurnedOver 21 = .ok (.iload_n 0, 1) := by decide +kernel
theorem dX6_placingTurnedOver_22 : decode cX6_placingTurnedOver 22 = .ok (.iconst 4, 1) := by decide +kernel
theorem dX6_placingTurnedOver_23 : decode cX6_placingTurnedOver 23 = .ok (.irem, 1) := by decide +kernel
theorem dX6_placingTurnedOver_24 : decode cX6_placingTurnedOver 24 = .ok (.isub, 1) := by decide +kernel
theorem dX6_placingTurnedOver_25 : decode cX6_placingTurnedOver 25 = .ok (.iconst 4, 1) := by decide +kernel
theorem dX6_placingTurnedOver_26 : decode cX6_placingTurnedOver 26 = .ok (.irem, 1) := by decide +kernel
theorem dX6_placingTurnedOver_27 : decode cX6_placingTurnedOver 27 = .ok (.istore_n 3, 1) := by decide +kernel
theorem dX6_placingTurnedOver_28 : decode cX6_placingTurnedOver 28 = .ok (.bipush 8, 2) := by decide +kernel
theorem dX6_placingTurnedOver_30 : decode cX6_placingTurnedOver 30 = .ok (.iload_n 1, 1) := by decide +kernel
theorem dX6_placingTurnedOver_31 : decode cX6_placingTurnedOver 31 = .ok (.imul, 1) := by decide +kernel
theorem dX6_placingTurnedOver_32 : decode cX6_placingTurnedOver 32 = .ok (.iconst 4, 1) := by decide +kernel
theorem dX6_placingTurnedOver_33 : decode cX6_placingTurnedOver 33 = .ok (.iload_n 2, 1) := by decide +kernel
theorem dX6_placingTurnedOver_34 : decode cX6_placingTurnedOver 34 = .ok (.imul, 1) := by decide +kernel
theorem dX6_placingTurnedOver_35 : decode cX6_placingTurnedOver 35 = .ok (.iadd, 1) := by decide +kernel
theorem dX6_placingTurnedOver_36 : decode cX6_placingTurnedOver 36 = .ok (.iload_n 3, 1) := by decide +kernel
theorem dX6_placingTurnedOver_37 : decode cX6_placingTurnedOver 37 = .ok (.iadd, 1) := by decide +kernel
theorem dX6_placingTurnedOver_38 : decode cX6_placingTurnedOver 38 = .ok (.ireturn, 1) := by decide +kernel
theorem dJ6_bitCount_0f7a4_0 : decode cJ6_bitCount_0f7a4 0 = .ok (.iload_n 0, 1) := by decide +kernel
theorem dJ6_bitCount_0f7a4_1 : decode cJ6_bitCount_0f7a4 1 = .ok (.iload_n 0, 1) := by decide +kernel
theorem dJ6_bitCount_0f7a4_2 : decode cJ6_bitCount_0f7a4 2 = .ok (.iconst 1, 1) := by decide +kernel
theorem dJ6_bitCount_0f7a4_3 : decode cJ6_bitCount_0f7a4 3 = .ok (.iushr, 1) := by decide +kernel
theorem dJ6_bitCount_0f7a4_4 : decode cJ6_bitCount_0f7a4 4 = .ok (.ldc_w 265, 3) := by decide +kernel
theorem dJ6_bitCount_0f7a4_7 : decode cJ6_bitCount_0f7a4 7 = .ok (.iand, 1) := by decide +kernel
theorem dJ6_bitCount_0f7a4_8 : decode cJ6_bitCount_0f7a4 8 = .ok (.isub, 1) := by decide +kernel
theorem dJ6_bitCount_0f7a4_9 : decode cJ6_bitCount_0f7a4 9 = .ok (.istore_n 0, 1) := by decide +kernel
theorem dJ6_bitCount_0f7a4_10 : decode cJ6_bitCount_0f7a4 10 = .ok (.iload_n 0, 1) := by decide +kernel
theorem dJ6_bitCount_0f7a4_11 : decode cJ6_bitCount_0f7a4 11 = .ok (.ldc_w 266, 3) := by decide +kernel
theorem dJ6_bitCount_0f7a4_14 : decode cJ6_bitCount_0f7a4 14 = .ok (.iand, 1) := by decide +kernel
theorem dJ6_bitCount_0f7a4_15 : decode cJ6_bitCount_0f7a4 15 = .ok (.iload_n 0, 1) := by decide +kernel
theorem dJ6_bitCount_0f7a4_16 : decode cJ6_bitCount_0f7a4 16 = .ok (.iconst 2, 1) := by decide +kernel
theorem dJ6_bitCount_0f7a4_17 : decode cJ6_bitCount_0f7a4 17 = .ok (.iushr, 1) := by decide +kernel
theorem dJ6_bitCount_0f7a4_18 : decode cJ6_bitCount_0f7a4 18 = .ok (.ldc_w 266, 3) := by decide +kernel
theorem dJ6_bitCount_0f7a4_21 : decode cJ6_bitCount_0f7a4 21 = .ok (.iand, 1) := by decide +kernel
theorem dJ6_bitCount_0f7a4_22 : decode cJ6_bitCount_0f7a4 22 = .ok (.iadd, 1) := by decide +kernel
theorem dJ6_bitCount_0f7a4_23 : decode cJ6_bitCount_0f7a4 23 = .ok (.istore_n 0, 1) := by decide +kernel
theorem dJ6_bitCount_0f7a4_24 : decode cJ6_bitCount_0f7a4 24 = .ok (.iload_n 0, 1) := by decide +kernel
theorem dJ6_bitCount_0f7a4_25 : decode cJ6_bitCount_0f7a4 25 = .ok (.iload_n 0, 1) := by decide +kernel
theorem dJ6_bitCount_0f7a4_26 : decode cJ6_bitCount_0f7a4 26 = .ok (.iconst 4, 1) := by decide +kernel
theorem dJ6_bitCount_0f7a4_27 : decode cJ6_bitCount_0f7a4 27 = .ok (.iushr, 1) := by decide +kernel
theorem dJ6_bitCount_0f7a4_28 : decode cJ6_bitCount_0f7a4 28 = .ok (.iadd, 1) := by decide +kernel
theorem dJ6_bitCount_0f7a4_29 : decode cJ6_bitCount_0f7a4 29 = .ok (.ldc_w 267, 3) := by decide +kernel
theorem dJ6_bitCount_0f7a4_32 : decode cJ6_bitCount_0f7a4 32 = .ok (.iand, 1) := by decide +kernel
theorem dJ6_bitCount_0f7a4_33 : decode cJ6_bitCount_0f7a4 33 = .ok (.istore_n 0, 1) := by decide +kernel
theorem dJ6_bitCount_0f7a4_34 : decode cJ6_bitCount_0f7a4 34 = .ok (.iload_n 0, 1) := by decide +kernel
theorem dJ6_bitCount_0f7a4_35 : decode cJ6_bitCount_0f7a4 35 = .ok (.iload_n 0, 1) := by decide +kernel
theorem dJ6_bitCount_0f7a4_36 : decode cJ6_bitCount_0f7a4 36 = .ok (.bipush 8, 2) := by decide +kernel
theorem dJ6_bitCount_0f7a4_38 : decode cJ6_bitCount_0f7a4 38 = .ok (.iushr, 1) := by decide +kernel
theorem dJ6_bitCount_0f7a4_39 : decode cJ6_bitCount_0f7a4 39 = .ok (.iadd, 1) := by decide +kernel
theorem dJ6_bitCount_0f7a4_40 : decode cJ6_bitCount_0f7a4 40 = .ok (.istore_n 0, 1) := by decide +kernel
theorem dJ6_bitCount_0f7a4_41 : decode cJ6_bitCount_0f7a4 41 = .ok (.iload_n 0, 1) := by decide +kernel
theorem dJ6_bitCount_0f7a4_42 : decode cJ6_bitCount_0f7a4 42 = .ok (.iload_n 0, 1) := by decide +kernel
theorem dJ6_bitCount_0f7a4_43 : decode cJ6_bitCount_0f7a4 43 = .ok (.bipush 16, 2) := by decide +kernel
theorem dJ6_bitCount_0f7a4_45 : decode cJ6_bitCount_0f7a4 45 = .ok (.iushr, 1) := by decide +kernel
theorem dJ6_bitCount_0f7a4_46 : decode cJ6_bitCount_0f7a4 46 = .ok (.iadd, 1) := by decide +kernel
theorem dJ6_bitCount_0f7a4_47 : decode cJ6_bitCount_0f7a4 47 = .ok (.istore_n 0, 1) := by decide +kernel
theorem dJ6_bitCount_0f7a4_48 : decode cJ6_bitCount_0f7a4 48 = .ok (.iload_n 0, 1) := by decide +kernel
theorem dJ6_bitCount_0f7a4_49 : decode cJ6_bitCount_0f7a4 49 = .ok (.bipush 63, 2) := by decide +kernel
theorem dJ6_bitCount_0f7a4_51 : decode cJ6_bitCount_0f7a4 51 = .ok (.iand, 1) := by decide +kernel
theorem dJ6_bitCount_0f7a4_52 : decode cJ6_bitCount_0f7a4 52 = .ok (.ireturn, 1) := by decide +kernel
theorem dL_cell_0 : decode cL_cell 0 = .ok (.iload_n 1, 1) := by decide +kernel
theorem dL_cell_1 : decode cL_cell 1 = .ok (.aload_n 0, 1) := by decide +kernel
theorem dL_cell_2 : decode cL_cell 2 = .ok (.arraylength, 1) := by decide +kernel
theorem dL_cell_3 : decode cL_cell 3 = .ok (.if_icmp .ge 9, 3) := by decide +kernel
theorem dL_cell_6 : decode cL_cell 6 = .ok (.aload_n 0, 1) := by decide +kernel
theorem dL_cell_7 : decode cL_cell 7 = .ok (.iload_n 1, 1) := by decide +kernel
theorem dL_cell_8 : decode cL_cell 8 = .ok (.iaload, 1) := by decide +kernel
theorem dL_cell_9 : decode cL_cell 9 = .ok (.goto 9, 3) := by decide +kernel
theorem dL_cell_12 : decode cL_cell 12 = .ok (.ldc 7, 2) := by decide +kernel
theorem dL_cell_14 : decode cL_cell 14 = .ok (.iload_n 1, 1) := by decide +kernel
theorem dL_cell_15 : decode cL_cell 15 = .ok (.iconst 1, 1) := by decide +kernel
theorem dL_cell_16 : decode cL_cell 16 = .ok (.iadd, 1) := by decide +kernel
theorem dL_cell_17 : decode cL_cell 17 = .ok (.imul, 1) := by decide +kernel
theorem dL_cell_18 : decode cL_cell 18 = .ok (.ireturn, 1) := by decide +kernel
theorem dL_at_0 : decode cL_at 0 = .ok (.iload_n 0, 1) := by decide +kernel
theorem dL_at_1 : decode cL_at 1 = .ok (.iconst 1, 1) := by decide +kernel
theorem dL_at_2 : decode cL_at 2 = .ok (.iushr, 1) := by decide +kernel
theorem dL_at_3 : decode cL_at 3 = .ok (.iload_n 1, 1) := by decide +kernel
theorem dL_at_4 : decode cL_at 4 = .ok (.irem, 1) := by decide +kernel
theorem dL_at_5 : decode cL_at 5 = .ok (.ireturn, 1) := by decide +kernel
theorem dL_color_0 : decode cL_color 0 = .ok (.bipush 8, 2) := by decide +kernel
theorem dL_color_2 : decode cL_color 2 = .ok (.iload_n 0, 1) := by decide +kernel
theorem dL_color_3 : decode cL_color 3 = .ok (.bipush 8, 2) := by decide +kernel
theorem dL_color_5 : decode cL_color 5 = .ok (.idiv, 1) := by decide +kernel
theorem dL_color_6 : decode cL_color 6 = .ok (.imul, 1) := by decide +kernel
theorem dL_color_7 : decode cL_color 7 = .ok (.iconst 4, 1) := by decide +kernel
theorem dL_color_8 : decode cL_color 8 = .ok (.iload_n 2, 1) := by decide +kernel
theorem dL_color_9 : decode cL_color 9 = .ok (.ifCond .eq 13, 3) := by decide +kernel
theorem dL_color_12 : decode cL_color 12 = .ok (.iconst 1, 1) := by decide +kernel
theorem dL_color_13 : decode cL_color 13 = .ok (.iload_n 0, 1) := by decide +kernel
theorem dL_color_14 : decode cL_color 14 = .ok (.iconst 4, 1) := by decide +kernel
theorem dL_color_15 : decode cL_color 15 = .ok (.idiv, 1) := by decide +kernel
theorem dL_color_16 : decode cL_color 16 = .ok (.iconst 2, 1) := by decide +kernel
theorem dL_color_17 : decode cL_color 17 = .ok (.irem, 1) := by decide +kernel
theorem dL_color_18 : decode cL_color 18 = .ok (.isub, 1) := by decide +kernel
theorem dL_color_19 : decode cL_color 19 = .ok (.goto 8, 3) := by decide +kernel
theorem dL_color_22 : decode cL_color 22 = .ok (.iload_n 0, 1) := by decide +kernel
theorem dL_color_23 : decode cL_color 23 = .ok (.iconst 4, 1) := by decide +kernel
theorem dL_color_24 : decode cL_color 24 = .ok (.idiv, 1) := by decide +kernel
theorem dL_color_25 : decode cL_color 25 = .ok (.iconst 2, 1) := by decide +kernel
theorem dL_color_26 : decode cL_color 26 = .ok (.irem, 1) := by decide +kernel
theorem dL_color_27 : decode cL_color 27 = .ok (.imul, 1) := by decide +kernel
theorem dL_color_28 : decode cL_color 28 = .ok (.iadd, 1) := by decide +kernel
theorem dL_color_29 : decode cL_color 29 = .ok (.istore 4, 2) := by decide +kernel
theorem dL_color_31 : decode cL_color 31 = .ok (.iload_n 2, 1) := by decide +kernel
theorem dL_color_32 : decode cL_color 32 = .ok (.ifCond .eq 25, 3) := by decide +kernel
theorem dL_color_35 : decode cL_color 35 = .ok (.iload_n 1, 1) := by decide +kernel
theorem dL_color_36 : decode cL_color 36 = .ok (.iconst 1, 1) := by decide +kernel
theorem dL_color_37 : decode cL_color 37 = .ok (.if_icmp .ne 7, 3) := by decide +kernel
theorem dL_color_40 : decode cL_color 40 = .ok (.iconst 3, 1) := by decide +kernel
theorem dL_color_41 : decode cL_color 41 = .ok (.goto 17, 3) := by decide +kernel
theorem dL_color_44 : decode cL_color 44 = .ok (.iload_n 1, 1) := by decide +kernel
theorem dL_color_45 : decode cL_color 45 = .ok (.iconst 3, 1) := by decide +kernel
theorem dL_color_46 : decode cL_color 46 = .ok (.if_icmp .ne 7, 3) := by decide +kernel
theorem dL_color_49 : decode cL_color 49 = .ok (.iconst 1, 1) := by decide +kernel
theorem dL_color_50 : decode cL_color 50 = .ok (.goto 8, 3) := by decide +kernel
theorem dL_color_53 : decode cL_color 53 = .ok (.iload_n 1, 1) := by decide +kernel
theorem dL_color_54 : decode cL_color 54 = .ok (.goto 4, 3) := by decide +kernel
theorem dL_color_57 : decode cL_color 57 = .ok (.iload_n 1, 1) := by decide +kernel
theorem dL_color_58 : decode cL_color 58 = .ok (.istore 5, 2) := by decide +kernel
theorem dL_color_60 : decode cL_color 60 = .ok (.iconst 0, 1) := by decide +kernel
theorem dL_color_61 : decode cL_color 61 = .ok (.istore 6, 2) := by decide +kernel
theorem dL_color_63 : decode cL_color 63 = .ok (.iload 6, 2) := by decide +kernel
theorem dL_color_65 : decode cL_color 65 = .ok (.iload_n 0, 1) := by decide +kernel
theorem dL_color_66 : decode cL_color 66 = .ok (.iconst 4, 1) := by decide +kernel
theorem dL_color_67 : decode cL_color 67 = .ok (.irem, 1) := by decide +kernel
theorem dL_color_68 : decode cL_color 68 = .ok (.if_icmp .ge 45, 3) := by decide +kernel
theorem dL_color_71 : decode cL_color 71 = .ok (.iload_n 2, 1) := by decide +kernel
theorem dL_color_72 : decode cL_color 72 = .ok (.ifCond .eq 20, 3) := by decide +kernel
theorem dL_color_75 : decode cL_color 75 = .ok (.iload 5, 2) := by decide +kernel
theorem dL_color_77 : decode cL_color 77 = .ok (.iconst 3, 1) := by decide +kernel
theorem dL_color_78 : decode cL_color 78 = .ok (.if_icmp .ne 7, 3) := by decide +kernel
theorem dL_color_81 : decode cL_color 81 = .ok (.iconst 0, 1) := by decide +kernel
theorem dL_color_82 : decode cL_color 82 = .ok (.goto 23, 3) := by decide +kernel
theorem dL_color_85 : decode cL_color 85 = .ok (.iload 5, 2) := by decide +kernel
theorem dL_color_87 : decode cL_color 87 = .ok (.iconst 1, 1) := by decide +kernel
theorem dL_color_88 : decode cL_color 88 = .ok (.iadd, 1) := by decide +kernel
theorem dL_color_89 : decode cL_color 89 = .ok (.goto 16, 3) := by decide +kernel
theorem dL_color_92 : decode cL_color 92 = .ok (.iload 5, 2) := by decide +kernel
theorem dL_color_94 : decode cL_color 94 = .ok (.ifCond .ne 7, 3) := by decide +kernel
theorem dL_color_97 : decode cL_color 97 = .ok (.iconst 3, 1) := by decide +kernel
theorem dL_color_98 : decode cL_color 98 = .ok (.goto 7, 3) := by decide +kernel
theorem dL_color_101 : decode cL_color 101 = .ok (.iload 5, 2) := by decide +kernel
theorem dL_color_103 : decode cL_color 103 = .ok (.iconst 1, 1) := by decide +kernel
theorem dL_color_104 : decode cL_color 104 = .ok (.isub, 1) := by decide +kernel
theorem dL_color_105 : decode cL_color 105 = .ok (.istore 5, 2) := by decide +kernel
theorem dL_color_107 : decode cL_color 107 = .ok (.iinc 6 1, 3) := by decide +kernel
theorem dL_color_110 : decode cL_color 110 = .ok (.goto (-47), 3) := by decide +kernel
theorem dL_color_113 : decode cL_color 113 = .ok (.aload_n 3, 1) := by decide +kernel
theorem dL_color_114 : decode cL_color 114 = .ok (.iload 4, 2) := by decide +kernel
theorem dL_color_116 : decode cL_color 116 = .ok (.iload 5, 2) := by decide +kernel
theorem dL_color_118 : decode cL_color 118 = .ok (.iadd, 1) := by decide +kernel
theorem dL_color_119 : decode cL_color 119 = .ok (.iaload, 1) := by decide +kernel
theorem dL_color_120 : decode cL_color 120 = .ok (.ireturn, 1) := by decide +kernel
theorem dL_beyond_0 : decode cL_beyond 0 = .ok (.iload_n 0, 1) := by decide +kernel
theorem dL_beyond_1 : decode cL_beyond 1 = .ok (.aload_n 2, 1) := by decide +kernel
theorem dL_beyond_2 : decode cL_beyond 2 = .ok (.iconst 1, 1) := by decide +kernel
theorem dL_beyond_3 : decode cL_beyond 3 = .ok (.iaload, 1) := by decide +kernel
theorem dL_beyond_4 : decode cL_beyond 4 = .ok (.irem, 1) := by decide +kernel
theorem dL_beyond_5 : decode cL_beyond 5 = .ok (.iload_n 1, 1) := by decide +kernel
theorem dL_beyond_6 : decode cL_beyond 6 = .ok (.iconst 1, 1) := by decide +kernel
theorem dL_beyond_7 : decode cL_beyond 7 = .ok (.if_icmp .ne 7, 3) := by decide +kernel
theorem dL_beyond_10 : decode cL_beyond 10 = .ok (.iconst 1, 1) := by decide +kernel
theorem dL_beyond_11 : decode cL_beyond 11 = .ok (.goto 13, 3) := by decide +kernel
theorem dL_beyond_14 : decode cL_beyond 14 = .ok (.iload_n 1, 1) := by decide +kernel
theorem dL_beyond_15 : decode cL_beyond 15 = .ok (.iconst 3, 1) := by decide +kernel
theorem dL_beyond_16 : decode cL_beyond 16 = .ok (.if_icmp .ne 7, 3) := by decide +kernel
theorem dL_beyond_19 : decode cL_beyond 19 = .ok (.iconst (-1), 1) := by decide +kernel
theorem dL_beyond_20 : decode cL_beyond 20 = .ok (.goto 4, 3) := by decide +kernel
theorem dL_beyond_23 : decode cL_beyond 23 = .ok (.iconst 0, 1) := by decide +kernel
theorem dL_beyond_24 : decode cL_beyond 24 = .ok (.iadd, 1) := by decide +kernel
theorem dL_beyond_25 : decode cL_beyond 25 = .ok (.istore_n 3, 1) := by decide +kernel
theorem dL_beyond_26 : decode cL_beyond 26 = .ok (.iload_n 0, 1) := by decide +kernel
theorem dL_beyond_27 : decode cL_beyond 27 = .ok (.aload_n 2, 1) := by decide +kernel
theorem dL_beyond_28 : decode cL_beyond 28 = .ok (.iconst 1, 1) := by decide +kernel
theorem dL_beyond_29 : decode cL_beyond 29 = .ok (.iaload, 1) := by decide +kernel
theorem dL_beyond_30 : decode cL_beyond 30 = .ok (.idiv, 1) := by decide +kernel
theorem dL_beyond_31 : decode cL_beyond 31 = .ok (.iload_n 1, 1) := by decide +kernel
theorem dL_beyond_32 : decode cL_beyond 32 = .ok (.iconst 2, 1) := by decide +kernel
theorem dL_beyond_33 : decode cL_beyond 33 = .ok (.if_icmp .ne 7, 3) := by decide +kernel
theorem dL_beyond_36 : decode cL_beyond 36 = .ok (.iconst 1, 1) := by decide +kernel
theorem dL_beyond_37 : decode cL_beyond 37 = .ok (.goto 12, 3) := by decide +kernel
theorem dL_beyond_40 : decode cL_beyond 40 = .ok (.iload_n 1, 1) := by decide +kernel
theorem dL_beyond_41 : decode cL_beyond 41 = .ok (.ifCond .ne 7, 3) := by decide +kernel
theorem dL_beyond_44 : decode cL_beyond 44 = .ok (.iconst (-1), 1) := by decide +kernel
theorem dL_beyond_45 : decode cL_beyond 45 = .ok (.goto 4, 3) := by decide +kernel
theorem dL_beyond_48 : decode cL_beyond 48 = .ok (.iconst 0, 1) := by decide +kernel
theorem dL_beyond_49 : decode cL_beyond 49 = .ok (.iadd, 1) := by decide +kernel
theorem dL_beyond_50 : decode cL_beyond 50 = .ok (.istore 4, 2) := by decide +kernel
theorem dL_beyond_52 : decode cL_beyond 52 = .ok (.iload_n 3, 1) := by decide +kernel
theorem dL_beyond_53 : decode cL_beyond 53 = .ok (.ifCond .lt 23, 3) := by decide +kernel
theorem dL_beyond_56 : decode cL_beyond 56 = .ok (.iload 4, 2) := by decide +kernel
theorem dL_beyond_58 : decode cL_beyond 58 = .ok (.ifCond .lt 18, 3) := by decide +kernel
theorem dL_beyond_61 : decode cL_beyond 61 = .ok (.iload_n 3, 1) := by decide +kernel
theorem dL_beyond_62 : decode cL_beyond 62 = .ok (.aload_n 2, 1) := by decide +kernel
theorem dL_beyond_63 : decode cL_beyond 63 = .ok (.iconst 1, 1) := by decide +kernel
theorem dL_beyond_64 : decode cL_beyond 64 = .ok (.iaload, 1) := by decide +kernel
theorem dL_beyond_65 : decode cL_beyond 65 = .ok (.if_icmp .eq 11, 3) := by decide +kernel
theorem dL_beyond_68 : decode cL_beyond 68 = .ok (.iload 4, 2) := by decide +kernel
theorem dL_beyond_70 : decode cL_beyond 70 = .ok (.aload_n 2, 1) := by decide +kernel
theorem dL_beyond_71 : decode cL_beyond 71 = .ok (.iconst 0, 1) := by decide +kernel
theorem dL_beyond_72 : decode cL_beyond 72 = .ok (.iaload, 1) := by decide +kernel
theorem dL_beyond_73 : decode cL_beyond 73 = .ok (.if_icmp .ne 7, 3) := by decide +kernel
theorem dL_beyond_76 : decode cL_beyond 76 = .ok (.iconst (-1), 1) := by decide +kernel
theorem dL_beyond_77 : decode cL_beyond 77 = .ok (.goto 11, 3) := by decide +kernel
theorem dL_beyond_80 : decode cL_beyond 80 = .ok (.iload 4, 2) := by decide +kernel
theorem dL_beyond_82 : decode cL_beyond 82 = .ok (.aload_n 2, 1) := by decide +kernel
theorem dL_beyond_83 : decode cL_beyond 83 = .ok (.iconst 1, 1) := by decide +kernel
theorem dL_beyond_84 : decode cL_beyond 84 = .ok (.iaload, 1) := by decide +kernel
theorem dL_beyond_85 : decode cL_beyond 85 = .ok (.imul, 1) := by decide +kernel
theorem dL_beyond_86 : decode cL_beyond 86 = .ok (.iload_n 3, 1) := by decide +kernel
theorem dL_beyond_87 : decode cL_beyond 87 = .ok (.iadd, 1) := by decide +kernel
theorem dL_beyond_88 : decode cL_beyond 88 = .ok (.ireturn, 1) := by decide +kernel
set_option maxRecDepth 20000 in
theorem ggL_fits_L_color : GoodIn wsL_fits wsL_color := goodIn_r _ [4] (by decide +kernel) (by decide +kernel)
set_option maxRecDepth 20000 in
theorem gL_fits_L_color : GoodIn wsL_fits (va_wsS RL 8 yL_color wsL_color) := goodIn_app (goodIn_of _ (by decide +kernel)) ggL_fits_L_color
set_option maxRecDepth 20000 in
theorem ggL_fits_L_beyond : GoodIn wsL_fits wsL_beyond := goodIn_r _ [7] (by decide +kernel) (by decide +kernel)
set_option maxRecDepth 20000 in
theorem gL_fits_L_beyond : GoodIn wsL_fits (va_wsS RL 14 yL_beyond wsL_beyond) := goodIn_app (goodIn_of _ (by decide +kernel)) ggL_fits_L_beyond
theorem dL_fits_0 : decode cL_fits 0 = .ok (.bipush 9, 2) := by decide +kernel
theorem dL_fits_2 : decode cL_fits 2 = .ok (.istore 4, 2) := by decide +kernel
theorem dL_fits_4 : decode cL_fits 4 = .ok (.iconst 0, 1) := by decide +kernel
theorem dL_fits_5 : decode cL_fits 5 = .ok (.istore 5, 2) := by decide +kernel
theorem dL_fits_7 : decode cL_fits 7 = .ok (.iload 5, 2) := by decide +kernel
theorem dL_fits_9 : decode cL_fits 9 = .ok (.iconst 4, 1) := by decide +kernel
theorem dL_fits_10 : decode cL_fits 10 = .ok (.if_icmp .ge 201, 3) := by decide +kernel
theorem dL_fits_13 : decode cL_fits 13 = .ok (.iload_n 1, 1) := by decide +kernel
theorem dL_fits_14 : decode cL_fits 14 = .ok (.iload 5, 2) := by decide +kernel
theorem dL_fits_16 : decode cL_fits 16 = .ok (.iconst 0, 1) := by decide +kernel
theorem dL_fits_17 : decode cL_fits 17 = .ok (.aload_n 3, 1) := by decide +kernel
theorem dL_fits_18 : decode cL_fits 18 = .ok (.invokestatic 8, 3) := by decide +kernel
theorem dL_fits_21 : decode cL_fits 21 = .ok (.istore 6, 2) := by decide +kernel
theorem dL_fits_23 : decode cL_fits 23 = .ok (.iload_n 1, 1) := by decide +kernel
theorem dL_fits_24 : decode cL_fits 24 = .ok (.iload 5, 2) := by decide +kernel
theorem dL_fits_26 : decode cL_fits 26 = .ok (.iconst 1, 1) := by decide +kernel
theorem dL_fits_27 : decode cL_fits 27 = .ok (.aload_n 3, 1) := by decide +kernel
theorem dL_fits_28 : decode cL_fits 28 = .ok (.invokestatic 8, 3) := by decide +kernel
theorem dL_fits_31 : decode cL_fits 31 = .ok (.istore 7, 2) := by decide +kernel
theorem dL_fits_33 : decode cL_fits 33 = .ok (.iload_n 0, 1) := by decide +kernel
theorem dL_fits_34 : decode cL_fits 34 = .ok (.iload 5, 2) := by decide +kernel
theorem dL_fits_36 : decode cL_fits 36 = .ok (.aload_n 2, 1) := by decide +kernel
theorem dL_fits_37 : decode cL_fits 37 = .ok (.invokestatic 14, 3) := by decide +kernel
theorem dL_fits_40 : decode cL_fits 40 = .ok (.istore 8, 2) := by decide +kernel
theorem dL_fits_42 : decode cL_fits 42 = .ok (.bipush 9, 2) := by decide +kernel
theorem dL_fits_44 : decode cL_fits 44 = .ok (.istore 9, 2) := by decide +kernel
theorem dL_fits_46 : decode cL_fits 46 = .ok (.iload 8, 2) := by decide +kernel
theorem dL_fits_48 : decode cL_fits 48 = .ok (.ifCond .ge 37, 3) := by decide +kernel
theorem dL_fits_51 : decode cL_fits 51 = .ok (.aload_n 2, 1) := by decide +kernel
theorem dL_fits_52 : decode cL_fits 52 = .ok (.iconst 2, 1) := by decide +kernel
theorem dL_fits_53 : decode cL_fits 53 = .ok (.iaload, 1) := by decide +kernel
theorem dL_fits_54 : decode cL_fits 54 = .ok (.ifCond .le 8, 3) := by decide +kernel
theorem dL_fits_57 : decode cL_fits 57 = .ok (.iload 6, 2) := by decide +kernel
theorem dL_fits_59 : decode cL_fits 59 = .ok (.ifCond .gt 15, 3) := by decide +kernel
theorem dL_fits_62 : decode cL_fits 62 = .ok (.aload_n 2, 1) := by decide +kernel
theorem dL_fits_63 : decode cL_fits 63 = .ok (.iconst 2, 1) := by decide +kernel
theorem dL_fits_64 : decode cL_fits 64 = .ok (.iaload, 1) := by decide +kernel
theorem dL_fits_65 : decode cL_fits 65 = .ok (.iconst 2, 1) := by decide +kernel
theorem dL_fits_66 : decode cL_fits 66 = .ok (.if_icmp .ne 12, 3) := by decide +kernel
theorem dL_fits_69 : decode cL_fits 69 = .ok (.iload 7, 2) := by decide +kernel
theorem dL_fits_71 : decode cL_fits 71 = .ok (.ifCond .le 7, 3) := by decide +kernel
theorem dL_fits_74 : decode cL_fits 74 = .ok (.iconst 3, 1) := by decide +kernel
theorem dL_fits_75 : decode cL_fits 75 = .ok (.goto 5, 3) := by decide +kernel
theorem dL_fits_78 : decode cL_fits 78 = .ok (.bipush 9, 2) := by decide +kernel
theorem dL_fits_80 : decode cL_fits 80 = .ok (.istore 9, 2) := by decide +kernel
theorem dL_fits_82 : decode cL_fits 82 = .ok (.goto 107, 3) := by decide +kernel
theorem dL_fits_85 : decode cL_fits 85 = .ok (.aload_n 2, 1) := by decide +kernel
theorem dL_fits_86 : decode cL_fits 86 = .ok (.iconst 4, 1) := by decide +kernel
theorem dL_fits_87 : decode cL_fits 87 = .ok (.iload 8, 2) := by decide +kernel
theorem dL_fits_89 : decode cL_fits 89 = .ok (.iadd, 1) := by decide +kernel
theorem dL_fits_90 : decode cL_fits 90 = .ok (.iaload, 1) := by decide +kernel
theorem dL_fits_91 : decode cL_fits 91 = .ok (.ifCond .lt 98, 3) := by decide +kernel
theorem dL_fits_94 : decode cL_fits 94 = .ok (.iload 5, 2) := by decide +kernel
theorem dL_fits_96 : decode cL_fits 96 = .ok (.iconst 2, 1) := by decide +kernel
theorem dL_fits_97 : decode cL_fits 97 = .ok (.if_icmp .ge 10, 3) := by decide +kernel
theorem dL_fits_100 : decode cL_fits 100 = .ok (.iload 5, 2) := by decide +kernel
theorem dL_fits_102 : decode cL_fits 102 = .ok (.iconst 2, 1) := by decide +kernel
theorem dL_fits_103 : decode cL_fits 103 = .ok (.iadd, 1) := by decide +kernel
theorem dL_fits_104 : decode cL_fits 104 = .ok (.goto 7, 3) := by decide +kernel
theorem dL_fits_107 : decode cL_fits 107 = .ok (.iload 5, 2) := by decide +kernel
theorem dL_fits_109 : decode cL_fits 109 = .ok (.iconst 2, 1) := by decide +kernel
theorem dL_fits_110 : decode cL_fits 110 = .ok (.isub, 1) := by decide +kernel
theorem dL_fits_111 : decode cL_fits 111 = .ok (.istore 10, 2) := by decide +kernel
theorem dL_fits_113 : decode cL_fits 113 = .ok (.aload_n 2, 1) := by decide +kernel
theorem dL_fits_114 : decode cL_fits 114 = .ok (.iconst 4, 1) := by decide +kernel
theorem dL_fits_115 : decode cL_fits 115 = .ok (.iload 8, 2) := by decide +kernel
theorem dL_fits_117 : decode cL_fits 117 = .ok (.iadd, 1) := by decide +kernel
theorem dL_fits_118 : decode cL_fits 118 = .ok (.iaload, 1) := by decide +kernel
theorem dL_fits_119 : decode cL_fits 119 = .ok (.iload 10, 2) := by decide +kernel
theorem dL_fits_121 : decode cL_fits 121 = .ok (.iconst 0, 1) := by decide +kernel
theorem dL_fits_122 : decode cL_fits 122 = .ok (.aload_n 3, 1) := by decide +kernel
theorem dL_fits_123 : decode cL_fits 123 = .ok (.invokestatic 8, 3) := by decide +kernel
theorem dL_fits_126 : decode cL_fits 126 = .ok (.iload 6, 2) := by decide +kernel
theorem dL_fits_128 : decode cL_fits 128 = .ok (.if_icmp .eq 7, 3) := by decide +kernel
theorem dL_fits_131 : decode cL_fits 131 = .ok (.iconst 4, 1) := by decide +kernel
theorem dL_fits_132 : decode cL_fits 132 = .ok (.goto 55, 3) := by decide +kernel
theorem dL_fits_135 : decode cL_fits 135 = .ok (.aload_n 2, 1) := by decide +kernel
theorem dL_fits_136 : decode cL_fits 136 = .ok (.iconst 4, 1) := by decide +kernel
theorem dL_fits_137 : decode cL_fits 137 = .ok (.iload 8, 2) := by decide +kernel
theorem dL_fits_139 : decode cL_fits 139 = .ok (.iadd, 1) := by decide +kernel
theorem dL_fits_140 : decode cL_fits 140 = .ok (.iaload, 1) := by decide +kernel
theorem dL_fits_141 : decode cL_fits 141 = .ok (.iload 10, 2) := by decide +kernel
theorem dL_fits_143 : decode cL_fits 143 = .ok (.iconst 1, 1) := by decide +kernel
theorem dL_fits_144 : decode cL_fits 144 = .ok (.aload_n 3, 1) := by decide +kernel
theorem dL_fits_145 : decode cL_fits 145 = .ok (.invokestatic 8, 3) := by decide +kernel
