set_option maxRecDepth 20000 in
theorem gX7_dropTile_X7_save : GoodIn wsX7_dropTile (wsV RX7 104 RX7 yX7_save wsX7_save) := goodIn_app (goodIn_of _ (by decide +kernel)) ggX7_dropTile_X7_save
theorem dX7_dropTile_0 : decode cX7_dropTile 0 = .ok (.aload_n 0, 1) := by decide +kernel
theorem dX7_dropTile_1 : decode cX7_dropTile 1 = .ok (.aload_n 0, 1) := by decide +kernel
theorem dX7_dropTile_2 : decode cX7_dropTile 2 = .ok (.getfield 7, 3) := by decide +kernel
theorem dX7_dropTile_5 : decode cX7_dropTile 5 = .ok (.iconst 3, 1) := by decide +kernel
theorem dX7_dropTile_6 : decode cX7_dropTile 6 = .ok (.iaload, 1) := by decide +kernel
theorem dX7_dropTile_7 : decode cX7_dropTile 7 = .ok (.ifCond .le 23, 3) := by decide +kernel
theorem dX7_dropTile_10 : decode cX7_dropTile 10 = .ok (.aload_n 0, 1) := by decide +kernel
theorem dX7_dropTile_11 : decode cX7_dropTile 11 = .ok (.aload_n 0, 1) := by decide +kernel
theorem dX7_dropTile_12 : decode cX7_dropTile 12 = .ok (.getfield 7, 3) := by decide +kernel
theorem dX7_dropTile_15 : decode cX7_dropTile 15 = .ok (.iconst 3, 1) := by decide +kernel
theorem dX7_dropTile_16 : decode cX7_dropTile 16 = .ok (.iaload, 1) := by decide +kernel
theorem dX7_dropTile_17 : decode cX7_dropTile 17 = .ok (.iconst 1, 1) := by decide +kernel
theorem dX7_dropTile_18 : decode cX7_dropTile 18 = .ok (.isub, 1) := by decide +kernel
theorem dX7_dropTile_19 : decode cX7_dropTile 19 = .ok (.invokevirtual 75, 3) := by decide +kernel
theorem dX7_dropTile_22 : decode cX7_dropTile 22 = .ok (.iconst (-1), 1) := by decide +kernel
theorem dX7_dropTile_23 : decode cX7_dropTile 23 = .ok (.if_icmp .ne 7, 3) := by decide +kernel
theorem dX7_dropTile_26 : decode cX7_dropTile 26 = .ok (.iconst 0, 1) := by decide +kernel
theorem dX7_dropTile_27 : decode cX7_dropTile 27 = .ok (.goto 4, 3) := by decide +kernel
theorem dX7_dropTile_30 : decode cX7_dropTile 30 = .ok (.iconst 1, 1) := by decide +kernel
theorem dX7_dropTile_31 : decode cX7_dropTile 31 = .ok (.putfield 34, 3) := by decide +kernel
theorem dX7_dropTile_34 : decode cX7_dropTile 34 = .ok (.aload_n 0, 1) := by decide +kernel
theorem dX7_dropTile_35 : decode cX7_dropTile 35 = .ok (.getfield 34, 3) := by decide +kernel
theorem dX7_dropTile_38 : decode cX7_dropTile 38 = .ok (.ifCond .le 5, 3) := by decide +kernel
theorem dX7_dropTile_41 : decode cX7_dropTile 41 = .ok (.iconst 0, 1) := by decide +kernel
theorem dX7_dropTile_42 : decode cX7_dropTile 42 = .ok (.ireturn, 1) := by decide +kernel
theorem dX7_dropTile_43 : decode cX7_dropTile 43 = .ok (.aload_n 0, 1) := by decide +kernel
theorem dX7_dropTile_44 : decode cX7_dropTile 44 = .ok (.invokevirtual 104, 3) := by decide +kernel
theorem dX7_dropTile_47 : decode cX7_dropTile 47 = .ok (.aload_n 0, 1) := by decide +kernel
theorem dX7_dropTile_48 : decode cX7_dropTile 48 = .ok (.getfield 7, 3) := by decide +kernel
theorem dX7_dropTile_51 : decode cX7_dropTile 51 = .ok (.iconst 3, 1) := by decide +kernel
theorem dX7_dropTile_52 : decode cX7_dropTile 52 = .ok (.dup2, 1) := by decide +kernel
theorem dX7_dropTile_53 : decode cX7_dropTile 53 = .ok (.iaload, 1) := by decide +kernel
theorem dX7_dropTile_54 : decode cX7_dropTile 54 = .ok (.iconst 1, 1) := by decide +kernel
theorem dX7_dropTile_55 : decode cX7_dropTile 55 = .ok (.isub, 1) := by decide +kernel
theorem dX7_dropTile_56 : decode cX7_dropTile 56 = .ok (.iastore, 1) := by decide +kernel
theorem dX7_dropTile_57 : decode cX7_dropTile 57 = .ok (.aload_n 0, 1) := by decide +kernel
theorem dX7_dropTile_58 : decode cX7_dropTile 58 = .ok (.getfield 7, 3) := by decide +kernel
theorem dX7_dropTile_61 : decode cX7_dropTile 61 = .ok (.iconst 3, 1) := by decide +kernel
theorem dX7_dropTile_62 : decode cX7_dropTile 62 = .ok (.iaload, 1) := by decide +kernel
theorem dX7_dropTile_63 : decode cX7_dropTile 63 = .ok (.ireturn, 1) := by decide +kernel
set_option maxRecDepth 20000 in
theorem ggX7_setRule_X7_within : GoodIn wsX7_setRule wsX7_within := goodIn_r _ [6] (by decide +kernel) (by decide +kernel)
set_option maxRecDepth 20000 in
theorem gX7_setRule_X7_within : GoodIn wsX7_setRule (va_wsS RX7 42 yX7_within wsX7_within) := goodIn_app (goodIn_of _ (by decide +kernel)) ggX7_setRule_X7_within
set_option maxRecDepth 20000 in
theorem ggX7_setRule_X7_save : GoodIn wsX7_setRule wsX7_save := goodIn_r _ [10, 11, 12, 2, 13, 14, 15, 16, 17, 18, 19, 20, 21, 22, 23, 24, 25, 26, 27, 28] (by decide +kernel) (by decide +kernel)
set_option maxRecDepth 20000 in
theorem gX7_setRule_X7_save : GoodIn wsX7_setRule (wsV RX7 104 RX7 yX7_save wsX7_save) := goodIn_app (goodIn_of _ (by decide +kernel)) ggX7_setRule_X7_save
theorem dX7_setRule_0 : decode cX7_setRule 0 = .ok (.aload_n 0, 1) := by decide +kernel
theorem dX7_setRule_1 : decode cX7_setRule 1 = .ok (.iload_n 1, 1) := by decide +kernel
theorem dX7_setRule_2 : decode cX7_setRule 2 = .ok (.iconst 0, 1) := by decide +kernel
theorem dX7_setRule_3 : decode cX7_setRule 3 = .ok (.iconst 2, 1) := by decide +kernel
theorem dX7_setRule_4 : decode cX7_setRule 4 = .ok (.invokestatic 42, 3) := by decide +kernel
theorem dX7_setRule_7 : decode cX7_setRule 7 = .ok (.ifCond .eq 7, 3) := by decide +kernel
theorem dX7_setRule_10 : decode cX7_setRule 10 = .ok (.iconst 0, 1) := by decide +kernel
theorem dX7_setRule_11 : decode cX7_setRule 11 = .ok (.goto 4, 3) := by decide +kernel
theorem dX7_setRule_14 : decode cX7_setRule 14 = .ok (.iconst 1, 1) := by decide +kernel
theorem dX7_setRule_15 : decode cX7_setRule 15 = .ok (.putfield 34, 3) := by decide +kernel
theorem dX7_setRule_18 : decode cX7_setRule 18 = .ok (.aload_n 0, 1) := by decide +kernel
theorem dX7_setRule_19 : decode cX7_setRule 19 = .ok (.getfield 34, 3) := by decide +kernel
theorem dX7_setRule_22 : decode cX7_setRule 22 = .ok (.ifCond .le 5, 3) := by decide +kernel
theorem dX7_setRule_25 : decode cX7_setRule 25 = .ok (.iconst 0, 1) := by decide +kernel
theorem dX7_setRule_26 : decode cX7_setRule 26 = .ok (.ireturn, 1) := by decide +kernel
theorem dX7_setRule_27 : decode cX7_setRule 27 = .ok (.aload_n 0, 1) := by decide +kernel
theorem dX7_setRule_28 : decode cX7_setRule 28 = .ok (.invokevirtual 104, 3) := by decide +kernel
theorem dX7_setRule_31 : decode cX7_setRule 31 = .ok (.aload_n 0, 1) := by decide +kernel
theorem dX7_setRule_32 : decode cX7_setRule 32 = .ok (.getfield 7, 3) := by decide +kernel
theorem dX7_setRule_35 : decode cX7_setRule 35 = .ok (.iconst 2, 1) := by decide +kernel
theorem dX7_setRule_36 : decode cX7_setRule 36 = .ok (.iaload, 1) := by decide +kernel
theorem dX7_setRule_37 : decode cX7_setRule 37 = .ok (.istore_n 2, 1) := by decide +kernel
theorem dX7_setRule_38 : decode cX7_setRule 38 = .ok (.aload_n 0, 1) := by decide +kernel
theorem dX7_setRule_39 : decode cX7_setRule 39 = .ok (.getfield 7, 3) := by decide +kernel
theorem dX7_setRule_42 : decode cX7_setRule 42 = .ok (.iconst 2, 1) := by decide +kernel
theorem dX7_setRule_43 : decode cX7_setRule 43 = .ok (.iload_n 1, 1) := by decide +kernel
theorem dX7_setRule_44 : decode cX7_setRule 44 = .ok (.iastore, 1) := by decide +kernel
theorem dX7_setRule_45 : decode cX7_setRule 45 = .ok (.iload_n 2, 1) := by decide +kernel
theorem dX7_setRule_46 : decode cX7_setRule 46 = .ok (.ireturn, 1) := by decide +kernel
theorem dX7_drawColor_0 : decode cX7_drawColor 0 = .ok (.aload_n 0, 1) := by decide +kernel
theorem dX7_drawColor_1 : decode cX7_drawColor 1 = .ok (.aload_n 0, 1) := by decide +kernel
theorem dX7_drawColor_2 : decode cX7_drawColor 2 = .ok (.getfield 111, 3) := by decide +kernel
theorem dX7_drawColor_5 : decode cX7_drawColor 5 = .ok (.ifCond .ne 7, 3) := by decide +kernel
theorem dX7_drawColor_8 : decode cX7_drawColor 8 = .ok (.iload_n 1, 1) := by decide +kernel
theorem dX7_drawColor_9 : decode cX7_drawColor 9 = .ok (.goto 7, 3) := by decide +kernel
theorem dX7_drawColor_12 : decode cX7_drawColor 12 = .ok (.aload_n 0, 1) := by decide +kernel
theorem dX7_drawColor_13 : decode cX7_drawColor 13 = .ok (.getfield 111, 3) := by decide +kernel
theorem dX7_drawColor_16 : decode cX7_drawColor 16 = .ok (.putfield 111, 3) := by decide +kernel
theorem dX7_drawColor_19 : decode cX7_drawColor 19 = .ok (.aload_n 0, 1) := by decide +kernel
theorem dX7_drawColor_20 : decode cX7_drawColor 20 = .ok (.getfield 111, 3) := by decide +kernel
theorem dX7_drawColor_23 : decode cX7_drawColor 23 = .ok (.bipush 10, 2) := by decide +kernel
theorem dX7_drawColor_25 : decode cX7_drawColor 25 = .ok (.irem, 1) := by decide +kernel
theorem dX7_drawColor_26 : decode cX7_drawColor 26 = .ok (.istore_n 3, 1) := by decide +kernel
theorem dX7_drawColor_27 : decode cX7_drawColor 27 = .ok (.aload_n 0, 1) := by decide +kernel
theorem dX7_drawColor_28 : decode cX7_drawColor 28 = .ok (.dup, 1) := by decide +kernel
theorem dX7_drawColor_29 : decode cX7_drawColor 29 = .ok (.getfield 111, 3) := by decide +kernel
theorem dX7_drawColor_32 : decode cX7_drawColor 32 = .ok (.bipush 10, 2) := by decide +kernel
theorem dX7_drawColor_34 : decode cX7_drawColor 34 = .ok (.idiv, 1) := by decide +kernel
theorem dX7_drawColor_35 : decode cX7_drawColor 35 = .ok (.putfield 111, 3) := by decide +kernel
theorem dX7_drawColor_38 : decode cX7_drawColor 38 = .ok (.iconst 1, 1) := by decide +kernel
theorem dX7_drawColor_39 : decode cX7_drawColor 39 = .ok (.iload_n 3, 1) := by decide +kernel
theorem dX7_drawColor_40 : decode cX7_drawColor 40 = .ok (.iload_n 2, 1) := by decide +kernel
theorem dX7_drawColor_41 : decode cX7_drawColor 41 = .ok (.irem, 1) := by decide +kernel
theorem dX7_drawColor_42 : decode cX7_drawColor 42 = .ok (.iadd, 1) := by decide +kernel
theorem dX7_drawColor_43 : decode cX7_drawColor 43 = .ok (.ireturn, 1) := by decide +kernel
set_option maxRecDepth 20000 in
theorem ggX7_drawSide_X7_beyond : GoodIn wsX7_drawSide wsX7_beyond := goodIn_r _ [6, 7, 13, 14, 15, 16, 17, 18, 19, 20, 21, 22, 23, 24, 25, 26, 27, 28] (by decide +kernel) (by decide +kernel)
set_option maxRecDepth 20000 in
theorem gX7_drawSide_X7_beyond : GoodIn wsX7_drawSide (wsV RX7 54 RX7 yX7_beyond wsX7_beyond) := goodIn_app (goodIn_of _ (by decide +kernel)) ggX7_drawSide_X7_beyond
set_option maxRecDepth 20000 in
theorem ggX7_drawSide_X7_drawColor : GoodIn wsX7_drawSide wsX7_drawColor := goodIn_r _ [11, 12, 13, 14, 15, 16, 17, 18, 19, 20, 21, 22, 23, 24, 25, 26, 27, 28] (by decide +kernel) (by decide +kernel)
set_option maxRecDepth 20000 in
theorem gX7_drawSide_X7_drawColor : GoodIn wsX7_drawSide (wsV RX7 114 RX7 yX7_drawColor wsX7_drawColor) := goodIn_app (goodIn_of _ (by decide +kernel)) ggX7_drawSide_X7_drawColor
theorem dX7_drawSide_0 : decode cX7_drawSide 0 = .ok (.aload_n 0, 1) := by decide +kernel
theorem dX7_drawSide_1 : decode cX7_drawSide 1 = .ok (.iload_n 1, 1) := by decide +kernel
theorem dX7_drawSide_2 : decode cX7_drawSide 2 = .ok (.iload_n 2, 1) := by decide +kernel
theorem dX7_drawSide_3 : decode cX7_drawSide 3 = .ok (.invokevirtual 54, 3) := by decide +kernel
theorem dX7_drawSide_6 : decode cX7_drawSide 6 = .ok (.istore 5, 2) := by decide +kernel
theorem dX7_drawSide_8 : decode cX7_drawSide 8 = .ok (.iconst 0, 1) := by decide +kernel
theorem dX7_drawSide_9 : decode cX7_drawSide 9 = .ok (.istore 6, 2) := by decide +kernel
theorem dX7_drawSide_11 : decode cX7_drawSide 11 = .ok (.iload 6, 2) := by decide +kernel
theorem dX7_drawSide_13 : decode cX7_drawSide 13 = .ok (.bipush 8, 2) := by decide +kernel
theorem dX7_drawSide_15 : decode cX7_drawSide 15 = .ok (.if_icmp .ge 61, 3) := by decide +kernel
theorem dX7_drawSide_18 : decode cX7_drawSide 18 = .ok (.iload 5, 2) := by decide +kernel
theorem dX7_drawSide_20 : decode cX7_drawSide 20 = .ok (.iconst (-1), 1) := by decide +kernel
theorem dX7_drawSide_21 : decode cX7_drawSide 21 = .ok (.if_icmp .eq 55, 3) := by decide +kernel
theorem dX7_drawSide_24 : decode cX7_drawSide 24 = .ok (.aload_n 0, 1) := by decide +kernel
theorem dX7_drawSide_25 : decode cX7_drawSide 25 = .ok (.iload_n 3, 1) := by decide +kernel
theorem dX7_drawSide_26 : decode cX7_drawSide 26 = .ok (.iload 4, 2) := by decide +kernel
theorem dX7_drawSide_28 : decode cX7_drawSide 28 = .ok (.invokevirtual 114, 3) := by decide +kernel
theorem dX7_drawSide_31 : decode cX7_drawSide 31 = .ok (.istore 7, 2) := by decide +kernel
theorem dX7_drawSide_33 : decode cX7_drawSide 33 = .ok (.aload_n 0, 1) := by decide +kernel
theorem dX7_drawSide_34 : decode cX7_drawSide 34 = .ok (.getfield 22, 3) := by decide +kernel
theorem dX7_drawSide_37 : decode cX7_drawSide 37 = .ok (.bipush 8, 2) := by decide +kernel
theorem dX7_drawSide_39 : decode cX7_drawSide 39 = .ok (.iload_n 1, 1) := by decide +kernel
theorem dX7_drawSide_40 : decode cX7_drawSide 40 = .ok (.imul, 1) := by decide +kernel
theorem dX7_drawSide_41 : decode cX7_drawSide 41 = .ok (.iload 6, 2) := by decide +kernel
theorem dX7_drawSide_43 : decode cX7_drawSide 43 = .ok (.iadd, 1) := by decide +kernel
theorem dX7_drawSide_44 : decode cX7_drawSide 44 = .ok (.iload_n 2, 1) := by decide +kernel
theorem dX7_drawSide_45 : decode cX7_drawSide 45 = .ok (.iadd, 1) := by decide +kernel
theorem dX7_drawSide_46 : decode cX7_drawSide 46 = .ok (.iload 7, 2) := by decide +kernel
theorem dX7_drawSide_48 : decode cX7_drawSide 48 = .ok (.iastore, 1) := by decide +kernel
theorem dX7_drawSide_49 : decode cX7_drawSide 49 = .ok (.aload_n 0, 1) := by decide +kernel
theorem dX7_drawSide_50 : decode cX7_drawSide 50 = .ok (.getfield 22, 3) := by decide +kernel
theorem dX7_drawSide_53 : decode cX7_drawSide 53 = .ok (.bipush 8, 2) := by decide +kernel
theorem dX7_drawSide_55 : decode cX7_drawSide 55 = .ok (.iload 5, 2) := by decide +kernel
theorem dX7_drawSide_57 : decode cX7_drawSide 57 = .ok (.imul, 1) := by decide +kernel
theorem dX7_drawSide_58 : decode cX7_drawSide 58 = .ok (.iload 6, 2) := by decide +kernel
theorem dX7_drawSide_60 : decode cX7_drawSide 60 = .ok (.iadd, 1) := by decide +kernel
theorem dX7_drawSide_61 : decode cX7_drawSide 61 = .ok (.iload_n 2, 1) := by decide +kernel
theorem dX7_drawSide_62 : decode cX7_drawSide 62 = .ok (.iconst 2, 1) := by decide +kernel
theorem dX7_drawSide_63 : decode cX7_drawSide 63 = .ok (.iadd, 1) := by decide +kernel
theorem dX7_drawSide_64 : decode cX7_drawSide 64 = .ok (.iconst 4, 1) := by decide +kernel
theorem dX7_drawSide_65 : decode cX7_drawSide 65 = .ok (.irem, 1) := by decide +kernel
theorem dX7_drawSide_66 : decode cX7_drawSide 66 = .ok (.iadd, 1) := by decide +kernel
theorem dX7_drawSide_67 : decode cX7_drawSide 67 = .ok (.iload 7, 2) := by decide +kernel
theorem dX7_drawSide_69 : decode cX7_drawSide 69 = .ok (.iastore, 1) := by decide +kernel
theorem dX7_drawSide_70 : decode cX7_drawSide 70 = .ok (.iinc 6 4, 3) := by decide +kernel
theorem dX7_drawSide_73 : decode cX7_drawSide 73 = .ok (.goto (-62), 3) := by decide +kernel
theorem dX7_drawSide_76 : decode cX7_drawSide 76 = .ok (.return_, 1) := by decide +kernel
set_option maxRecDepth 20000 in
theorem ggX7_cut_X7_within : GoodIn wsX7_cut wsX7_within := goodIn_r _ [9] (by decide +kernel) (by decide +kernel)
set_option maxRecDepth 20000 in
theorem gX7_cut_X7_within : GoodIn wsX7_cut (va_wsS RX7 42 yX7_within wsX7_within) := goodIn_app (goodIn_of _ (by decide +kernel)) ggX7_cut_X7_within
set_option maxRecDepth 20000 in
theorem ggX7_cut_X7_save : GoodIn wsX7_cut wsX7_save := goodIn_r _ [13, 14, 15, 5, 40, 41, 42, 43, 44, 45, 46, 47, 48, 49, 50, 51, 52, 53, 54, 55] (by decide +kernel) (by decide +kernel)
set_option maxRecDepth 20000 in
theorem gX7_cut_X7_save : GoodIn wsX7_cut (wsV RX7 104 RX7 yX7_save wsX7_save) := goodIn_app (goodIn_of _ (by decide +kernel)) ggX7_cut_X7_save
set_option maxRecDepth 20000 in
theorem ggX7_cut_X7_emptyBoard : GoodIn wsX7_cut wsX7_emptyBoard := goodIn_r _ [19, 5, 40, 41, 42, 43, 44, 45, 46, 47, 48, 49, 50, 51, 52, 53, 54, 55] (by decide +kernel) (by decide +kernel)
set_option maxRecDepth 20000 in
theorem gX7_cut_X7_emptyBoard : GoodIn wsX7_cut (wsV RX7 31 RX7 yX7_emptyBoard wsX7_emptyBoard) := goodIn_app (goodIn_of _ (by decide +kernel)) ggX7_cut_X7_emptyBoard
set_option maxRecDepth 20000 in
theorem ggX7_cut_X7_cells : GoodIn wsX7_cut wsX7_cells := goodIn_r _ [23, 5, 40, 41, 42, 43, 44, 45, 46, 47, 48, 49, 50, 51, 52, 53, 54, 55] (by decide +kernel) (by decide +kernel)
set_option maxRecDepth 20000 in
theorem gX7_cut_X7_cells : GoodIn wsX7_cut (wsV RX7 38 RX7 yX7_cells wsX7_cells) := goodIn_app (goodIn_of _ (by decide +kernel)) ggX7_cut_X7_cells
set_option maxRecDepth 20000 in
theorem ggX7_cut_X7_drawSide : GoodIn wsX7_cut wsX7_drawSide := goodIn_r _ [27, 4, 28, 29, 30, 8, 31, 5, 32, 33, 34, 35, 3, 40, 41, 42, 43, 44, 45, 46, 47, 48, 49, 50, 51, 52, 53, 54, 55] (by decide +kernel) (by decide +kernel)
set_option maxRecDepth 20000 in
theorem gX7_cut_X7_drawSide : GoodIn wsX7_cut (wsV RX7 118 RX7 yX7_drawSide wsX7_drawSide) := goodIn_app (goodIn_of _ (by decide +kernel)) ggX7_cut_X7_drawSide
set_option maxRecDepth 20000 in
theorem ggX7_cut_X7_bring : GoodIn wsX7_cut wsX7_bring := goodIn_r _ [39, 5, 40, 41, 42, 43, 44, 45, 46, 47, 48, 49, 50, 51, 52, 53, 54, 55] (by decide +kernel) (by decide +kernel)
set_option maxRecDepth 20000 in
theorem gX7_cut_X7_bring : GoodIn wsX7_cut (wsV RX7 107 RX7 yX7_bring wsX7_bring) := goodIn_app (goodIn_of _ (by decide +kernel)) ggX7_cut_X7_bring
theorem dX7_cut_0 : decode cX7_cut 0 = .ok (.aload_n 0, 1) := by decide +kernel
theorem dX7_cut_1 : decode cX7_cut 1 = .ok (.iload_n 1, 1) := by decide +kernel
theorem dX7_cut_2 : decode cX7_cut 2 = .ok (.iconst 1, 1) := by decide +kernel
theorem dX7_cut_3 : decode cX7_cut 3 = .ok (.ldc 117, 2) := by decide +kernel
theorem dX7_cut_5 : decode cX7_cut 5 = .ok (.invokestatic 42, 3) := by decide +kernel
theorem dX7_cut_8 : decode cX7_cut 8 = .ok (.ifCond .eq 17, 3) := by decide +kernel
theorem dX7_cut_11 : decode cX7_cut 11 = .ok (.iload_n 2, 1) := by decide +kernel
theorem dX7_cut_12 : decode cX7_cut 12 = .ok (.iconst 1, 1) := by decide +kernel
theorem dX7_cut_13 : decode cX7_cut 13 = .ok (.bipush 9, 2) := by decide +kernel
theorem dX7_cut_15 : decode cX7_cut 15 = .ok (.invokestatic 42, 3) := by decide +kernel
theorem dX7_cut_18 : decode cX7_cut 18 = .ok (.ifCond .eq 7, 3) := by decide +kernel
theorem dX7_cut_21 : decode cX7_cut 21 = .ok (.iconst 0, 1) := by decide +kernel
theorem dX7_cut_22 : decode cX7_cut 22 = .ok (.goto 4, 3) := by decide +kernel
theorem dX7_cut_25 : decode cX7_cut 25 = .ok (.iconst 1, 1) := by decide +kernel
theorem dX7_cut_26 : decode cX7_cut 26 = .ok (.putfield 34, 3) := by decide +kernel
theorem dX7_cut_29 : decode cX7_cut 29 = .ok (.aload_n 0, 1) := by decide +kernel
theorem dX7_cut_30 : decode cX7_cut 30 = .ok (.getfield 34, 3) := by decide +kernel
theorem dX7_cut_33 : decode cX7_cut 33 = .ok (.ifCond .le 5, 3) := by decide +kernel
theorem dX7_cut_36 : decode cX7_cut 36 = .ok (.iconst 0, 1) := by decide +kernel
theorem dX7_cut_37 : decode cX7_cut 37 = .ok (.ireturn, 1) := by decide +kernel
theorem dX7_cut_38 : decode cX7_cut 38 = .ok (.aload_n 0, 1) := by decide +kernel
theorem dX7_cut_39 : decode cX7_cut 39 = .ok (.invokevirtual 104, 3) := by decide +kernel
theorem dX7_cut_42 : decode cX7_cut 42 = .ok (.aload_n 0, 1) := by decide +kernel
theorem dX7_cut_43 : decode cX7_cut 43 = .ok (.invokevirtual 31, 3) := by decide +kernel
theorem dX7_cut_46 : decode cX7_cut 46 = .ok (.aload_n 0, 1) := by decide +kernel
theorem dX7_cut_47 : decode cX7_cut 47 = .ok (.iconst 0, 1) := by decide +kernel
theorem dX7_cut_48 : decode cX7_cut 48 = .ok (.putfield 111, 3) := by decide +kernel
theorem dX7_cut_51 : decode cX7_cut 51 = .ok (.iconst 0, 1) := by decide +kernel
theorem dX7_cut_52 : decode cX7_cut 52 = .ok (.istore_n 3, 1) := by decide +kernel
theorem dX7_cut_53 : decode cX7_cut 53 = .ok (.iload_n 3, 1) := by decide +kernel
theorem dX7_cut_54 : decode cX7_cut 54 = .ok (.bipush 96, 2) := by decide +kernel
theorem dX7_cut_56 : decode cX7_cut 56 = .ok (.if_icmp .ge 16, 3) := by decide +kernel
theorem dX7_cut_59 : decode cX7_cut 59 = .ok (.aload_n 0, 1) := by decide +kernel
theorem dX7_cut_60 : decode cX7_cut 60 = .ok (.getfield 22, 3) := by decide +kernel
theorem dX7_cut_63 : decode cX7_cut 63 = .ok (.iload_n 3, 1) := by decide +kernel
theorem dX7_cut_64 : decode cX7_cut 64 = .ok (.iconst 0, 1) := by decide +kernel
theorem dX7_cut_65 : decode cX7_cut 65 = .ok (.iastore, 1) := by decide +kernel
theorem dX7_cut_66 : decode cX7_cut 66 = .ok (.iinc 3 1, 3) := by decide +kernel
theorem dX7_cut_69 : decode cX7_cut 69 = .ok (.goto (-16), 3) := by decide +kernel
theorem dX7_cut_72 : decode cX7_cut 72 = .ok (.iconst 0, 1) := by decide +kernel
theorem dX7_cut_73 : decode cX7_cut 73 = .ok (.istore_n 3, 1) := by decide +kernel
theorem dX7_cut_74 : decode cX7_cut 74 = .ok (.iload_n 3, 1) := by decide +kernel
theorem dX7_cut_75 : decode cX7_cut 75 = .ok (.aload_n 0, 1) := by decide +kernel
theorem dX7_cut_76 : decode cX7_cut 76 = .ok (.invokevirtual 38, 3) := by decide +kernel
theorem dX7_cut_79 : decode cX7_cut 79 = .ok (.if_icmp .ge 25, 3) := by decide +kernel
theorem dX7_cut_82 : decode cX7_cut 82 = .ok (.aload_n 0, 1) := by decide +kernel
theorem dX7_cut_83 : decode cX7_cut 83 = .ok (.iload_n 3, 1) := by decide +kernel
theorem dX7_cut_84 : decode cX7_cut 84 = .ok (.iconst 1, 1) := by decide +kernel
theorem dX7_cut_85 : decode cX7_cut 85 = .ok (.iload_n 1, 1) := by decide +kernel
theorem dX7_cut_86 : decode cX7_cut 86 = .ok (.iload_n 2, 1) := by decide +kernel
theorem dX7_cut_87 : decode cX7_cut 87 = .ok (.invokevirtual 118, 3) := by decide +kernel
theorem dX7_cut_90 : decode cX7_cut 90 = .ok (.aload_n 0, 1) := by decide +kernel
theorem dX7_cut_91 : decode cX7_cut 91 = .ok (.iload_n 3, 1) := by decide +kernel
theorem dX7_cut_92 : decode cX7_cut 92 = .ok (.iconst 2, 1) := by decide +kernel
theorem dX7_cut_93 : decode cX7_cut 93 = .ok (.iload_n 1, 1) := by decide +kernel
theorem dX7_cut_94 : decode cX7_cut 94 = .ok (.iload_n 2, 1) := by decide +kernel
theorem dX7_cut_95 : decode cX7_cut 95 = .ok (.invokevirtual 118, 3) := by decide +kernel
theorem dX7_cut_98 : decode cX7_cut 98 = .ok (.iinc 3 1, 3) := by decide +kernel
theorem dX7_cut_101 : decode cX7_cut 101 = .ok (.goto (-27), 3) := by decide +kernel
theorem dX7_cut_104 : decode cX7_cut 104 = .ok (.aload_n 0, 1) := by decide +kernel
theorem dX7_cut_105 : decode cX7_cut 105 = .ok (.getfield 7, 3) := by decide +kernel
theorem dX7_cut_108 : decode cX7_cut 108 = .ok (.iconst 3, 1) := by decide +kernel
theorem dX7_cut_109 : decode cX7_cut 109 = .ok (.iconst 0, 1) := by decide +kernel
theorem dX7_cut_110 : decode cX7_cut 110 = .ok (.iastore, 1) := by decide +kernel
theorem dX7_cut_111 : decode cX7_cut 111 = .ok (.iconst 0, 1) := by decide +kernel
theorem dX7_cut_112 : decode cX7_cut 112 = .ok (.istore_n 3, 1) := by decide +kernel
theorem dX7_cut_113 : decode cX7_cut 113 = .ok (.iload_n 3, 1) := by decide +kernel
theorem dX7_cut_114 : decode cX7_cut 114 = .ok (.aload_n 0, 1) := by decide +kernel
theorem dX7_cut_115 : decode cX7_cut 115 = .ok (.invokevirtual 38, 3) := by decide +kernel
theorem dX7_cut_118 : decode cX7_cut 118 = .ok (.if_icmp .ge 84, 3) := by decide +kernel
theorem dX7_cut_121 : decode cX7_cut 121 = .ok (.iconst 0, 1) := by decide +kernel
theorem dX7_cut_122 : decode cX7_cut 122 = .ok (.istore 4, 2) := by decide +kernel
theorem dX7_cut_124 : decode cX7_cut 124 = .ok (.iconst 0, 1) := by decide +kernel
theorem dX7_cut_125 : decode cX7_cut 125 = .ok (.istore 5, 2) := by decide +kernel
theorem dX7_cut_127 : decode cX7_cut 127 = .ok (.iconst 0, 1) := by decide +kernel
theorem dX7_cut_128 : decode cX7_cut 128 = .ok (.istore 6, 2) := by decide +kernel
theorem dX7_cut_130 : decode cX7_cut 130 = .ok (.iload 6, 2) := by decide +kernel
theorem dX7_cut_132 : decode cX7_cut 132 = .ok (.iconst 4, 1) := by decide +kernel
theorem dX7_cut_133 : decode cX7_cut 133 = .ok (.if_icmp .ge 55, 3) := by decide +kernel
theorem dX7_cut_136 : decode cX7_cut 136 = .ok (.bipush 10, 2) := by decide +kernel
theorem dX7_cut_138 : decode cX7_cut 138 = .ok (.iload 4, 2) := by decide +kernel
theorem dX7_cut_140 : decode cX7_cut 140 = .ok (.imul, 1) := by decide +kernel
theorem dX7_cut_141 : decode cX7_cut 141 = .ok (.aload_n 0, 1) := by decide +kernel
theorem dX7_cut_142 : decode cX7_cut 142 = .ok (.getfield 22, 3) := by decide +kernel
theorem dX7_cut_145 : decode cX7_cut 145 = .ok (.bipush 8, 2) := by decide +kernel
theorem dX7_cut_147 : decode cX7_cut 147 = .ok (.iload_n 3, 1) := by decide +kernel
theorem dX7_cut_148 : decode cX7_cut 148 = .ok (.imul, 1) := by decide +kernel
theorem dX7_cut_149 : decode cX7_cut 149 = .ok (.iload 6, 2) := by decide +kernel
theorem dX7_cut_151 : decode cX7_cut 151 = .ok (.iadd, 1) := by decide +kernel
theorem dX7_cut_152 : decode cX7_cut 152 = .ok (.iaload, 1) := by decide +kernel
theorem dX7_cut_153 : decode cX7_cut 153 = .ok (.iadd, 1) := by decide +kernel
theorem dX7_cut_154 : decode cX7_cut 154 = .ok (.istore 4, 2) := by decide +kernel
theorem dX7_cut_156 : decode cX7_cut 156 = .ok (.bipush 10, 2) := by decide +kernel
theorem dX7_cut_158 : decode cX7_cut 158 = .ok (.iload 5, 2) := by decide +kernel
theorem dX7_cut_160 : decode cX7_cut 160 = .ok (.imul, 1) := by decide +kernel
theorem dX7_cut_161 : decode cX7_cut 161 = .ok (.aload_n 0, 1) := by decide +kernel
theorem dX7_cut_162 : decode cX7_cut 162 = .ok (.getfield 22, 3) := by decide +kernel
theorem dX7_cut_165 : decode cX7_cut 165 = .ok (.bipush 8, 2) := by decide +kernel
theorem dX7_cut_167 : decode cX7_cut 167 = .ok (.iload_n 3, 1) := by decide +kernel
theorem dX7_cut_168 : decode cX7_cut 168 = .ok (.imul, 1) := by decide +kernel
theorem dX7_cut_169 : decode cX7_cut 169 = .ok (.iconst 4, 1) := by decide +kernel
theorem dX7_cut_170 : decode cX7_cut 170 = .ok (.iadd, 1) := by decide +kernel
theorem dX7_cut_171 : decode cX7_cut 171 = .ok (.iconst 4, 1) := by decide +kernel
theorem dX7_cut_172 : decode cX7_cut 172 = .ok (.iload 6, 2) := by decide +kernel
theorem dX7_cut_174 : decode cX7_cut 174 = .ok (.isub, 1) := by decide +kernel
theorem dX7_cut_175 : decode cX7_cut 175 = .ok (.iconst 4, 1) := by decide +kernel
theorem dX7_cut_176 : decode cX7_cut 176 = .ok (.irem, 1) := by decide +kernel
theorem dX7_cut_177 : decode cX7_cut 177 = .ok (.iadd, 1) := by decide +kernel
theorem dX7_cut_178 : decode cX7_cut 178 = .ok (.iaload, 1) := by decide +kernel
theorem dX7_cut_179 : decode cX7_cut 179 = .ok (.iadd, 1) := by decide +kernel
theorem dX7_cut_180 : decode cX7_cut 180 = .ok (.istore 5, 2) := by decide +kernel
theorem dX7_cut_182 : decode cX7_cut 182 = .ok (.iinc 6 1, 3) := by decide +kernel
theorem dX7_cut_185 : decode cX7_cut 185 = .ok (.goto (-55), 3) := by decide +kernel
theorem dX7_cut_188 : decode cX7_cut 188 = .ok (.aload_n 0, 1) := by decide +kernel
theorem dX7_cut_189 : decode cX7_cut 189 = .ok (.iload 4, 2) := by decide +kernel
theorem dX7_cut_191 : decode cX7_cut 191 = .ok (.iload 5, 2) := by decide +kernel
theorem dX7_cut_193 : decode cX7_cut 193 = .ok (.invokevirtual 107, 3) := by decide +kernel
theorem dX7_cut_196 : decode cX7_cut 196 = .ok (.iinc 3 1, 3) := by decide +kernel
theorem dX7_cut_199 : decode cX7_cut 199 = .ok (.goto (-86), 3) := by decide +kernel
theorem dX7_cut_202 : decode cX7_cut 202 = .ok (.aload_n 0, 1) := by decide +kernel
theorem dX7_cut_203 : decode cX7_cut 203 = .ok (.getfield 7, 3) := by decide +kernel
theorem dX7_cut_206 : decode cX7_cut 206 = .ok (.iconst 3, 1) := by decide +kernel
theorem dX7_cut_207 : decode cX7_cut 207 = .ok (.iaload, 1) := by decide +kernel
theorem dX7_cut_208 : decode cX7_cut 208 = .ok (.ireturn, 1) := by decide +kernel
set_option maxRecDepth 20000 in
theorem ggX7_empties_X7_cells : GoodIn wsX7_empties wsX7_cells := goodIn_r _ [6, 1, 7, 8, 9, 10, 11, 12, 13, 14, 15, 16, 17, 18, 19, 20, 21, 22] (by decide +kernel) (by decide +kernel)
set_option maxRecDepth 20000 in
theorem gX7_empties_X7_cells : GoodIn wsX7_empties (wsV RX7 38 RX7 yX7_cells wsX7_cells) := goodIn_app (goodIn_of _ (by decide +kernel)) ggX7_empties_X7_cells
theorem dX7_empties_0 : decode cX7_empties 0 = .ok (.iconst 0, 1) := by decide +kernel
theorem dX7_empties_1 : decode cX7_empties 1 = .ok (.istore_n 1, 1) := by decide +kernel
theorem dX7_empties_2 : decode cX7_empties 2 = .ok (.iconst 0, 1) := by decide +kernel
theorem dX7_empties_3 : decode cX7_empties 3 = .ok (.istore_n 2, 1) := by decide +kernel
theorem dX7_empties_4 : decode cX7_empties 4 = .ok (.iload_n 2, 1) := by decide +kernel
theorem dX7_empties_5 : decode cX7_empties 5 = .ok (.aload_n 0, 1) := by decide +kernel
theorem dX7_empties_6 : decode cX7_empties 6 = .ok (.invokevirtual 38, 3) := by decide +kernel
theorem dX7_empties_9 : decode cX7_empties 9 = .ok (.if_icmp .ge 30, 3) := by decide +kernel
theorem dX7_empties_12 : decode cX7_empties 12 = .ok (.iload_n 1, 1) := by decide +kernel
theorem dX7_empties_13 : decode cX7_empties 13 = .ok (.aload_n 0, 1) := by decide +kernel
theorem dX7_empties_14 : decode cX7_empties 14 = .ok (.getfield 7, 3) := by decide +kernel
theorem dX7_empties_17 : decode cX7_empties 17 = .ok (.bipush 28, 2) := by decide +kernel
theorem dX7_empties_19 : decode cX7_empties 19 = .ok (.iload_n 2, 1) := by decide +kernel
theorem dX7_empties_20 : decode cX7_empties 20 = .ok (.iadd, 1) := by decide +kernel
theorem dX7_empties_21 : decode cX7_empties 21 = .ok (.iaload, 1) := by decide +kernel
theorem dX7_empties_22 : decode cX7_empties 22 = .ok (.iconst (-1), 1) := by decide +kernel
theorem dX7_empties_23 : decode cX7_empties 23 = .ok (.if_icmp .ne 7, 3) := by decide +kernel
theorem dX7_empties_26 : decode cX7_empties 26 = .ok (.iconst 1, 1) := by decide +kernel
theorem dX7_empties_27 : decode cX7_empties 27 = .ok (.goto 4, 3) := by decide +kernel
theorem dX7_empties_30 : decode cX7_empties 30 = .ok (.iconst 0, 1) := by decide +kernel
theorem dX7_empties_31 : decode cX7_empties 31 = .ok (.iadd, 1) := by decide +kernel
theorem dX7_empties_32 : decode cX7_empties 32 = .ok (.istore_n 1, 1) := by decide +kernel
theorem dX7_empties_33 : decode cX7_empties 33 = .ok (.iinc 2 1, 3) := by decide +kernel
theorem dX7_empties_36 : decode cX7_empties 36 = .ok (.goto (-32), 3) := by decide +kernel
theorem dX7_empties_39 : decode cX7_empties 39 = .ok (.iload_n 1, 1) := by decide +kernel
theorem dX7_empties_40 : decode cX7_empties 40 = .ok (.ireturn, 1) := by decide +kernel
set_option maxRecDepth 20000 in
theorem ggX7_lay_X7_isCell : GoodIn wsX7_lay wsX7_isCell := goodIn_r _ [7, 8, 9, 10, 6, 11, 2, 12, 13, 14, 73, 74, 75, 76, 77, 78, 79, 80, 81, 82, 83, 84, 85, 86, 87, 88] (by decide +kernel) (by decide +kernel)
set_option maxRecDepth 20000 in
theorem gX7_lay_X7_isCell : GoodIn wsX7_lay (wsV RX7 122 RX7 yX7_isCell wsX7_isCell) := goodIn_app (goodIn_of _ (by decide +kernel)) ggX7_lay_X7_isCell
set_option maxRecDepth 20000 in
theorem ggX7_lay_X7_isPlacing : GoodIn wsX7_lay wsX7_isPlacing := goodIn_r _ [18, 19, 20, 21, 6, 22, 2, 12, 13, 14, 73, 74, 75, 76, 77, 78, 79, 80, 81, 82, 83, 84, 85, 86, 87, 88] (by decide +kernel) (by decide +kernel)
set_option maxRecDepth 20000 in
theorem gX7_lay_X7_isPlacing : GoodIn wsX7_lay (wsV RX7 125 RX7 yX7_isPlacing wsX7_isPlacing) := goodIn_app (goodIn_of _ (by decide +kernel)) ggX7_lay_X7_isPlacing
set_option maxRecDepth 20000 in
theorem ggX7_lay_X7_whyNot : GoodIn wsX7_lay wsX7_whyNot := goodIn_r _ [26, 2, 27, 28, 29, 6, 30, 8, 9, 10, 11, 31, 32, 33, 34, 35, 36, 37, 38, 39, 40, 41, 42, 43, 44, 45, 46, 47, 48, 49, 50, 51, 52, 53, 54, 55, 56, 57, 58, 59, 60, 61, 62, 73, 74, 75, 76, 77, 78, 79, 80, 81, 82, 83, 84, 85, 86, 87, 88] (by decide +kernel) (by decide +kernel)
set_option maxRecDepth 20000 in
theorem gX7_lay_X7_whyNot : GoodIn wsX7_lay (wsV RX7 82 RX7 yX7_whyNot wsX7_whyNot) := goodIn_app (goodIn_of _ (by decide +kernel)) ggX7_lay_X7_whyNot
set_option maxRecDepth 20000 in
theorem ggX7_lay_X7_save : GoodIn wsX7_lay wsX7_save := goodIn_r _ [66, 67, 68, 2, 73, 74, 75, 76, 77, 78, 79, 80, 81, 82, 83, 84, 85, 86, 87, 88] (by decide +kernel) (by decide +kernel)
set_option maxRecDepth 20000 in
theorem gX7_lay_X7_save : GoodIn wsX7_lay (wsV RX7 104 RX7 yX7_save wsX7_save) := goodIn_app (goodIn_of _ (by decide +kernel)) ggX7_lay_X7_save
set_option maxRecDepth 20000 in
theorem ggX7_lay_X7_empties : GoodIn wsX7_lay wsX7_empties := goodIn_r _ [72, 2, 8, 9, 10, 6, 11, 73, 74, 75, 76, 77, 78, 79, 80, 81, 82, 83, 84, 85, 86, 87, 88] (by decide +kernel) (by decide +kernel)
set_option maxRecDepth 20000 in
theorem gX7_lay_X7_empties : GoodIn wsX7_lay (wsV RX7 128 RX7 yX7_empties wsX7_empties) := goodIn_app (goodIn_of _ (by decide +kernel)) ggX7_lay_X7_empties
theorem dX7_lay_0 : decode cX7_lay 0 = .ok (.aload_n 0, 1) := by decide +kernel
theorem dX7_lay_1 : decode cX7_lay 1 = .ok (.iload_n 1, 1) := by decide +kernel
theorem dX7_lay_2 : decode cX7_lay 2 = .ok (.invokevirtual 122, 3) := by decide +kernel
theorem dX7_lay_5 : decode cX7_lay 5 = .ok (.ifCond .eq 15, 3) := by decide +kernel
theorem dX7_lay_8 : decode cX7_lay 8 = .ok (.aload_n 0, 1) := by decide +kernel
theorem dX7_lay_9 : decode cX7_lay 9 = .ok (.iload_n 2, 1) := by decide +kernel
theorem dX7_lay_10 : decode cX7_lay 10 = .ok (.invokevirtual 125, 3) := by decide +kernel
theorem dX7_lay_13 : decode cX7_lay 13 = .ok (.ifCond .eq 7, 3) := by decide +kernel
theorem dX7_lay_16 : decode cX7_lay 16 = .ok (.iconst 1, 1) := by decide +kernel
theorem dX7_lay_17 : decode cX7_lay 17 = .ok (.goto 4, 3) := by decide +kernel
theorem dX7_lay_20 : decode cX7_lay 20 = .ok (.iconst 0, 1) := by decide +kernel
theorem dX7_lay_21 : decode cX7_lay 21 = .ok (.istore_n 3, 1) := by decide +kernel
theorem dX7_lay_22 : decode cX7_lay 22 = .ok (.aload_n 0, 1) := by decide +kernel
theorem dX7_lay_23 : decode cX7_lay 23 = .ok (.iload_n 3, 1) := by decide +kernel
theorem dX7_lay_24 : decode cX7_lay 24 = .ok (.ifCond .ne 7, 3) := by decide +kernel
theorem dX7_lay_27 : decode cX7_lay 27 = .ok (.iconst 1, 1) := by decide +kernel
theorem dX7_lay_28 : decode cX7_lay 28 = .ok (.goto 17, 3) := by decide +kernel
theorem dX7_lay_31 : decode cX7_lay 31 = .ok (.aload_n 0, 1) := by decide +kernel
theorem dX7_lay_32 : decode cX7_lay 32 = .ok (.iload_n 1, 1) := by decide +kernel
theorem dX7_lay_33 : decode cX7_lay 33 = .ok (.iload_n 2, 1) := by decide +kernel
theorem dX7_lay_34 : decode cX7_lay 34 = .ok (.invokevirtual 82, 3) := by decide +kernel
theorem dX7_lay_37 : decode cX7_lay 37 = .ok (.ifCond .ne 7, 3) := by decide +kernel
theorem dX7_lay_40 : decode cX7_lay 40 = .ok (.iconst 0, 1) := by decide +kernel
theorem dX7_lay_41 : decode cX7_lay 41 = .ok (.goto 4, 3) := by decide +kernel
theorem dX7_lay_44 : decode cX7_lay 44 = .ok (.iconst 2, 1) := by decide +kernel
theorem dX7_lay_45 : decode cX7_lay 45 = .ok (.putfield 34, 3) := by decide +kernel
theorem dX7_lay_48 : decode cX7_lay 48 = .ok (.aload_n 0, 1) := by decide +kernel
theorem dX7_lay_49 : decode cX7_lay 49 = .ok (.getfield 34, 3) := by decide +kernel
theorem dX7_lay_52 : decode cX7_lay 52 = .ok (.ifCond .le 5, 3) := by decide +kernel
theorem dX7_lay_55 : decode cX7_lay 55 = .ok (.iconst 0, 1) := by decide +kernel
theorem dX7_lay_56 : decode cX7_lay 56 = .ok (.ireturn, 1) := by decide +kernel
theorem dX7_lay_57 : decode cX7_lay 57 = .ok (.aload_n 0, 1) := by decide +kernel
theorem dX7_lay_58 : decode cX7_lay 58 = .ok (.invokevirtual 104, 3) := by decide +kernel
theorem dX7_lay_61 : decode cX7_lay 61 = .ok (.aload_n 0, 1) := by decide +kernel
theorem dX7_lay_62 : decode cX7_lay 62 = .ok (.getfield 7, 3) := by decide +kernel
theorem dX7_lay_65 : decode cX7_lay 65 = .ok (.bipush 28, 2) := by decide +kernel
theorem dX7_lay_67 : decode cX7_lay 67 = .ok (.iload_n 1, 1) := by decide +kernel
theorem dX7_lay_68 : decode cX7_lay 68 = .ok (.iadd, 1) := by decide +kernel
theorem dX7_lay_69 : decode cX7_lay 69 = .ok (.iload_n 2, 1) := by decide +kernel
theorem dX7_lay_70 : decode cX7_lay 70 = .ok (.iastore, 1) := by decide +kernel
theorem dX7_lay_71 : decode cX7_lay 71 = .ok (.aload_n 0, 1) := by decide +kernel
theorem dX7_lay_72 : decode cX7_lay 72 = .ok (.invokevirtual 128, 3) := by decide +kernel
theorem dX7_lay_75 : decode cX7_lay 75 = .ok (.ireturn, 1) := by decide +kernel
set_option maxRecDepth 20000 in
theorem ggX7_take_X7_isCell : GoodIn wsX7_take wsX7_isCell := goodIn_r _ [7, 8, 9, 10, 6, 11, 1, 12, 13, 14, 21, 22, 23, 24, 25, 26, 27, 28, 29, 30, 31, 32, 33, 34, 35, 36] (by decide +kernel) (by decide +kernel)
set_option maxRecDepth 20000 in
theorem gX7_take_X7_isCell : GoodIn wsX7_take (wsV RX7 122 RX7 yX7_isCell wsX7_isCell) := goodIn_app (goodIn_of _ (by decide +kernel)) ggX7_take_X7_isCell
set_option maxRecDepth 20000 in
theorem ggX7_take_X7_save : GoodIn wsX7_take wsX7_save := goodIn_r _ [18, 19, 20, 1, 21, 22, 23, 24, 25, 26, 27, 28, 29, 30, 31, 32, 33, 34, 35, 36] (by decide +kernel) (by decide +kernel)
set_option maxRecDepth 20000 in
theorem gX7_take_X7_save : GoodIn wsX7_take (wsV RX7 104 RX7 yX7_save wsX7_save) := goodIn_app (goodIn_of _ (by decide +kernel)) ggX7_take_X7_save
theorem dX7_take_0 : decode cX7_take 0 = .ok (.aload_n 0, 1) := by decide +kernel
theorem dX7_take_1 : decode cX7_take 1 = .ok (.aload_n 0, 1) := by decide +kernel
theorem dX7_take_2 : decode cX7_take 2 = .ok (.iload_n 1, 1) := by decide +kernel
theorem dX7_take_3 : decode cX7_take 3 = .ok (.invokevirtual 122, 3) := by decide +kernel
theorem dX7_take_6 : decode cX7_take 6 = .ok (.ifCond .ne 7, 3) := by decide +kernel
theorem dX7_take_9 : decode cX7_take 9 = .ok (.iconst 1, 1) := by decide +kernel
theorem dX7_take_10 : decode cX7_take 10 = .ok (.goto 34, 3) := by decide +kernel
theorem dX7_take_13 : decode cX7_take 13 = .ok (.aload_n 0, 1) := by decide +kernel
theorem dX7_take_14 : decode cX7_take 14 = .ok (.getfield 7, 3) := by decide +kernel
theorem dX7_take_17 : decode cX7_take 17 = .ok (.bipush 28, 2) := by decide +kernel
theorem dX7_take_19 : decode cX7_take 19 = .ok (.iload_n 1, 1) := by decide +kernel
theorem dX7_take_20 : decode cX7_take 20 = .ok (.iadd, 1) := by decide +kernel
theorem dX7_take_21 : decode cX7_take 21 = .ok (.iaload, 1) := by decide +kernel
theorem dX7_take_22 : decode cX7_take 22 = .ok (.iconst (-1), 1) := by decide +kernel
theorem dX7_take_23 : decode cX7_take 23 = .ok (.if_icmp .eq 16, 3) := by decide +kernel
theorem dX7_take_26 : decode cX7_take 26 = .ok (.aload_n 0, 1) := by decide +kernel
theorem dX7_take_27 : decode cX7_take 27 = .ok (.getfield 7, 3) := by decide +kernel
theorem dX7_take_30 : decode cX7_take 30 = .ok (.bipush 40, 2) := by decide +kernel
theorem dX7_take_32 : decode cX7_take 32 = .ok (.iload_n 1, 1) := by decide +kernel
theorem dX7_take_33 : decode cX7_take 33 = .ok (.iadd, 1) := by decide +kernel
theorem dX7_take_34 : decode cX7_take 34 = .ok (.iaload, 1) := by decide +kernel
theorem dX7_take_35 : decode cX7_take 35 = .ok (.iconst 1, 1) := by decide +kernel
theorem dX7_take_36 : decode cX7_take 36 = .ok (.if_icmp .ne 7, 3) := by decide +kernel
theorem dX7_take_39 : decode cX7_take 39 = .ok (.iconst 2, 1) := by decide +kernel
theorem dX7_take_40 : decode cX7_take 40 = .ok (.goto 4, 3) := by decide +kernel
theorem dX7_take_43 : decode cX7_take 43 = .ok (.iconst 0, 1) := by decide +kernel
theorem dX7_take_44 : decode cX7_take 44 = .ok (.putfield 34, 3) := by decide +kernel
theorem dX7_take_47 : decode cX7_take 47 = .ok (.aload_n 0, 1) := by decide +kernel
theorem dX7_take_48 : decode cX7_take 48 = .ok (.getfield 34, 3) := by decide +kernel
theorem dX7_take_51 : decode cX7_take 51 = .ok (.ifCond .le 5, 3) := by decide +kernel
theorem dX7_take_54 : decode cX7_take 54 = .ok (.iconst 0, 1) := by decide +kernel
theorem dX7_take_55 : decode cX7_take 55 = .ok (.ireturn, 1) := by decide +kernel
theorem dX7_take_56 : decode cX7_take 56 = .ok (.aload_n 0, 1) := by decide +kernel
theorem dX7_take_57 : decode cX7_take 57 = .ok (.invokevirtual 104, 3) := by decide +kernel
theorem dX7_take_60 : decode cX7_take 60 = .ok (.aload_n 0, 1) := by decide +kernel
theorem dX7_take_61 : decode cX7_take 61 = .ok (.getfield 7, 3) := by decide +kernel
theorem dX7_take_64 : decode cX7_take 64 = .ok (.bipush 28, 2) := by decide +kernel
theorem dX7_take_66 : decode cX7_take 66 = .ok (.iload_n 1, 1) := by decide +kernel
theorem dX7_take_67 : decode cX7_take 67 = .ok (.iadd, 1) := by decide +kernel
theorem dX7_take_68 : decode cX7_take 68 = .ok (.iaload, 1) := by decide +kernel
theorem dX7_take_69 : decode cX7_take 69 = .ok (.istore_n 2, 1) := by decide +kernel
theorem dX7_take_70 : decode cX7_take 70 = .ok (.aload_n 0, 1) := by decide +kernel
theorem dX7_take_71 : decode cX7_take 71 = .ok (.getfield 7, 3) := by decide +kernel
theorem dX7_take_74 : decode cX7_take 74 = .ok (.bipush 28, 2) := by decide +kernel
theorem dX7_take_76 : decode cX7_take 76 = .ok (.iload_n 1, 1) := by decide +kernel
theorem dX7_take_77 : decode cX7_take 77 = .ok (.iadd, 1) := by decide +kernel
theorem dX7_take_78 : decode cX7_take 78 = .ok (.iconst (-1), 1) := by decide +kernel
theorem dX7_take_79 : decode cX7_take 79 = .ok (.iastore, 1) := by decide +kernel
theorem dX7_take_80 : decode cX7_take 80 = .ok (.iload_n 2, 1) := by decide +kernel
theorem dX7_take_81 : decode cX7_take 81 = .ok (.ireturn, 1) := by decide +kernel
set_option maxRecDepth 20000 in
theorem ggX7_fix_X7_isCell : GoodIn wsX7_fix wsX7_isCell := goodIn_r _ [7, 8, 9, 10, 6, 11, 1, 12, 13, 14, 21, 22, 23, 24, 25, 26, 27, 28, 29, 30, 31, 32, 33, 34, 35, 36] (by decide +kernel) (by decide +kernel)
set_option maxRecDepth 20000 in
theorem gX7_fix_X7_isCell : GoodIn wsX7_fix (wsV RX7 122 RX7 yX7_isCell wsX7_isCell) := goodIn_app (goodIn_of _ (by decide +kernel)) ggX7_fix_X7_isCell
set_option maxRecDepth 20000 in
theorem ggX7_fix_X7_save : GoodIn wsX7_fix wsX7_save := goodIn_r _ [18, 19, 20, 1, 21, 22, 23, 24, 25, 26, 27, 28, 29, 30, 31, 32, 33, 34, 35, 36] (by decide +kernel) (by decide +kernel)
set_option maxRecDepth 20000 in
theorem gX7_fix_X7_save : GoodIn wsX7_fix (wsV RX7 104 RX7 yX7_save wsX7_save) := goodIn_app (goodIn_of _ (by decide +kernel)) ggX7_fix_X7_save
theorem dX7_fix_0 : decode cX7_fix 0 = .ok (.aload_n 0, 1) := by decide +kernel
theorem dX7_fix_1 : decode cX7_fix 1 = .ok (.aload_n 0, 1) := by decide +kernel
theorem dX7_fix_2 : decode cX7_fix 2 = .ok (.iload_n 1, 1) := by decide +kernel
theorem dX7_fix_3 : decode cX7_fix 3 = .ok (.invokevirtual 122, 3) := by decide +kernel
theorem dX7_fix_6 : decode cX7_fix 6 = .ok (.ifCond .ne 7, 3) := by decide +kernel
theorem dX7_fix_9 : decode cX7_fix 9 = .ok (.iconst 1, 1) := by decide +kernel
theorem dX7_fix_10 : decode cX7_fix 10 = .ok (.goto 21, 3) := by decide +kernel
theorem dX7_fix_13 : decode cX7_fix 13 = .ok (.aload_n 0, 1) := by decide +kernel
theorem dX7_fix_14 : decode cX7_fix 14 = .ok (.getfield 7, 3) := by decide +kernel
theorem dX7_fix_17 : decode cX7_fix 17 = .ok (.bipush 28, 2) := by decide +kernel
theorem dX7_fix_19 : decode cX7_fix 19 = .ok (.iload_n 1, 1) := by decide +kernel
theorem dX7_fix_20 : decode cX7_fix 20 = .ok (.iadd, 1) := by decide +kernel
theorem dX7_fix_21 : decode cX7_fix 21 = .ok (.iaload, 1) := by decide +kernel
theorem dX7_fix_22 : decode cX7_fix 22 = .ok (.iconst (-1), 1) := by decide +kernel
theorem dX7_fix_23 : decode cX7_fix 23 = .ok (.if_icmp .ne 7, 3) := by decide +kernel
theorem dX7_fix_26 : decode cX7_fix 26 = .ok (.iconst 2, 1) := by decide +kernel
theorem dX7_fix_27 : decode cX7_fix 27 = .ok (.goto 4, 3) := by decide +kernel
theorem dX7_fix_30 : decode cX7_fix 30 = .ok (.iconst 0, 1) := by decide +kernel
theorem dX7_fix_31 : decode cX7_fix 31 = .ok (.putfield 34, 3) := by decide +kernel
theorem dX7_fix_34 : decode cX7_fix 34 = .ok (.aload_n 0, 1) := by decide +kernel
theorem dX7_fix_35 : decode cX7_fix 35 = .ok (.getfield 34, 3) := by decide +kernel
theorem dX7_fix_38 : decode cX7_fix 38 = .ok (.ifCond .le 5, 3) := by decide +kernel
theorem dX7_fix_41 : decode cX7_fix 41 = .ok (.iconst 0, 1) := by decide +kernel
theorem dX7_fix_42 : decode cX7_fix 42 = .ok (.ireturn, 1) := by decide +kernel
theorem dX7_fix_43 : decode cX7_fix 43 = .ok (.aload_n 0, 1) := by decide +kernel
theorem dX7_fix_44 : decode cX7_fix 44 = .ok (.invokevirtual 104, 3) := by decide +kernel
theorem dX7_fix_47 : decode cX7_fix 47 = .ok (.aload_n 0, 1) := by decide +kernel
theorem dX7_fix_48 : decode cX7_fix 48 = .ok (.getfield 7, 3) := by decide +kernel
theorem dX7_fix_51 : decode cX7_fix 51 = .ok (.bipush 40, 2) := by decide +kernel
theorem dX7_fix_53 : decode cX7_fix 53 = .ok (.iload_n 1, 1) := by decide +kernel
theorem dX7_fix_54 : decode cX7_fix 54 = .ok (.iadd, 1) := by decide +kernel
theorem dX7_fix_55 : decode cX7_fix 55 = .ok (.iconst 1, 1) := by decide +kernel
theorem dX7_fix_56 : decode cX7_fix 56 = .ok (.aload_n 0, 1) := by decide +kernel
theorem dX7_fix_57 : decode cX7_fix 57 = .ok (.getfield 7, 3) := by decide +kernel
theorem dX7_fix_60 : decode cX7_fix 60 = .ok (.bipush 40, 2) := by decide +kernel
theorem dX7_fix_62 : decode cX7_fix 62 = .ok (.iload_n 1, 1) := by decide +kernel
theorem dX7_fix_63 : decode cX7_fix 63 = .ok (.iadd, 1) := by decide +kernel
theorem dX7_fix_64 : decode cX7_fix 64 = .ok (.iaload, 1) := by decide +kernel
theorem dX7_fix_65 : decode cX7_fix 65 = .ok (.isub, 1) := by decide +kernel
theorem dX7_fix_66 : decode cX7_fix 66 = .ok (.iastore, 1) := by decide +kernel
theorem dX7_fix_67 : decode cX7_fix 67 = .ok (.aload_n 0, 1) := by decide +kernel
theorem dX7_fix_68 : decode cX7_fix 68 = .ok (.getfield 7, 3) := by decide +kernel
theorem dX7_fix_71 : decode cX7_fix 71 = .ok (.bipush 40, 2) := by decide +kernel
theorem dX7_fix_73 : decode cX7_fix 73 = .ok (.iload_n 1, 1) := by decide +kernel
theorem dX7_fix_74 : decode cX7_fix 74 = .ok (.iadd, 1) := by decide +kernel
theorem dX7_fix_75 : decode cX7_fix 75 = .ok (.iaload, 1) := by decide +kernel
theorem dX7_fix_76 : decode cX7_fix 76 = .ok (.ireturn, 1) := by decide +kernel
set_option maxRecDepth 20000 in
theorem ggX7_clear_X7_save : GoodIn wsX7_clear wsX7_save := goodIn_r _ [7, 8, 9, 2, 14, 15, 16, 17, 18, 19, 20, 21, 22, 23, 24, 25, 26, 27, 28, 29] (by decide +kernel) (by decide +kernel)
set_option maxRecDepth 20000 in
theorem gX7_clear_X7_save : GoodIn wsX7_clear (wsV RX7 104 RX7 yX7_save wsX7_save) := goodIn_app (goodIn_of _ (by decide +kernel)) ggX7_clear_X7_save
set_option maxRecDepth 20000 in
theorem ggX7_clear_X7_cells : GoodIn wsX7_clear wsX7_cells := goodIn_r _ [13, 2, 14, 15, 16, 17, 18, 19, 20, 21, 22, 23, 24, 25, 26, 27, 28, 29] (by decide +kernel) (by decide +kernel)
set_option maxRecDepth 20000 in
theorem gX7_clear_X7_cells : GoodIn wsX7_clear (wsV RX7 38 RX7 yX7_cells wsX7_cells) := goodIn_app (goodIn_of _ (by decide +kernel)) ggX7_clear_X7_cells
theorem dX7_clear_0 : decode cX7_clear 0 = .ok (.aload_n 0, 1) := by decide +kernel
theorem dX7_clear_1 : decode cX7_clear 1 = .ok (.iconst 0, 1) := by decide +kernel
theorem dX7_clear_2 : decode cX7_clear 2 = .ok (.putfield 34, 3) := by decide +kernel
theorem dX7_clear_5 : decode cX7_clear 5 = .ok (.aload_n 0, 1) := by decide +kernel
theorem dX7_clear_6 : decode cX7_clear 6 = .ok (.invokevirtual 104, 3) := by decide +kernel
theorem dX7_clear_9 : decode cX7_clear 9 = .ok (.iconst 0, 1) := by decide +kernel
theorem dX7_clear_10 : decode cX7_clear 10 = .ok (.istore_n 1, 1) := by decide +kernel
theorem dX7_clear_11 : decode cX7_clear 11 = .ok (.iconst 0, 1) := by decide +kernel
theorem dX7_clear_12 : decode cX7_clear 12 = .ok (.istore_n 2, 1) := by decide +kernel
theorem dX7_clear_13 : decode cX7_clear 13 = .ok (.iload_n 2, 1) := by decide +kernel
theorem dX7_clear_14 : decode cX7_clear 14 = .ok (.aload_n 0, 1) := by decide +kernel
theorem dX7_clear_15 : decode cX7_clear 15 = .ok (.invokevirtual 38, 3) := by decide +kernel
theorem dX7_clear_18 : decode cX7_clear 18 = .ok (.if_icmp .ge 47, 3) := by decide +kernel
theorem dX7_clear_21 : decode cX7_clear 21 = .ok (.aload_n 0, 1) := by decide +kernel
theorem dX7_clear_22 : decode cX7_clear 22 = .ok (.getfield 7, 3) := by decide +kernel
theorem dX7_clear_25 : decode cX7_clear 25 = .ok (.bipush 28, 2) := by decide +kernel
theorem dX7_clear_27 : decode cX7_clear 27 = .ok (.iload_n 2, 1) := by decide +kernel
theorem dX7_clear_28 : decode cX7_clear 28 = .ok (.iadd, 1) := by decide +kernel
theorem dX7_clear_29 : decode cX7_clear 29 = .ok (.iaload, 1) := by decide +kernel
theorem dX7_clear_30 : decode cX7_clear 30 = .ok (.iconst (-1), 1) := by decide +kernel
theorem dX7_clear_31 : decode cX7_clear 31 = .ok (.if_icmp .eq 28, 3) := by decide +kernel
theorem dX7_clear_34 : decode cX7_clear 34 = .ok (.aload_n 0, 1) := by decide +kernel
theorem dX7_clear_35 : decode cX7_clear 35 = .ok (.getfield 7, 3) := by decide +kernel
theorem dX7_clear_38 : decode cX7_clear 38 = .ok (.bipush 40, 2) := by decide +kernel
theorem dX7_clear_40 : decode cX7_clear 40 = .ok (.iload_n 2, 1) := by decide +kernel
theorem dX7_clear_41 : decode cX7_clear 41 = .ok (.iadd, 1) := by decide +kernel
theorem dX7_clear_42 : decode cX7_clear 42 = .ok (.iaload, 1) := by decide +kernel
theorem dX7_clear_43 : decode cX7_clear 43 = .ok (.ifCond .ne 16, 3) := by decide +kernel
theorem dX7_clear_46 : decode cX7_clear 46 = .ok (.aload_n 0, 1) := by decide +kernel
theorem dX7_clear_47 : decode cX7_clear 47 = .ok (.getfield 7, 3) := by decide +kernel
theorem dX7_clear_50 : decode cX7_clear 50 = .ok (.bipush 28, 2) := by decide +kernel
theorem dX7_clear_52 : decode cX7_clear 52 = .ok (.iload_n 2, 1) := by decide +kernel
theorem dX7_clear_53 : decode cX7_clear 53 = .ok (.iadd, 1) := by decide +kernel
theorem dX7_clear_54 : decode cX7_clear 54 = .ok (.iconst (-1), 1) := by decide +kernel
theorem dX7_clear_55 : decode cX7_clear 55 = .ok (.iastore, 1) := by decide +kernel
theorem dX7_clear_56 : decode cX7_clear 56 = .ok (.iinc 1 1, 3) := by decide +kernel
theorem dX7_clear_59 : decode cX7_clear 59 = .ok (.iinc 2 1, 3) := by decide +kernel
theorem dX7_clear_62 : decode cX7_clear 62 = .ok (.goto (-49), 3) := by decide +kernel
theorem dX7_clear_65 : decode cX7_clear 65 = .ok (.iload_n 1, 1) := by decide +kernel
theorem dX7_clear_66 : decode cX7_clear 66 = .ok (.ireturn, 1) := by decide +kernel
theorem dX7_turned_0 : decode cX7_turned 0 = .ok (.iload_n 0, 1) := by decide +kernel
theorem dX7_turned_1 : decode cX7_turned 1 = .ok (.iconst (-1), 1) := by decide +kernel
theorem dX7_turned_2 : decode cX7_turned 2 = .ok (.if_icmp .ne 7, 3) := by decide +kernel
theorem dX7_turned_5 : decode cX7_turned 5 = .ok (.iconst (-1), 1) := by decide +kernel
theorem dX7_turned_6 : decode cX7_turned 6 = .ok (.goto 28, 3) := by decide +kernel
theorem dX7_turned_9 : decode cX7_turned 9 = .ok (.iload_n 0, 1) := by decide +kernel
theorem dX7_turned_10 : decode cX7_turned 10 = .ok (.bipush 8, 2) := by decide +kernel
theorem dX7_turned_12 : decode cX7_turned 12 = .ok (.idiv, 1) := by decide +kernel
theorem dX7_turned_13 : decode cX7_turned 13 = .ok (.bipush 8, 2) := by decide +kernel
theorem dX7_turned_15 : decode cX7_turned 15 = .ok (.imul, 1) := by decide +kernel
theorem dX7_turned_16 : decode cX7_turned 16 = .ok (.iconst 4, 1) := by decide +kernel
theorem dX7_turned_17 : decode cX7_turned 17 = .ok (.iconst 1, 1) := by decide +kernel
theorem dX7_turned_18 : decode cX7_turned 18 = .ok (.iload_n 0, 1) := by decide +kernel
theorem dX7_turned_19 : decode cX7_turned 19 = .ok (.iconst 4, 1) := by decide +kernel
theorem dX7_turned_20 : decode cX7_turned 20 = .ok (.idiv, 1) := by decide +kernel
theorem dX7_turned_21 : decode cX7_turned 21 = .ok (.iconst 2, 1) := by decide +kernel
theorem dX7_turned_22 : decode cX7_turned 22 = .ok (.irem, 1) := by decide +kernel
theorem dX7_turned_23 : decode cX7_turned 23 = .ok (.isub, 1) := by decide +kernel
theorem dX7_turned_24 : decode cX7_turned 24 = .ok (.imul, 1) := by decide +kernel
theorem dX7_turned_25 : decode cX7_turned 25 = .ok (.iadd, 1) := by decide +kernel
theorem dX7_turned_26 : decode cX7_turned 26 = .ok (.iconst 4, 1) := by decide +kernel
theorem dX7_turned_27 : decode cX7_turned 27 = .ok (.iload_n 0, 1) := by decide +kernel
theorem dX7_turned_28 : decode cX7_turned 28 = .ok (.iconst 4, 1) := by decide +kernel
theorem dX7_turned_29 : decode cX7_turned 29 = .ok (.irem, 1) := by decide +kernel
theorem dX7_turned_30 : decode cX7_turned 30 = .ok (.isub, 1) := by decide +kernel
theorem dX7_turned_31 : decode cX7_turned 31 = .ok (.iconst 4, 1) := by decide +kernel
theorem dX7_turned_32 : decode cX7_turned 32 = .ok (.irem, 1) := by decide +kernel
theorem dX7_turned_33 : decode cX7_turned 33 = .ok (.iadd, 1) := by decide +kernel
theorem dX7_turned_34 : decode cX7_turned 34 = .ok (.ireturn, 1) := by decide +kernel
set_option maxRecDepth 20000 in
theorem ggX7_turnOver_X7_save : GoodIn wsX7_turnOver wsX7_save := goodIn_r _ [9, 2, 4, 3, 21, 22, 23, 24, 25, 26, 27, 28, 29, 30, 31, 32, 33, 34, 35, 36] (by decide +kernel) (by decide +kernel)
set_option maxRecDepth 20000 in
theorem gX7_turnOver_X7_save : GoodIn wsX7_turnOver (wsV RX7 104 RX7 yX7_save wsX7_save) := goodIn_app (goodIn_of _ (by decide +kernel)) ggX7_turnOver_X7_save
set_option maxRecDepth 20000 in
theorem ggX7_turnOver_X7_cells : GoodIn wsX7_turnOver wsX7_cells := goodIn_r _ [13, 3, 21, 22, 23, 24, 25, 26, 27, 28, 29, 30, 31, 32, 33, 34, 35, 36] (by decide +kernel) (by decide +kernel)
set_option maxRecDepth 20000 in
theorem gX7_turnOver_X7_cells : GoodIn wsX7_turnOver (wsV RX7 38 RX7 yX7_cells wsX7_cells) := goodIn_app (goodIn_of _ (by decide +kernel)) ggX7_turnOver_X7_cells
set_option maxRecDepth 20000 in
theorem ggX7_turnOver_X7_turned : GoodIn wsX7_turnOver wsX7_turned := goodIn_r _ [16] (by decide +kernel) (by decide +kernel)
set_option maxRecDepth 20000 in
theorem gX7_turnOver_X7_turned : GoodIn wsX7_turnOver (va_wsS RX7 131 yX7_turned wsX7_turned) := goodIn_app (goodIn_of _ (by decide +kernel)) ggX7_turnOver_X7_turned
set_option maxRecDepth 20000 in
theorem ggX7_turnOver_X7_empties : GoodIn wsX7_turnOver wsX7_empties := goodIn_r _ [20, 3, 10, 11, 12, 8, 13, 21, 22, 23, 24, 25, 26, 27, 28, 29, 30, 31, 32, 33, 34, 35, 36] (by decide +kernel) (by decide +kernel)
set_option maxRecDepth 20000 in
theorem gX7_turnOver_X7_empties : GoodIn wsX7_turnOver (wsV RX7 128 RX7 yX7_empties wsX7_empties) := goodIn_app (goodIn_of _ (by decide +kernel)) ggX7_turnOver_X7_empties
theorem dX7_turnOver_0 : decode cX7_turnOver 0 = .ok (.aload_n 0, 1) := by decide +kernel
theorem dX7_turnOver_1 : decode cX7_turnOver 1 = .ok (.iconst 0, 1) := by decide +kernel
theorem dX7_turnOver_2 : decode cX7_turnOver 2 = .ok (.putfield 34, 3) := by decide +kernel
theorem dX7_turnOver_5 : decode cX7_turnOver 5 = .ok (.aload_n 0, 1) := by decide +kernel
theorem dX7_turnOver_6 : decode cX7_turnOver 6 = .ok (.invokevirtual 104, 3) := by decide +kernel
theorem dX7_turnOver_9 : decode cX7_turnOver 9 = .ok (.bipush 52, 2) := by decide +kernel
theorem dX7_turnOver_11 : decode cX7_turnOver 11 = .ok (.aload_n 0, 1) := by decide +kernel
theorem dX7_turnOver_12 : decode cX7_turnOver 12 = .ok (.getfield 98, 3) := by decide +kernel
theorem dX7_turnOver_15 : decode cX7_turnOver 15 = .ok (.iconst 1, 1) := by decide +kernel
theorem dX7_turnOver_16 : decode cX7_turnOver 16 = .ok (.isub, 1) := by decide +kernel
theorem dX7_turnOver_17 : decode cX7_turnOver 17 = .ok (.imul, 1) := by decide +kernel
theorem dX7_turnOver_18 : decode cX7_turnOver 18 = .ok (.istore_n 1, 1) := by decide +kernel
theorem dX7_turnOver_19 : decode cX7_turnOver 19 = .ok (.iconst 0, 1) := by decide +kernel
theorem dX7_turnOver_20 : decode cX7_turnOver 20 = .ok (.istore_n 2, 1) := by decide +kernel
theorem dX7_turnOver_21 : decode cX7_turnOver 21 = .ok (.iload_n 2, 1) := by decide +kernel
theorem dX7_turnOver_22 : decode cX7_turnOver 22 = .ok (.aload_n 0, 1) := by decide +kernel
theorem dX7_turnOver_23 : decode cX7_turnOver 23 = .ok (.invokevirtual 38, 3) := by decide +kernel
theorem dX7_turnOver_26 : decode cX7_turnOver 26 = .ok (.if_icmp .ge 81, 3) := by decide +kernel
theorem dX7_turnOver_29 : decode cX7_turnOver 29 = .ok (.iload_n 2, 1) := by decide +kernel
theorem dX7_turnOver_30 : decode cX7_turnOver 30 = .ok (.iload_n 2, 1) := by decide +kernel
theorem dX7_turnOver_31 : decode cX7_turnOver 31 = .ok (.aload_n 0, 1) := by decide +kernel
theorem dX7_turnOver_32 : decode cX7_turnOver 32 = .ok (.getfield 7, 3) := by decide +kernel
theorem dX7_turnOver_35 : decode cX7_turnOver 35 = .ok (.iconst 1, 1) := by decide +kernel
theorem dX7_turnOver_36 : decode cX7_turnOver 36 = .ok (.iaload, 1) := by decide +kernel
theorem dX7_turnOver_37 : decode cX7_turnOver 37 = .ok (.irem, 1) := by decide +kernel
theorem dX7_turnOver_38 : decode cX7_turnOver 38 = .ok (.isub, 1) := by decide +kernel
theorem dX7_turnOver_39 : decode cX7_turnOver 39 = .ok (.aload_n 0, 1) := by decide +kernel
theorem dX7_turnOver_40 : decode cX7_turnOver 40 = .ok (.getfield 7, 3) := by decide +kernel
theorem dX7_turnOver_43 : decode cX7_turnOver 43 = .ok (.iconst 1, 1) := by decide +kernel
theorem dX7_turnOver_44 : decode cX7_turnOver 44 = .ok (.iaload, 1) := by decide +kernel
theorem dX7_turnOver_45 : decode cX7_turnOver 45 = .ok (.iadd, 1) := by decide +kernel
theorem dX7_turnOver_46 : decode cX7_turnOver 46 = .ok (.iconst 1, 1) := by decide +kernel
theorem dX7_turnOver_47 : decode cX7_turnOver 47 = .ok (.isub, 1) := by decide +kernel
theorem dX7_turnOver_48 : decode cX7_turnOver 48 = .ok (.iload_n 2, 1) := by decide +kernel
theorem dX7_turnOver_49 : decode cX7_turnOver 49 = .ok (.aload_n 0, 1) := by decide +kernel
theorem dX7_turnOver_50 : decode cX7_turnOver 50 = .ok (.getfield 7, 3) := by decide +kernel
theorem dX7_turnOver_53 : decode cX7_turnOver 53 = .ok (.iconst 1, 1) := by decide +kernel
theorem dX7_turnOver_54 : decode cX7_turnOver 54 = .ok (.iaload, 1) := by decide +kernel
theorem dX7_turnOver_55 : decode cX7_turnOver 55 = .ok (.irem, 1) := by decide +kernel
theorem dX7_turnOver_56 : decode cX7_turnOver 56 = .ok (.isub, 1) := by decide +kernel
theorem dX7_turnOver_57 : decode cX7_turnOver 57 = .ok (.istore_n 3, 1) := by decide +kernel
theorem dX7_turnOver_58 : decode cX7_turnOver 58 = .ok (.aload_n 0, 1) := by decide +kernel
theorem dX7_turnOver_59 : decode cX7_turnOver 59 = .ok (.getfield 7, 3) := by decide +kernel
theorem dX7_turnOver_62 : decode cX7_turnOver 62 = .ok (.bipush 28, 2) := by decide +kernel
theorem dX7_turnOver_64 : decode cX7_turnOver 64 = .ok (.iload_n 2, 1) := by decide +kernel
theorem dX7_turnOver_65 : decode cX7_turnOver 65 = .ok (.iadd, 1) := by decide +kernel
theorem dX7_turnOver_66 : decode cX7_turnOver 66 = .ok (.aload_n 0, 1) := by decide +kernel
theorem dX7_turnOver_67 : decode cX7_turnOver 67 = .ok (.getfield 13, 3) := by decide +kernel
theorem dX7_turnOver_70 : decode cX7_turnOver 70 = .ok (.iload_n 1, 1) := by decide +kernel
theorem dX7_turnOver_71 : decode cX7_turnOver 71 = .ok (.bipush 28, 2) := by decide +kernel
theorem dX7_turnOver_73 : decode cX7_turnOver 73 = .ok (.iadd, 1) := by decide +kernel
theorem dX7_turnOver_74 : decode cX7_turnOver 74 = .ok (.iload_n 3, 1) := by decide +kernel
theorem dX7_turnOver_75 : decode cX7_turnOver 75 = .ok (.iadd, 1) := by decide +kernel
theorem dX7_turnOver_76 : decode cX7_turnOver 76 = .ok (.iaload, 1) := by decide +kernel
theorem dX7_turnOver_77 : decode cX7_turnOver 77 = .ok (.invokestatic 131, 3) := by decide +kernel
theorem dX7_turnOver_80 : decode cX7_turnOver 80 = .ok (.iastore, 1) := by decide +kernel
theorem dX7_turnOver_81 : decode cX7_turnOver 81 = .ok (.aload_n 0, 1) := by decide +kernel
theorem dX7_turnOver_82 : decode cX7_turnOver 82 = .ok (.getfield 7, 3) := by decide +kernel
theorem dX7_turnOver_85 : decode cX7_turnOver 85 = .ok (.bipush 40, 2) := by decide +kernel
theorem dX7_turnOver_87 : decode cX7_turnOver 87 = .ok (.iload_n 2, 1) := by decide +kernel
theorem dX7_turnOver_88 : decode cX7_turnOver 88 = .ok (.iadd, 1) := by decide +kernel
theorem dX7_turnOver_89 : decode cX7_turnOver 89 = .ok (.aload_n 0, 1) := by decide +kernel
theorem dX7_turnOver_90 : decode cX7_turnOver 90 = .ok (.getfield 13, 3) := by decide +kernel
theorem dX7_turnOver_93 : decode cX7_turnOver 93 = .ok (.iload_n 1, 1) := by decide +kernel
theorem dX7_turnOver_94 : decode cX7_turnOver 94 = .ok (.bipush 40, 2) := by decide +kernel
theorem dX7_turnOver_96 : decode cX7_turnOver 96 = .ok (.iadd, 1) := by decide +kernel
theorem dX7_turnOver_97 : decode cX7_turnOver 97 = .ok (.iload_n 3, 1) := by decide +kernel
theorem dX7_turnOver_98 : decode cX7_turnOver 98 = .ok (.iadd, 1) := by decide +kernel
theorem dX7_turnOver_99 : decode cX7_turnOver 99 = .ok (.iaload, 1) := by decide +kernel
theorem dX7_turnOver_100 : decode cX7_turnOver 100 = .ok (.iastore, 1) := by decide +kernel
theorem dX7_turnOver_101 : decode cX7_turnOver 101 = .ok (.iinc 2 1, 3) := by decide +kernel
theorem dX7_turnOver_104 : decode cX7_turnOver 104 = .ok (.goto (-83), 3) := by decide +kernel
theorem dX7_turnOver_107 : decode cX7_turnOver 107 = .ok (.aload_n 0, 1) := by decide +kernel
theorem dX7_turnOver_108 : decode cX7_turnOver 108 = .ok (.invokevirtual 38, 3) := by decide +kernel
theorem dX7_turnOver_111 : decode cX7_turnOver 111 = .ok (.aload_n 0, 1) := by decide +kernel
theorem dX7_turnOver_112 : decode cX7_turnOver 112 = .ok (.invokevirtual 128, 3) := by decide +kernel
theorem dX7_turnOver_115 : decode cX7_turnOver 115 = .ok (.isub, 1) := by decide +kernel
theorem dX7_turnOver_116 : decode cX7_turnOver 116 = .ok (.ireturn, 1) := by decide +kernel
set_option maxRecDepth 20000 in
theorem ggX7_solve_X7_empties : GoodIn wsX7_solve wsX7_empties := goodIn_r _ [7, 8, 9, 10, 11, 6, 12, 70, 71, 72, 73, 74, 75, 76, 77, 78, 79, 80, 81, 82, 83, 84, 85] (by decide +kernel) (by decide +kernel)
set_option maxRecDepth 20000 in
theorem gX7_solve_X7_empties : GoodIn wsX7_solve (wsV RX7 128 RX7 yX7_empties wsX7_empties) := goodIn_app (goodIn_of _ (by decide +kernel)) ggX7_solve_X7_empties
set_option maxRecDepth 20000 in
theorem ggX7_solve_X7_search : GoodIn wsX7_solve wsX7_search := goodIn_r _ [16, 8, 17, 1, 18, 19, 9, 10, 11, 6, 12, 20, 21, 22, 23, 24, 25, 26, 27, 28, 29, 30, 31, 32, 33, 34, 35, 36, 37, 38, 39, 40, 41, 42, 43, 44, 45, 46, 47, 48, 49, 50, 51, 52, 53, 54, 55, 56, 57, 58, 59, 60, 61, 62, 63, 70, 71, 72, 73, 74, 75, 76, 77, 78, 79, 80, 81, 82, 83, 84, 85] (by decide +kernel) (by decide +kernel)
set_option maxRecDepth 20000 in
theorem gX7_solve_X7_search : GoodIn wsX7_solve (wsV RX7 134 RX7 yX7_search wsX7_search) := goodIn_app (goodIn_of _ (by decide +kernel)) ggX7_solve_X7_search
set_option maxRecDepth 20000 in
theorem ggX7_solve_X7_save : GoodIn wsX7_solve wsX7_save := goodIn_r _ [67, 68, 69, 8, 70, 71, 72, 73, 74, 75, 76, 77, 78, 79, 80, 81, 82, 83, 84, 85] (by decide +kernel) (by decide +kernel)
set_option maxRecDepth 20000 in
theorem gX7_solve_X7_save : GoodIn wsX7_solve (wsV RX7 104 RX7 yX7_save wsX7_save) := goodIn_app (goodIn_of _ (by decide +kernel)) ggX7_solve_X7_save
theorem dX7_solve_0 : decode cX7_solve 0 = .ok (.aload_n 0, 1) := by decide +kernel
theorem dX7_solve_1 : decode cX7_solve 1 = .ok (.invokevirtual 128, 3) := by decide +kernel
theorem dX7_solve_4 : decode cX7_solve 4 = .ok (.istore_n 1, 1) := by decide +kernel
theorem dX7_solve_5 : decode cX7_solve 5 = .ok (.aload_n 0, 1) := by decide +kernel
theorem dX7_solve_6 : decode cX7_solve 6 = .ok (.iconst 1, 1) := by decide +kernel
theorem dX7_solve_7 : decode cX7_solve 7 = .ok (.iconst 0, 1) := by decide +kernel
theorem dX7_solve_8 : decode cX7_solve 8 = .ok (.invokevirtual 134, 3) := by decide +kernel
theorem dX7_solve_11 : decode cX7_solve 11 = .ok (.aload_n 0, 1) := by decide +kernel
theorem dX7_solve_12 : decode cX7_solve 12 = .ok (.aload_n 0, 1) := by decide +kernel
theorem dX7_solve_13 : decode cX7_solve 13 = .ok (.getfield 85, 3) := by decide +kernel
theorem dX7_solve_16 : decode cX7_solve 16 = .ok (.iconst 1, 1) := by decide +kernel
theorem dX7_solve_17 : decode cX7_solve 17 = .ok (.if_icmp .ne 7, 3) := by decide +kernel
theorem dX7_solve_20 : decode cX7_solve 20 = .ok (.iconst 0, 1) := by decide +kernel
theorem dX7_solve_21 : decode cX7_solve 21 = .ok (.goto 4, 3) := by decide +kernel
theorem dX7_solve_24 : decode cX7_solve 24 = .ok (.iconst 1, 1) := by decide +kernel
theorem dX7_solve_25 : decode cX7_solve 25 = .ok (.putfield 34, 3) := by decide +kernel
theorem dX7_solve_28 : decode cX7_solve 28 = .ok (.aload_n 0, 1) := by decide +kernel
theorem dX7_solve_29 : decode cX7_solve 29 = .ok (.getfield 34, 3) := by decide +kernel
theorem dX7_solve_32 : decode cX7_solve 32 = .ok (.ifCond .le 5, 3) := by decide +kernel
theorem dX7_solve_35 : decode cX7_solve 35 = .ok (.iconst 0, 1) := by decide +kernel
theorem dX7_solve_36 : decode cX7_solve 36 = .ok (.ireturn, 1) := by decide +kernel
theorem dX7_solve_37 : decode cX7_solve 37 = .ok (.aload_n 0, 1) := by decide +kernel
theorem dX7_solve_38 : decode cX7_solve 38 = .ok (.invokevirtual 104, 3) := by decide +kernel
theorem dX7_solve_41 : decode cX7_solve 41 = .ok (.aload_n 0, 1) := by decide +kernel
theorem dX7_solve_42 : decode cX7_solve 42 = .ok (.iconst 1, 1) := by decide +kernel
theorem dX7_solve_43 : decode cX7_solve 43 = .ok (.iconst 1, 1) := by decide +kernel
theorem dX7_solve_44 : decode cX7_solve 44 = .ok (.invokevirtual 134, 3) := by decide +kernel
theorem dX7_solve_47 : decode cX7_solve 47 = .ok (.iload_n 1, 1) := by decide +kernel
theorem dX7_solve_48 : decode cX7_solve 48 = .ok (.ireturn, 1) := by decide +kernel
set_option maxRecDepth 20000 in
theorem ggX7_readText_X7_within : GoodIn wsX7_readText wsX7_within := goodIn_r _ [8] (by decide +kernel) (by decide +kernel)
set_option maxRecDepth 20000 in
theorem gX7_readText_X7_within : GoodIn wsX7_readText (va_wsS RX7 42 yX7_within wsX7_within) := goodIn_app (goodIn_of _ (by decide +kernel)) ggX7_readText_X7_within
theorem dX7_readText_0 : decode cX7_readText 0 = .ok (.aload_n 0, 1) := by decide +kernel
theorem dX7_readText_1 : decode cX7_readText 1 = .ok (.iconst 0, 1) := by decide +kernel
theorem dX7_readText_2 : decode cX7_readText 2 = .ok (.putfield 138, 3) := by decide +kernel
theorem dX7_readText_5 : decode cX7_readText 5 = .ok (.iconst 0, 1) := by decide +kernel
theorem dX7_readText_6 : decode cX7_readText 6 = .ok (.istore_n 1, 1) := by decide +kernel
theorem dX7_readText_7 : decode cX7_readText 7 = .ok (.iload_n 1, 1) := by decide +kernel
theorem dX7_readText_8 : decode cX7_readText 8 = .ok (.aload_n 0, 1) := by decide +kernel
theorem dX7_readText_9 : decode cX7_readText 9 = .ok (.getfield 141, 3) := by decide +kernel
theorem dX7_readText_12 : decode cX7_readText 12 = .ok (.if_icmp .ge 147, 3) := by decide +kernel
theorem dX7_readText_15 : decode cX7_readText 15 = .ok (.iload_n 1, 1) := by decide +kernel
theorem dX7_readText_16 : decode cX7_readText 16 = .ok (.bipush 10, 2) := by decide +kernel
theorem dX7_readText_18 : decode cX7_readText 18 = .ok (.irem, 1) := by decide +kernel
theorem dX7_readText_19 : decode cX7_readText 19 = .ok (.istore_n 2, 1) := by decide +kernel
theorem dX7_readText_20 : decode cX7_readText 20 = .ok (.aload_n 0, 1) := by decide +kernel
theorem dX7_readText_21 : decode cX7_readText 21 = .ok (.getfield 16, 3) := by decide +kernel
theorem dX7_readText_24 : decode cX7_readText 24 = .ok (.iload_n 1, 1) := by decide +kernel
theorem dX7_readText_25 : decode cX7_readText 25 = .ok (.iaload, 1) := by decide +kernel
theorem dX7_readText_26 : decode cX7_readText 26 = .ok (.istore_n 3, 1) := by decide +kernel
theorem dX7_readText_27 : decode cX7_readText 27 = .ok (.iload_n 2, 1) := by decide +kernel
theorem dX7_readText_28 : decode cX7_readText 28 = .ok (.iconst 4, 1) := by decide +kernel
theorem dX7_readText_29 : decode cX7_readText 29 = .ok (.if_icmp .ne 17, 3) := by decide +kernel
theorem dX7_readText_32 : decode cX7_readText 32 = .ok (.iload_n 3, 1) := by decide +kernel
theorem dX7_readText_33 : decode cX7_readText 33 = .ok (.bipush 47, 2) := by decide +kernel
theorem dX7_readText_35 : decode cX7_readText 35 = .ok (.if_icmp .ne 7, 3) := by decide +kernel
theorem dX7_readText_38 : decode cX7_readText 38 = .ok (.iconst 1, 1) := by decide +kernel
theorem dX7_readText_39 : decode cX7_readText 39 = .ok (.goto 35, 3) := by decide +kernel
theorem dX7_readText_42 : decode cX7_readText 42 = .ok (.iconst 0, 1) := by decide +kernel
theorem dX7_readText_43 : decode cX7_readText 43 = .ok (.goto 31, 3) := by decide +kernel
theorem dX7_readText_46 : decode cX7_readText 46 = .ok (.iload_n 2, 1) := by decide +kernel
theorem dX7_readText_47 : decode cX7_readText 47 = .ok (.bipush 9, 2) := by decide +kernel
theorem dX7_readText_49 : decode cX7_readText 49 = .ok (.if_icmp .ne 17, 3) := by decide +kernel
theorem dX7_readText_52 : decode cX7_readText 52 = .ok (.iload_n 3, 1) := by decide +kernel
theorem dX7_readText_53 : decode cX7_readText 53 = .ok (.bipush 59, 2) := by decide +kernel
theorem dX7_readText_55 : decode cX7_readText 55 = .ok (.if_icmp .ne 7, 3) := by decide +kernel
theorem dX7_readText_58 : decode cX7_readText 58 = .ok (.iconst 1, 1) := by decide +kernel
theorem dX7_readText_59 : decode cX7_readText 59 = .ok (.goto 15, 3) := by decide +kernel
theorem dX7_readText_62 : decode cX7_readText 62 = .ok (.iconst 0, 1) := by decide +kernel
theorem dX7_readText_63 : decode cX7_readText 63 = .ok (.goto 11, 3) := by decide +kernel
theorem dX7_readText_66 : decode cX7_readText 66 = .ok (.iload_n 3, 1) := by decide +kernel
theorem dX7_readText_67 : decode cX7_readText 67 = .ok (.bipush 48, 2) := by decide +kernel
theorem dX7_readText_69 : decode cX7_readText 69 = .ok (.bipush 57, 2) := by decide +kernel
theorem dX7_readText_71 : decode cX7_readText 71 = .ok (.invokestatic 42, 3) := by decide +kernel
theorem dX7_readText_74 : decode cX7_readText 74 = .ok (.istore 4, 2) := by decide +kernel
theorem dX7_readText_76 : decode cX7_readText 76 = .ok (.iload 4, 2) := by decide +kernel
theorem dX7_readText_78 : decode cX7_readText 78 = .ok (.ifCond .ne 5, 3) := by decide +kernel
theorem dX7_readText_81 : decode cX7_readText 81 = .ok (.iload_n 1, 1) := by decide +kernel
theorem dX7_readText_82 : decode cX7_readText 82 = .ok (.ireturn, 1) := by decide +kernel
theorem dX7_readText_83 : decode cX7_readText 83 = .ok (.iload_n 2, 1) := by decide +kernel
theorem dX7_readText_84 : decode cX7_readText 84 = .ok (.ifCond .eq 8, 3) := by decide +kernel
theorem dX7_readText_87 : decode cX7_readText 87 = .ok (.iload_n 2, 1) := by decide +kernel
theorem dX7_readText_88 : decode cX7_readText 88 = .ok (.iconst 5, 1) := by decide +kernel
theorem dX7_readText_89 : decode cX7_readText 89 = .ok (.if_icmp .ne 23, 3) := by decide +kernel
theorem dX7_readText_92 : decode cX7_readText 92 = .ok (.aload_n 0, 1) := by decide +kernel
theorem dX7_readText_93 : decode cX7_readText 93 = .ok (.getfield 25, 3) := by decide +kernel
theorem dX7_readText_96 : decode cX7_readText 96 = .ok (.aload_n 0, 1) := by decide +kernel
theorem dX7_readText_97 : decode cX7_readText 97 = .ok (.getfield 138, 3) := by decide +kernel
theorem dX7_readText_100 : decode cX7_readText 100 = .ok (.iconst 0, 1) := by decide +kernel
theorem dX7_readText_101 : decode cX7_readText 101 = .ok (.iastore, 1) := by decide +kernel
theorem dX7_readText_102 : decode cX7_readText 102 = .ok (.aload_n 0, 1) := by decide +kernel
theorem dX7_readText_103 : decode cX7_readText 103 = .ok (.dup, 1) := by decide +kernel
theorem dX7_readText_104 : decode cX7_readText 104 = .ok (.getfield 138, 3) := by decide +kernel
theorem dX7_readText_107 : decode cX7_readText 107 = .ok (.iconst 1, 1) := by decide +kernel
theorem dX7_readText_108 : decode cX7_readText 108 = .ok (.iadd, 1) := by decide +kernel
theorem dX7_readText_109 : decode cX7_readText 109 = .ok (.putfield 138, 3) := by decide +kernel
theorem dX7_readText_112 : decode cX7_readText 112 = .ok (.iload_n 2, 1) := by decide +kernel
theorem dX7_readText_113 : decode cX7_readText 113 = .ok (.iconst 4, 1) := by decide +kernel
theorem dX7_readText_114 : decode cX7_readText 114 = .ok (.if_icmp .eq 39, 3) := by decide +kernel
theorem dX7_readText_117 : decode cX7_readText 117 = .ok (.iload_n 2, 1) := by decide +kernel
theorem dX7_readText_118 : decode cX7_readText 118 = .ok (.bipush 9, 2) := by decide +kernel
theorem dX7_readText_120 : decode cX7_readText 120 = .ok (.if_icmp .eq 33, 3) := by decide +kernel
theorem dX7_readText_123 : decode cX7_readText 123 = .ok (.aload_n 0, 1) := by decide +kernel
theorem dX7_readText_124 : decode cX7_readText 124 = .ok (.getfield 25, 3) := by decide +kernel
theorem dX7_readText_127 : decode cX7_readText 127 = .ok (.aload_n 0, 1) := by decide +kernel
theorem dX7_readText_128 : decode cX7_readText 128 = .ok (.getfield 138, 3) := by decide +kernel
theorem dX7_readText_131 : decode cX7_readText 131 = .ok (.iconst 1, 1) := by decide +kernel
theorem dX7_readText_132 : decode cX7_readText 132 = .ok (.isub, 1) := by decide +kernel
theorem dX7_readText_133 : decode cX7_readText 133 = .ok (.bipush 10, 2) := by decide +kernel
theorem dX7_readText_135 : decode cX7_readText 135 = .ok (.aload_n 0, 1) := by decide +kernel
theorem dX7_readText_136 : decode cX7_readText 136 = .ok (.getfield 25, 3) := by decide +kernel
theorem dX7_readText_139 : decode cX7_readText 139 = .ok (.aload_n 0, 1) := by decide +kernel
theorem dX7_readText_140 : decode cX7_readText 140 = .ok (.getfield 138, 3) := by decide +kernel
theorem dX7_readText_143 : decode cX7_readText 143 = .ok (.iconst 1, 1) := by decide +kernel
theorem dX7_readText_144 : decode cX7_readText 144 = .ok (.isub, 1) := by decide +kernel
theorem dX7_readText_145 : decode cX7_readText 145 = .ok (.iaload, 1) := by decide +kernel
theorem dX7_readText_146 : decode cX7_readText 146 = .ok (.imul, 1) := by decide +kernel
theorem dX7_readText_147 : decode cX7_readText 147 = .ok (.iload_n 3, 1) := by decide +kernel
theorem dX7_readText_148 : decode cX7_readText 148 = .ok (.iadd, 1) := by decide +kernel
theorem dX7_readText_149 : decode cX7_readText 149 = .ok (.bipush 48, 2) := by decide +kernel
theorem dX7_readText_151 : decode cX7_readText 151 = .ok (.isub, 1) := by decide +kernel
theorem dX7_readText_152 : decode cX7_readText 152 = .ok (.iastore, 1) := by decide +kernel
theorem dX7_readText_153 : decode cX7_readText 153 = .ok (.iinc 1 1, 3) := by decide +kernel
theorem dX7_readText_156 : decode cX7_readText 156 = .ok (.goto (-149), 3) := by decide +kernel
theorem dX7_readText_159 : decode cX7_readText 159 = .ok (.aload_n 0, 1) := by decide +kernel
theorem dX7_readText_160 : decode cX7_readText 160 = .ok (.getfield 141, 3) := by decide +kernel
theorem dX7_readText_163 : decode cX7_readText 163 = .ok (.ireturn, 1) := by decide +kernel
set_option maxRecDepth 20000 in
theorem ggX7_firstError_X7_readText : GoodIn wsX7_firstError wsX7_readText := goodIn_r _ [6, 7, 8, 9, 10, 11, 12, 5, 13, 14, 15, 16, 17, 18, 19, 20, 21, 22, 23, 24, 25, 26, 27, 28, 29] (by decide +kernel) (by decide +kernel)
set_option maxRecDepth 20000 in
theorem gX7_firstError_X7_readText : GoodIn wsX7_firstError (wsV RX7 144 RX7 yX7_readText wsX7_readText) := goodIn_app (goodIn_of _ (by decide +kernel)) ggX7_firstError_X7_readText
theorem dX7_firstError_0 : decode cX7_firstError 0 = .ok (.aload_n 0, 1) := by decide +kernel
theorem dX7_firstError_1 : decode cX7_firstError 1 = .ok (.iconst 0, 1) := by decide +kernel
theorem dX7_firstError_2 : decode cX7_firstError 2 = .ok (.putfield 34, 3) := by decide +kernel
theorem dX7_firstError_5 : decode cX7_firstError 5 = .ok (.aload_n 0, 1) := by decide +kernel
theorem dX7_firstError_6 : decode cX7_firstError 6 = .ok (.invokevirtual 144, 3) := by decide +kernel
theorem dX7_firstError_9 : decode cX7_firstError 9 = .ok (.ireturn, 1) := by decide +kernel
set_option maxRecDepth 20000 in
theorem ggX7_append_X7_within : GoodIn wsX7_append wsX7_within := goodIn_r _ [7] (by decide +kernel) (by decide +kernel)
set_option maxRecDepth 20000 in
theorem gX7_append_X7_within : GoodIn wsX7_append (va_wsS RX7 42 yX7_within wsX7_within) := goodIn_app (goodIn_of _ (by decide +kernel)) ggX7_append_X7_within
theorem dX7_append_0 : decode cX7_append 0 = .ok (.aload_n 0, 1) := by decide +kernel
theorem dX7_append_1 : decode cX7_append 1 = .ok (.iload_n 1, 1) := by decide +kernel
theorem dX7_append_2 : decode cX7_append 2 = .ok (.bipush 33, 2) := by decide +kernel
theorem dX7_append_4 : decode cX7_append 4 = .ok (.bipush 126, 2) := by decide +kernel
theorem dX7_append_6 : decode cX7_append 6 = .ok (.invokestatic 42, 3) := by decide +kernel
theorem dX7_append_9 : decode cX7_append 9 = .ok (.ifCond .ne 7, 3) := by decide +kernel
theorem dX7_append_12 : decode cX7_append 12 = .ok (.iconst 1, 1) := by decide +kernel
theorem dX7_append_13 : decode cX7_append 13 = .ok (.goto 17, 3) := by decide +kernel
theorem dX7_append_16 : decode cX7_append 16 = .ok (.aload_n 0, 1) := by decide +kernel
theorem dX7_append_17 : decode cX7_append 17 = .ok (.getfield 141, 3) := by decide +kernel
theorem dX7_append_20 : decode cX7_append 20 = .ok (.bipush 60, 2) := by decide +kernel
theorem dX7_append_22 : decode cX7_append 22 = .ok (.if_icmp .ne 7, 3) := by decide +kernel
theorem dX7_append_25 : decode cX7_append 25 = .ok (.iconst 2, 1) := by decide +kernel
theorem dX7_append_26 : decode cX7_append 26 = .ok (.goto 4, 3) := by decide +kernel
theorem dX7_append_29 : decode cX7_append 29 = .ok (.iconst 0, 1) := by decide +kernel
theorem dX7_append_30 : decode cX7_append 30 = .ok (.putfield 34, 3) := by decide +kernel
theorem dX7_append_33 : decode cX7_append 33 = .ok (.aload_n 0, 1) := by decide +kernel
theorem dX7_append_34 : decode cX7_append 34 = .ok (.getfield 34, 3) := by decide +kernel
theorem dX7_append_37 : decode cX7_append 37 = .ok (.ifCond .le 5, 3) := by decide +kernel
theorem dX7_append_40 : decode cX7_append 40 = .ok (.iconst 0, 1) := by decide +kernel
theorem dX7_append_41 : decode cX7_append 41 = .ok (.ireturn, 1) := by decide +kernel
theorem dX7_append_42 : decode cX7_append 42 = .ok (.aload_n 0, 1) := by decide +kernel
theorem dX7_append_43 : decode cX7_append 43 = .ok (.getfield 16, 3) := by decide +kernel
theorem dX7_append_46 : decode cX7_append 46 = .ok (.aload_n 0, 1) := by decide +kernel
theorem dX7_append_47 : decode cX7_append 47 = .ok (.getfield 141, 3) := by decide +kernel
theorem dX7_append_50 : decode cX7_append 50 = .ok (.iload_n 1, 1) := by decide +kernel
theorem dX7_append_51 : decode cX7_append 51 = .ok (.iastore, 1) := by decide +kernel
theorem dX7_append_52 : decode cX7_append 52 = .ok (.aload_n 0, 1) := by decide +kernel
theorem dX7_append_53 : decode cX7_append 53 = .ok (.dup, 1) := by decide +kernel
theorem dX7_append_54 : decode cX7_append 54 = .ok (.getfield 141, 3) := by decide +kernel
theorem dX7_append_57 : decode cX7_append 57 = .ok (.iconst 1, 1) := by decide +kernel
theorem dX7_append_58 : decode cX7_append 58 = .ok (.iadd, 1) := by decide +kernel
theorem dX7_append_59 : decode cX7_append 59 = .ok (.putfield 141, 3) := by decide +kernel
theorem dX7_append_62 : decode cX7_append 62 = .ok (.aload_n 0, 1) := by decide +kernel
theorem dX7_append_63 : decode cX7_append 63 = .ok (.getfield 141, 3) := by decide +kernel
theorem dX7_append_66 : decode cX7_append 66 = .ok (.ireturn, 1) := by decide +kernel
theorem dX7_clearBuffer_0 : decode cX7_clearBuffer 0 = .ok (.aload_n 0, 1) := by decide +kernel
theorem dX7_clearBuffer_1 : decode cX7_clearBuffer 1 = .ok (.iconst 0, 1) := by decide +kernel
theorem dX7_clearBuffer_2 : decode cX7_clearBuffer 2 = .ok (.putfield 34, 3) := by decide +kernel
theorem dX7_clearBuffer_5 : decode cX7_clearBuffer 5 = .ok (.aload_n 0, 1) := by decide +kernel
theorem dX7_clearBuffer_6 : decode cX7_clearBuffer 6 = .ok (.getfield 141, 3) := by decide +kernel
theorem dX7_clearBuffer_9 : decode cX7_clearBuffer 9 = .ok (.istore_n 1, 1) := by decide +kernel
theorem dX7_clearBuffer_10 : decode cX7_clearBuffer 10 = .ok (.aload_n 0, 1) := by decide +kernel
theorem dX7_clearBuffer_11 : decode cX7_clearBuffer 11 = .ok (.iconst 0, 1) := by decide +kernel
theorem dX7_clearBuffer_12 : decode cX7_clearBuffer 12 = .ok (.putfield 141, 3) := by decide +kernel
theorem dX7_clearBuffer_15 : decode cX7_clearBuffer 15 = .ok (.iload_n 1, 1) := by decide +kernel
theorem dX7_clearBuffer_16 : decode cX7_clearBuffer 16 = .ok (.ireturn, 1) := by decide +kernel
set_option maxRecDepth 20000 in
theorem ggX7_load_X7_readText : GoodIn wsX7_load wsX7_readText := goodIn_r _ [10, 3, 1, 11, 5, 12, 13, 9, 14, 25, 26, 27, 28, 29, 30, 31, 32, 33, 34, 35, 36, 37, 38, 39, 40] (by decide +kernel) (by decide +kernel)
set_option maxRecDepth 20000 in
theorem gX7_load_X7_readText : GoodIn wsX7_load (wsV RX7 144 RX7 yX7_readText wsX7_readText) := goodIn_app (goodIn_of _ (by decide +kernel)) ggX7_load_X7_readText
set_option maxRecDepth 20000 in
theorem ggX7_load_X7_save : GoodIn wsX7_load wsX7_save := goodIn_r _ [18, 19, 20, 2, 25, 26, 27, 28, 29, 30, 31, 32, 33, 34, 35, 36, 37, 38, 39, 40] (by decide +kernel) (by decide +kernel)
set_option maxRecDepth 20000 in
theorem gX7_load_X7_save : GoodIn wsX7_load (wsV RX7 104 RX7 yX7_save wsX7_save) := goodIn_app (goodIn_of _ (by decide +kernel)) ggX7_load_X7_save
set_option maxRecDepth 20000 in
theorem ggX7_load_X7_bring : GoodIn wsX7_load wsX7_bring := goodIn_r _ [24, 2, 25, 26, 27, 28, 29, 30, 31, 32, 33, 34, 35, 36, 37, 38, 39, 40] (by decide +kernel) (by decide +kernel)
set_option maxRecDepth 20000 in
theorem gX7_load_X7_bring : GoodIn wsX7_load (wsV RX7 107 RX7 yX7_bring wsX7_bring) := goodIn_app (goodIn_of _ (by decide +kernel)) ggX7_load_X7_bring
theorem dX7_load_0 : decode cX7_load 0 = .ok (.aload_n 0, 1) := by decide +kernel
theorem dX7_load_1 : decode cX7_load 1 = .ok (.invokevirtual 144, 3) := by decide +kernel
theorem dX7_load_4 : decode cX7_load 4 = .ok (.aload_n 0, 1) := by decide +kernel
theorem dX7_load_5 : decode cX7_load 5 = .ok (.getfield 141, 3) := by decide +kernel
theorem dX7_load_8 : decode cX7_load 8 = .ok (.if_icmp .ne 19, 3) := by decide +kernel
theorem dX7_load_11 : decode cX7_load 11 = .ok (.aload_n 0, 1) := by decide +kernel
theorem dX7_load_12 : decode cX7_load 12 = .ok (.getfield 141, 3) := by decide +kernel
theorem dX7_load_15 : decode cX7_load 15 = .ok (.bipush 10, 2) := by decide +kernel
theorem dX7_load_17 : decode cX7_load 17 = .ok (.irem, 1) := by decide +kernel
theorem dX7_load_18 : decode cX7_load 18 = .ok (.bipush 9, 2) := by decide +kernel
theorem dX7_load_20 : decode cX7_load 20 = .ok (.if_icmp .ne 7, 3) := by decide +kernel
theorem dX7_load_23 : decode cX7_load 23 = .ok (.iconst 1, 1) := by decide +kernel
theorem dX7_load_24 : decode cX7_load 24 = .ok (.goto 4, 3) := by decide +kernel
theorem dX7_load_27 : decode cX7_load 27 = .ok (.iconst 0, 1) := by decide +kernel
theorem dX7_load_28 : decode cX7_load 28 = .ok (.istore_n 1, 1) := by decide +kernel
theorem dX7_load_29 : decode cX7_load 29 = .ok (.aload_n 0, 1) := by decide +kernel
theorem dX7_load_30 : decode cX7_load 30 = .ok (.iload_n 1, 1) := by decide +kernel
theorem dX7_load_31 : decode cX7_load 31 = .ok (.ifCond .ne 7, 3) := by decide +kernel
theorem dX7_load_34 : decode cX7_load 34 = .ok (.iconst 1, 1) := by decide +kernel
theorem dX7_load_35 : decode cX7_load 35 = .ok (.goto 26, 3) := by decide +kernel
theorem dX7_load_38 : decode cX7_load 38 = .ok (.aload_n 0, 1) := by decide +kernel
theorem dX7_load_39 : decode cX7_load 39 = .ok (.getfield 7, 3) := by decide +kernel
theorem dX7_load_42 : decode cX7_load 42 = .ok (.iconst 3, 1) := by decide +kernel
theorem dX7_load_43 : decode cX7_load 43 = .ok (.iaload, 1) := by decide +kernel
theorem dX7_load_44 : decode cX7_load 44 = .ok (.aload_n 0, 1) := by decide +kernel
theorem dX7_load_45 : decode cX7_load 45 = .ok (.getfield 138, 3) := by decide +kernel
theorem dX7_load_48 : decode cX7_load 48 = .ok (.iconst 2, 1) := by decide +kernel
theorem dX7_load_49 : decode cX7_load 49 = .ok (.idiv, 1) := by decide +kernel
theorem dX7_load_50 : decode cX7_load 50 = .ok (.iadd, 1) := by decide +kernel
theorem dX7_load_51 : decode cX7_load 51 = .ok (.bipush 12, 2) := by decide +kernel
theorem dX7_load_53 : decode cX7_load 53 = .ok (.if_icmp .le 7, 3) := by decide +kernel
theorem dX7_load_56 : decode cX7_load 56 = .ok (.iconst 2, 1) := by decide +kernel
theorem dX7_load_57 : decode cX7_load 57 = .ok (.goto 4, 3) := by decide +kernel
theorem dX7_load_60 : decode cX7_load 60 = .ok (.iconst 0, 1) := by decide +kernel
theorem dX7_load_61 : decode cX7_load 61 = .ok (.putfield 34, 3) := by decide +kernel
theorem dX7_load_64 : decode cX7_load 64 = .ok (.aload_n 0, 1) := by decide +kernel
theorem dX7_load_65 : decode cX7_load 65 = .ok (.getfield 34, 3) := by decide +kernel
theorem dX7_load_68 : decode cX7_load 68 = .ok (.ifCond .le 5, 3) := by decide +kernel
theorem dX7_load_71 : decode cX7_load 71 = .ok (.iconst 0, 1) := by decide +kernel
theorem dX7_load_72 : decode cX7_load 72 = .ok (.ireturn, 1) := by decide +kernel
theorem dX7_load_73 : decode cX7_load 73 = .ok (.aload_n 0, 1) := by decide +kernel
theorem dX7_load_74 : decode cX7_load 74 = .ok (.invokevirtual 104, 3) := by decide +kernel
theorem dX7_load_77 : decode cX7_load 77 = .ok (.iconst 0, 1) := by decide +kernel
theorem dX7_load_78 : decode cX7_load 78 = .ok (.istore_n 2, 1) := by decide +kernel
theorem dX7_load_79 : decode cX7_load 79 = .ok (.iload_n 2, 1) := by decide +kernel
theorem dX7_load_80 : decode cX7_load 80 = .ok (.aload_n 0, 1) := by decide +kernel
theorem dX7_load_81 : decode cX7_load 81 = .ok (.getfield 138, 3) := by decide +kernel
theorem dX7_load_84 : decode cX7_load 84 = .ok (.if_icmp .ge 27, 3) := by decide +kernel
theorem dX7_load_87 : decode cX7_load 87 = .ok (.aload_n 0, 1) := by decide +kernel
theorem dX7_load_88 : decode cX7_load 88 = .ok (.aload_n 0, 1) := by decide +kernel
theorem dX7_load_89 : decode cX7_load 89 = .ok (.getfield 25, 3) := by decide +kernel
theorem dX7_load_92 : decode cX7_load 92 = .ok (.iload_n 2, 1) := by decide +kernel
theorem dX7_load_93 : decode cX7_load 93 = .ok (.iaload, 1) := by decide +kernel
theorem dX7_load_94 : decode cX7_load 94 = .ok (.aload_n 0, 1) := by decide +kernel
theorem dX7_load_95 : decode cX7_load 95 = .ok (.getfield 25, 3) := by decide +kernel
theorem dX7_load_98 : decode cX7_load 98 = .ok (.iload_n 2, 1) := by decide +kernel
theorem dX7_load_99 : decode cX7_load 99 = .ok (.iconst 1, 1) := by decide +kernel
theorem dX7_load_100 : decode cX7_load 100 = .ok (.iadd, 1) := by decide +kernel
theorem dX7_load_101 : decode cX7_load 101 = .ok (.iaload, 1) := by decide +kernel
theorem dX7_load_102 : decode cX7_load 102 = .ok (.invokevirtual 107, 3) := by decide +kernel
theorem dX7_load_105 : decode cX7_load 105 = .ok (.iinc 2 2, 3) := by decide +kernel
theorem dX7_load_108 : decode cX7_load 108 = .ok (.goto (-29), 3) := by decide +kernel
theorem dX7_load_111 : decode cX7_load 111 = .ok (.aload_n 0, 1) := by decide +kernel
theorem dX7_load_112 : decode cX7_load 112 = .ok (.iconst 0, 1) := by decide +kernel
theorem dX7_load_113 : decode cX7_load 113 = .ok (.putfield 141, 3) := by decide +kernel
theorem dX7_load_116 : decode cX7_load 116 = .ok (.aload_n 0, 1) := by decide +kernel
theorem dX7_load_117 : decode cX7_load 117 = .ok (.getfield 7, 3) := by decide +kernel
theorem dX7_load_120 : decode cX7_load 120 = .ok (.iconst 3, 1) := by decide +kernel
theorem dX7_load_121 : decode cX7_load 121 = .ok (.iaload, 1) := by decide +kernel
theorem dX7_load_122 : decode cX7_load 122 = .ok (.ireturn, 1) := by decide +kernel
set_option maxRecDepth 20000 in
theorem ggX7_cellNow_X7_possibleMany : GoodIn wsX7_cellNow wsX7_possibleMany := goodIn_r _ [6, 1, 7, 8, 9, 5, 10, 11, 12, 13, 14, 15, 16, 17, 18, 19, 20, 21, 22, 23, 24, 25, 26, 27, 28, 29, 30, 31, 32, 33, 34, 35, 36, 37, 38, 39, 40, 41, 42, 43, 44, 45, 46, 47, 48, 49, 50, 55, 56, 57, 58, 59, 60, 61, 62, 63, 64, 65, 66, 67, 68, 69, 70] (by decide +kernel) (by decide +kernel)
set_option maxRecDepth 20000 in
theorem gX7_cellNow_X7_possibleMany : GoodIn wsX7_cellNow (wsV RX7 147 RX7 yX7_possibleMany wsX7_possibleMany) := goodIn_app (goodIn_of _ (by decide +kernel)) ggX7_cellNow_X7_possibleMany
set_option maxRecDepth 20000 in
theorem ggX7_cellNow_X7_possibleFrom : GoodIn wsX7_cellNow wsX7_possibleFrom := goodIn_r _ [54, 1, 7, 8, 9, 5, 10, 11, 12, 13, 14, 15, 16, 17, 18, 19, 20, 21, 22, 23, 24, 25, 26, 27, 28, 29, 30, 31, 32, 33, 34, 35, 36, 37, 38, 39, 40, 41, 42, 43, 44, 45, 46, 47, 48, 49, 50, 55, 56, 57, 58, 59, 60, 61, 62, 63, 64, 65, 66, 67, 68, 69, 70] (by decide +kernel) (by decide +kernel)
set_option maxRecDepth 20000 in
theorem gX7_cellNow_X7_possibleFrom : GoodIn wsX7_cellNow (wsV RX7 95 RX7 yX7_possibleFrom wsX7_possibleFrom) := goodIn_app (goodIn_of _ (by decide +kernel)) ggX7_cellNow_X7_possibleFrom
theorem dX7_cellNow_0 : decode cX7_cellNow 0 = .ok (.aload_n 0, 1) := by decide +kernel
theorem dX7_cellNow_1 : decode cX7_cellNow 1 = .ok (.getfield 7, 3) := by decide +kernel
theorem dX7_cellNow_4 : decode cX7_cellNow 4 = .ok (.bipush 28, 2) := by decide +kernel
theorem dX7_cellNow_6 : decode cX7_cellNow 6 = .ok (.iload_n 1, 1) := by decide +kernel
theorem dX7_cellNow_7 : decode cX7_cellNow 7 = .ok (.iadd, 1) := by decide +kernel
theorem dX7_cellNow_8 : decode cX7_cellNow 8 = .ok (.iaload, 1) := by decide +kernel
theorem dX7_cellNow_9 : decode cX7_cellNow 9 = .ok (.iconst (-1), 1) := by decide +kernel
theorem dX7_cellNow_10 : decode cX7_cellNow 10 = .ok (.if_icmp .ne 7, 3) := by decide +kernel
theorem dX7_cellNow_13 : decode cX7_cellNow 13 = .ok (.iconst 1, 1) := by decide +kernel
theorem dX7_cellNow_14 : decode cX7_cellNow 14 = .ok (.goto 4, 3) := by decide +kernel
theorem dX7_cellNow_17 : decode cX7_cellNow 17 = .ok (.iconst 0, 1) := by decide +kernel
theorem dX7_cellNow_18 : decode cX7_cellNow 18 = .ok (.istore_n 3, 1) := by decide +kernel
theorem dX7_cellNow_19 : decode cX7_cellNow 19 = .ok (.iload_n 2, 1) := by decide +kernel
theorem dX7_cellNow_20 : decode cX7_cellNow 20 = .ok (.tableswitch 62 0 2 #[28, 38, 48], 28) := by decide +kernel
theorem dX7_cellNow_48 : decode cX7_cellNow 48 = .ok (.aload_n 0, 1) := by decide +kernel
theorem dX7_cellNow_49 : decode cX7_cellNow 49 = .ok (.getfield 7, 3) := by decide +kernel
theorem dX7_cellNow_52 : decode cX7_cellNow 52 = .ok (.bipush 28, 2) := by decide +kernel
theorem dX7_cellNow_54 : decode cX7_cellNow 54 = .ok (.iload_n 1, 1) := by decide +kernel
theorem dX7_cellNow_55 : decode cX7_cellNow 55 = .ok (.iadd, 1) := by decide +kernel
theorem dX7_cellNow_56 : decode cX7_cellNow 56 = .ok (.iaload, 1) := by decide +kernel
theorem dX7_cellNow_57 : decode cX7_cellNow 57 = .ok (.ireturn, 1) := by decide +kernel
theorem dX7_cellNow_58 : decode cX7_cellNow 58 = .ok (.aload_n 0, 1) := by decide +kernel
theorem dX7_cellNow_59 : decode cX7_cellNow 59 = .ok (.getfield 7, 3) := by decide +kernel
theorem dX7_cellNow_62 : decode cX7_cellNow 62 = .ok (.bipush 40, 2) := by decide +kernel
theorem dX7_cellNow_64 : decode cX7_cellNow 64 = .ok (.iload_n 1, 1) := by decide +kernel
theorem dX7_cellNow_65 : decode cX7_cellNow 65 = .ok (.iadd, 1) := by decide +kernel
theorem dX7_cellNow_66 : decode cX7_cellNow 66 = .ok (.iaload, 1) := by decide +kernel
theorem dX7_cellNow_67 : decode cX7_cellNow 67 = .ok (.ireturn, 1) := by decide +kernel
theorem dX7_cellNow_68 : decode cX7_cellNow 68 = .ok (.iload_n 3, 1) := by decide +kernel
theorem dX7_cellNow_69 : decode cX7_cellNow 69 = .ok (.ifCond .eq 11, 3) := by decide +kernel
theorem dX7_cellNow_72 : decode cX7_cellNow 72 = .ok (.aload_n 0, 1) := by decide +kernel
theorem dX7_cellNow_73 : decode cX7_cellNow 73 = .ok (.iload_n 1, 1) := by decide +kernel
theorem dX7_cellNow_74 : decode cX7_cellNow 74 = .ok (.invokevirtual 147, 3) := by decide +kernel
theorem dX7_cellNow_77 : decode cX7_cellNow 77 = .ok (.goto 4, 3) := by decide +kernel
theorem dX7_cellNow_80 : decode cX7_cellNow 80 = .ok (.iconst 0, 1) := by decide +kernel
theorem dX7_cellNow_81 : decode cX7_cellNow 81 = .ok (.ireturn, 1) := by decide +kernel
theorem dX7_cellNow_82 : decode cX7_cellNow 82 = .ok (.iload_n 3, 1) := by decide +kernel
theorem dX7_cellNow_83 : decode cX7_cellNow 83 = .ok (.ifCond .eq 12, 3) := by decide +kernel
theorem dX7_cellNow_86 : decode cX7_cellNow 86 = .ok (.aload_n 0, 1) := by decide +kernel
theorem dX7_cellNow_87 : decode cX7_cellNow 87 = .ok (.iload_n 1, 1) := by decide +kernel
theorem dX7_cellNow_88 : decode cX7_cellNow 88 = .ok (.iconst 0, 1) := by decide +kernel
theorem dX7_cellNow_89 : decode cX7_cellNow 89 = .ok (.invokevirtual 95, 3) := by decide +kernel
theorem dX7_cellNow_92 : decode cX7_cellNow 92 = .ok (.goto 4, 3) := by decide +kernel
theorem dX7_cellNow_95 : decode cX7_cellNow 95 = .ok (.iconst (-1), 1) := by decide +kernel
theorem dX7_cellNow_96 : decode cX7_cellNow 96 = .ok (.ireturn, 1) := by decide +kernel
set_option maxRecDepth 20000 in
theorem ggX7_cell_X7_isCell : GoodIn wsX7_cell wsX7_isCell := goodIn_r _ [6, 7, 8, 9, 5, 10, 11, 12, 13, 14, 67, 68, 69, 70, 71, 72, 73, 74, 75, 76, 77, 78, 79, 80, 81, 82] (by decide +kernel) (by decide +kernel)
set_option maxRecDepth 20000 in
theorem gX7_cell_X7_isCell : GoodIn wsX7_cell (wsV RX7 122 RX7 yX7_isCell wsX7_isCell) := goodIn_app (goodIn_of _ (by decide +kernel)) ggX7_cell_X7_isCell
set_option maxRecDepth 20000 in
theorem ggX7_cell_X7_within : GoodIn wsX7_cell wsX7_within := goodIn_r _ [14] (by decide +kernel) (by decide +kernel)
set_option maxRecDepth 20000 in
theorem gX7_cell_X7_within : GoodIn wsX7_cell (va_wsS RX7 42 yX7_within wsX7_within) := goodIn_app (goodIn_of _ (by decide +kernel)) ggX7_cell_X7_within
set_option maxRecDepth 20000 in
theorem ggX7_cell_X7_cellNow : GoodIn wsX7_cell wsX7_cellNow := goodIn_r _ [18, 11, 19, 20, 21, 5, 22, 23, 24, 25, 26, 27, 28, 29, 30, 7, 8, 9, 10, 31, 32, 33, 34, 35, 36, 37, 38, 39, 40, 41, 42, 43, 44, 45, 46, 47, 48, 49, 50, 51, 52, 53, 54, 55, 56, 57, 58, 59, 60, 61, 62, 63, 64, 65, 66, 67, 68, 69, 70, 71, 72, 73, 74, 75, 76, 77, 78, 79, 80, 81, 82] (by decide +kernel) (by decide +kernel)
set_option maxRecDepth 20000 in
theorem gX7_cell_X7_cellNow : GoodIn wsX7_cell (wsV RX7 150 RX7 yX7_cellNow wsX7_cellNow) := goodIn_app (goodIn_of _ (by decide +kernel)) ggX7_cell_X7_cellNow
theorem dX7_cell_0 : decode cX7_cell 0 = .ok (.aload_n 0, 1) := by decide +kernel
theorem dX7_cell_1 : decode cX7_cell 1 = .ok (.aload_n 0, 1) := by decide +kernel
theorem dX7_cell_2 : decode cX7_cell 2 = .ok (.iload_n 1, 1) := by decide +kernel
theorem dX7_cell_3 : decode cX7_cell 3 = .ok (.invokevirtual 122, 3) := by decide +kernel
theorem dX7_cell_6 : decode cX7_cell 6 = .ok (.ifCond .ne 7, 3) := by decide +kernel
theorem dX7_cell_9 : decode cX7_cell 9 = .ok (.iconst 1, 1) := by decide +kernel
theorem dX7_cell_10 : decode cX7_cell 10 = .ok (.goto 17, 3) := by decide +kernel
theorem dX7_cell_13 : decode cX7_cell 13 = .ok (.iload_n 2, 1) := by decide +kernel
theorem dX7_cell_14 : decode cX7_cell 14 = .ok (.iconst 0, 1) := by decide +kernel
theorem dX7_cell_15 : decode cX7_cell 15 = .ok (.iconst 3, 1) := by decide +kernel
theorem dX7_cell_16 : decode cX7_cell 16 = .ok (.invokestatic 42, 3) := by decide +kernel
theorem dX7_cell_19 : decode cX7_cell 19 = .ok (.ifCond .eq 7, 3) := by decide +kernel
theorem dX7_cell_22 : decode cX7_cell 22 = .ok (.iconst 0, 1) := by decide +kernel
theorem dX7_cell_23 : decode cX7_cell 23 = .ok (.goto 4, 3) := by decide +kernel
theorem dX7_cell_26 : decode cX7_cell 26 = .ok (.iconst 2, 1) := by decide +kernel
theorem dX7_cell_27 : decode cX7_cell 27 = .ok (.putfield 34, 3) := by decide +kernel
theorem dX7_cell_30 : decode cX7_cell 30 = .ok (.aload_n 0, 1) := by decide +kernel
theorem dX7_cell_31 : decode cX7_cell 31 = .ok (.getfield 34, 3) := by decide +kernel
theorem dX7_cell_34 : decode cX7_cell 34 = .ok (.ifCond .le 7, 3) := by decide +kernel
theorem dX7_cell_37 : decode cX7_cell 37 = .ok (.iconst 0, 1) := by decide +kernel
theorem dX7_cell_38 : decode cX7_cell 38 = .ok (.goto 9, 3) := by decide +kernel
theorem dX7_cell_41 : decode cX7_cell 41 = .ok (.aload_n 0, 1) := by decide +kernel
theorem dX7_cell_42 : decode cX7_cell 42 = .ok (.iload_n 1, 1) := by decide +kernel
theorem dX7_cell_43 : decode cX7_cell 43 = .ok (.iload_n 2, 1) := by decide +kernel
theorem dX7_cell_44 : decode cX7_cell 44 = .ok (.invokevirtual 150, 3) := by decide +kernel
theorem dX7_cell_47 : decode cX7_cell 47 = .ok (.ireturn, 1) := by decide +kernel
set_option maxRecDepth 20000 in
theorem ggX7_colorNow_X7_colorOf : GoodIn wsX7_colorNow wsX7_colorOf := goodIn_r _ [6, 7, 8, 9, 5, 10, 1, 11, 12, 13, 14, 15, 16, 17, 18, 19, 20, 21, 22, 23, 24, 25, 26] (by decide +kernel) (by decide +kernel)
set_option maxRecDepth 20000 in
theorem gX7_colorNow_X7_colorOf : GoodIn wsX7_colorNow (wsV RX7 58 RX7 yX7_colorOf wsX7_colorOf) := goodIn_app (goodIn_of _ (by decide +kernel)) ggX7_colorNow_X7_colorOf
theorem dX7_colorNow_0 : decode cX7_colorNow 0 = .ok (.aload_n 0, 1) := by decide +kernel
theorem dX7_colorNow_1 : decode cX7_colorNow 1 = .ok (.getfield 7, 3) := by decide +kernel
theorem dX7_colorNow_4 : decode cX7_colorNow 4 = .ok (.bipush 28, 2) := by decide +kernel
theorem dX7_colorNow_6 : decode cX7_colorNow 6 = .ok (.iload_n 1, 1) := by decide +kernel
theorem dX7_colorNow_7 : decode cX7_colorNow 7 = .ok (.iadd, 1) := by decide +kernel
theorem dX7_colorNow_8 : decode cX7_colorNow 8 = .ok (.iaload, 1) := by decide +kernel
theorem dX7_colorNow_9 : decode cX7_colorNow 9 = .ok (.iconst (-1), 1) := by decide +kernel
theorem dX7_colorNow_10 : decode cX7_colorNow 10 = .ok (.if_icmp .ne 7, 3) := by decide +kernel
theorem dX7_colorNow_13 : decode cX7_colorNow 13 = .ok (.iconst (-1), 1) := by decide +kernel
theorem dX7_colorNow_14 : decode cX7_colorNow 14 = .ok (.goto 18, 3) := by decide +kernel
theorem dX7_colorNow_17 : decode cX7_colorNow 17 = .ok (.aload_n 0, 1) := by decide +kernel
theorem dX7_colorNow_18 : decode cX7_colorNow 18 = .ok (.aload_n 0, 1) := by decide +kernel
theorem dX7_colorNow_19 : decode cX7_colorNow 19 = .ok (.getfield 7, 3) := by decide +kernel
theorem dX7_colorNow_22 : decode cX7_colorNow 22 = .ok (.bipush 28, 2) := by decide +kernel
theorem dX7_colorNow_24 : decode cX7_colorNow 24 = .ok (.iload_n 1, 1) := by decide +kernel
theorem dX7_colorNow_25 : decode cX7_colorNow 25 = .ok (.iadd, 1) := by decide +kernel
theorem dX7_colorNow_26 : decode cX7_colorNow 26 = .ok (.iaload, 1) := by decide +kernel
theorem dX7_colorNow_27 : decode cX7_colorNow 27 = .ok (.iload_n 2, 1) := by decide +kernel
theorem dX7_colorNow_28 : decode cX7_colorNow 28 = .ok (.iload_n 3, 1) := by decide +kernel
theorem dX7_colorNow_29 : decode cX7_colorNow 29 = .ok (.invokevirtual 58, 3) := by decide +kernel
theorem dX7_colorNow_32 : decode cX7_colorNow 32 = .ok (.ireturn, 1) := by decide +kernel
set_option maxRecDepth 20000 in
theorem ggX7_color_X7_isCell : GoodIn wsX7_color wsX7_isCell := goodIn_r _ [6, 7, 8, 9, 5, 10, 11, 12, 13, 14, 27, 28, 29, 30, 31, 32, 33, 34, 35, 36, 37, 38, 39, 40, 41, 42] (by decide +kernel) (by decide +kernel)
set_option maxRecDepth 20000 in
theorem gX7_color_X7_isCell : GoodIn wsX7_color (wsV RX7 122 RX7 yX7_isCell wsX7_isCell) := goodIn_app (goodIn_of _ (by decide +kernel)) ggX7_color_X7_isCell
set_option maxRecDepth 20000 in
theorem ggX7_color_X7_within : GoodIn wsX7_color wsX7_within := goodIn_r _ [14] (by decide +kernel) (by decide +kernel)
set_option maxRecDepth 20000 in
theorem gX7_color_X7_within : GoodIn wsX7_color (va_wsS RX7 42 yX7_within wsX7_within) := goodIn_app (goodIn_of _ (by decide +kernel)) ggX7_color_X7_within
set_option maxRecDepth 20000 in
theorem ggX7_color_X7_colorNow : GoodIn wsX7_color wsX7_colorNow := goodIn_r _ [18, 11, 19, 20, 21, 5, 22, 23, 24, 25, 26, 27, 28, 29, 30, 31, 32, 33, 34, 35, 36, 37, 38, 39, 40, 41, 42] (by decide +kernel) (by decide +kernel)
set_option maxRecDepth 20000 in
theorem gX7_color_X7_colorNow : GoodIn wsX7_color (wsV RX7 153 RX7 yX7_colorNow wsX7_colorNow) := goodIn_app (goodIn_of _ (by decide +kernel)) ggX7_color_X7_colorNow
theorem dX7_color_0 : decode cX7_color 0 = .ok (.aload_n 0, 1) := by decide +kernel
theorem dX7_color_1 : decode cX7_color 1 = .ok (.aload_n 0, 1) := by decide +kernel
theorem dX7_color_2 : decode cX7_color 2 = .ok (.iload_n 1, 1) := by decide +kernel
theorem dX7_color_3 : decode cX7_color 3 = .ok (.invokevirtual 122, 3) := by decide +kernel
theorem dX7_color_6 : decode cX7_color 6 = .ok (.ifCond .eq 16, 3) := by decide +kernel
theorem dX7_color_9 : decode cX7_color 9 = .ok (.iload_n 2, 1) := by decide +kernel
theorem dX7_color_10 : decode cX7_color 10 = .ok (.iconst 0, 1) := by decide +kernel
theorem dX7_color_11 : decode cX7_color 11 = .ok (.iconst 3, 1) := by decide +kernel
theorem dX7_color_12 : decode cX7_color 12 = .ok (.invokestatic 42, 3) := by decide +kernel
theorem dX7_color_15 : decode cX7_color 15 = .ok (.ifCond .eq 7, 3) := by decide +kernel
theorem dX7_color_18 : decode cX7_color 18 = .ok (.iconst 0, 1) := by decide +kernel
theorem dX7_color_19 : decode cX7_color 19 = .ok (.goto 4, 3) := by decide +kernel
theorem dX7_color_22 : decode cX7_color 22 = .ok (.iconst 1, 1) := by decide +kernel
theorem dX7_color_23 : decode cX7_color 23 = .ok (.putfield 34, 3) := by decide +kernel
theorem dX7_color_26 : decode cX7_color 26 = .ok (.aload_n 0, 1) := by decide +kernel
theorem dX7_color_27 : decode cX7_color 27 = .ok (.getfield 34, 3) := by decide +kernel
theorem dX7_color_30 : decode cX7_color 30 = .ok (.ifCond .le 7, 3) := by decide +kernel
theorem dX7_color_33 : decode cX7_color 33 = .ok (.iconst 0, 1) := by decide +kernel
theorem dX7_color_34 : decode cX7_color 34 = .ok (.goto 10, 3) := by decide +kernel
theorem dX7_color_37 : decode cX7_color 37 = .ok (.aload_n 0, 1) := by decide +kernel
theorem dX7_color_38 : decode cX7_color 38 = .ok (.iload_n 1, 1) := by decide +kernel
theorem dX7_color_39 : decode cX7_color 39 = .ok (.iload_n 2, 1) := by decide +kernel
theorem dX7_color_40 : decode cX7_color 40 = .ok (.iload_n 3, 1) := by decide +kernel
theorem dX7_color_41 : decode cX7_color 41 = .ok (.invokevirtual 153, 3) := by decide +kernel
theorem dX7_color_44 : decode cX7_color 44 = .ok (.ireturn, 1) := by decide +kernel
set_option maxRecDepth 20000 in
theorem ggX7_looksLike_X7_colorOf : GoodIn wsX7_looksLike wsX7_colorOf := goodIn_r _ [5, 6, 7, 8, 4, 9, 10, 11, 12, 13, 14, 15, 16, 17, 18, 19, 20, 21, 22, 23, 24, 25, 26] (by decide +kernel) (by decide +kernel)
set_option maxRecDepth 20000 in
theorem gX7_looksLike_X7_colorOf : GoodIn wsX7_looksLike (wsV RX7 58 RX7 yX7_colorOf wsX7_colorOf) := goodIn_app (goodIn_of _ (by decide +kernel)) ggX7_looksLike_X7_colorOf
theorem dX7_looksLike_0 : decode cX7_looksLike 0 = .ok (.iconst 0, 1) := by decide +kernel
theorem dX7_looksLike_1 : decode cX7_looksLike 1 = .ok (.istore_n 3, 1) := by decide +kernel
theorem dX7_looksLike_2 : decode cX7_looksLike 2 = .ok (.iload_n 3, 1) := by decide +kernel
theorem dX7_looksLike_3 : decode cX7_looksLike 3 = .ok (.bipush 8, 2) := by decide +kernel
theorem dX7_looksLike_5 : decode cX7_looksLike 5 = .ok (.if_icmp .ge 100, 3) := by decide +kernel
theorem dX7_looksLike_8 : decode cX7_looksLike 8 = .ok (.iconst 1, 1) := by decide +kernel
theorem dX7_looksLike_9 : decode cX7_looksLike 9 = .ok (.istore 4, 2) := by decide +kernel
theorem dX7_looksLike_11 : decode cX7_looksLike 11 = .ok (.iconst 0, 1) := by decide +kernel
theorem dX7_looksLike_12 : decode cX7_looksLike 12 = .ok (.istore 5, 2) := by decide +kernel
theorem dX7_looksLike_14 : decode cX7_looksLike 14 = .ok (.iload 5, 2) := by decide +kernel
theorem dX7_looksLike_16 : decode cX7_looksLike 16 = .ok (.iconst 4, 1) := by decide +kernel
theorem dX7_looksLike_17 : decode cX7_looksLike 17 = .ok (.if_icmp .ge 75, 3) := by decide +kernel
theorem dX7_looksLike_20 : decode cX7_looksLike 20 = .ok (.iload 4, 2) := by decide +kernel
theorem dX7_looksLike_22 : decode cX7_looksLike 22 = .ok (.ifCond .eq 61, 3) := by decide +kernel
theorem dX7_looksLike_25 : decode cX7_looksLike 25 = .ok (.aload_n 0, 1) := by decide +kernel
theorem dX7_looksLike_26 : decode cX7_looksLike 26 = .ok (.bipush 8, 2) := by decide +kernel
theorem dX7_looksLike_28 : decode cX7_looksLike 28 = .ok (.iload_n 1, 1) := by decide +kernel
theorem dX7_looksLike_29 : decode cX7_looksLike 29 = .ok (.imul, 1) := by decide +kernel
theorem dX7_looksLike_30 : decode cX7_looksLike 30 = .ok (.iload_n 3, 1) := by decide +kernel
theorem dX7_looksLike_31 : decode cX7_looksLike 31 = .ok (.iadd, 1) := by decide +kernel
theorem dX7_looksLike_32 : decode cX7_looksLike 32 = .ok (.iload 5, 2) := by decide +kernel
theorem dX7_looksLike_34 : decode cX7_looksLike 34 = .ok (.iconst 0, 1) := by decide +kernel
theorem dX7_looksLike_35 : decode cX7_looksLike 35 = .ok (.invokevirtual 58, 3) := by decide +kernel
theorem dX7_looksLike_38 : decode cX7_looksLike 38 = .ok (.aload_n 0, 1) := by decide +kernel
theorem dX7_looksLike_39 : decode cX7_looksLike 39 = .ok (.bipush 8, 2) := by decide +kernel
theorem dX7_looksLike_41 : decode cX7_looksLike 41 = .ok (.iload_n 2, 1) := by decide +kernel
theorem dX7_looksLike_42 : decode cX7_looksLike 42 = .ok (.imul, 1) := by decide +kernel
theorem dX7_looksLike_43 : decode cX7_looksLike 43 = .ok (.iload 5, 2) := by decide +kernel
theorem dX7_looksLike_45 : decode cX7_looksLike 45 = .ok (.iconst 0, 1) := by decide +kernel
theorem dX7_looksLike_46 : decode cX7_looksLike 46 = .ok (.invokevirtual 58, 3) := by decide +kernel
theorem dX7_looksLike_49 : decode cX7_looksLike 49 = .ok (.if_icmp .ne 34, 3) := by decide +kernel
theorem dX7_looksLike_52 : decode cX7_looksLike 52 = .ok (.aload_n 0, 1) := by decide +kernel
theorem dX7_looksLike_53 : decode cX7_looksLike 53 = .ok (.bipush 8, 2) := by decide +kernel
theorem dX7_looksLike_55 : decode cX7_looksLike 55 = .ok (.iload_n 1, 1) := by decide +kernel
theorem dX7_looksLike_56 : decode cX7_looksLike 56 = .ok (.imul, 1) := by decide +kernel
theorem dX7_looksLike_57 : decode cX7_looksLike 57 = .ok (.iload_n 3, 1) := by decide +kernel
theorem dX7_looksLike_58 : decode cX7_looksLike 58 = .ok (.iadd, 1) := by decide +kernel
theorem dX7_looksLike_59 : decode cX7_looksLike 59 = .ok (.iload 5, 2) := by decide +kernel
theorem dX7_looksLike_61 : decode cX7_looksLike 61 = .ok (.iconst 1, 1) := by decide +kernel
theorem dX7_looksLike_62 : decode cX7_looksLike 62 = .ok (.invokevirtual 58, 3) := by decide +kernel
theorem dX7_looksLike_65 : decode cX7_looksLike 65 = .ok (.aload_n 0, 1) := by decide +kernel
theorem dX7_looksLike_66 : decode cX7_looksLike 66 = .ok (.bipush 8, 2) := by decide +kernel
theorem dX7_looksLike_68 : decode cX7_looksLike 68 = .ok (.iload_n 2, 1) := by decide +kernel
theorem dX7_looksLike_69 : decode cX7_looksLike 69 = .ok (.imul, 1) := by decide +kernel
theorem dX7_looksLike_70 : decode cX7_looksLike 70 = .ok (.iload 5, 2) := by decide +kernel
theorem dX7_looksLike_72 : decode cX7_looksLike 72 = .ok (.iconst 1, 1) := by decide +kernel
theorem dX7_looksLike_73 : decode cX7_looksLike 73 = .ok (.invokevirtual 58, 3) := by decide +kernel
theorem dX7_looksLike_76 : decode cX7_looksLike 76 = .ok (.if_icmp .ne 7, 3) := by decide +kernel
theorem dX7_looksLike_79 : decode cX7_looksLike 79 = .ok (.iconst 1, 1) := by decide +kernel
theorem dX7_looksLike_80 : decode cX7_looksLike 80 = .ok (.goto 4, 3) := by decide +kernel
theorem dX7_looksLike_83 : decode cX7_looksLike 83 = .ok (.iconst 0, 1) := by decide +kernel
theorem dX7_looksLike_84 : decode cX7_looksLike 84 = .ok (.istore 4, 2) := by decide +kernel
theorem dX7_looksLike_86 : decode cX7_looksLike 86 = .ok (.iinc 5 1, 3) := by decide +kernel
theorem dX7_looksLike_89 : decode cX7_looksLike 89 = .ok (.goto (-75), 3) := by decide +kernel
theorem dX7_looksLike_92 : decode cX7_looksLike 92 = .ok (.iload 4, 2) := by decide +kernel
theorem dX7_looksLike_94 : decode cX7_looksLike 94 = .ok (.ifCond .eq 5, 3) := by decide +kernel
theorem dX7_looksLike_97 : decode cX7_looksLike 97 = .ok (.iconst 1, 1) := by decide +kernel
theorem dX7_looksLike_98 : decode cX7_looksLike 98 = .ok (.ireturn, 1) := by decide +kernel
theorem dX7_looksLike_99 : decode cX7_looksLike 99 = .ok (.iinc 3 1, 3) := by decide +kernel
theorem dX7_looksLike_102 : decode cX7_looksLike 102 = .ok (.goto (-100), 3) := by decide +kernel
theorem dX7_looksLike_105 : decode cX7_looksLike 105 = .ok (.iconst 0, 1) := by decide +kernel
theorem dX7_looksLike_106 : decode cX7_looksLike 106 = .ok (.ireturn, 1) := by decide +kernel
set_option maxRecDepth 20000 in
theorem ggX7_tileNow_X7_cellOf : GoodIn wsX7_tileNow wsX7_cellOf := goodIn_r _ [6, 1, 7, 8, 9, 5, 10, 23, 24, 25, 26, 27, 28, 29, 30, 31, 32, 33, 34, 35, 36, 37, 38] (by decide +kernel) (by decide +kernel)
set_option maxRecDepth 20000 in
theorem gX7_tileNow_X7_cellOf : GoodIn wsX7_tileNow (wsV RX7 75 RX7 yX7_cellOf wsX7_cellOf) := goodIn_app (goodIn_of _ (by decide +kernel)) ggX7_tileNow_X7_cellOf
set_option maxRecDepth 20000 in
theorem ggX7_tileNow_X7_looksLike : GoodIn wsX7_tileNow wsX7_looksLike := goodIn_r _ [14, 15, 16, 17, 5, 18, 19, 20, 21, 22, 1, 23, 24, 25, 26, 27, 28, 29, 30, 31, 32, 33, 34, 35, 36, 37, 38] (by decide +kernel) (by decide +kernel)
set_option maxRecDepth 20000 in
theorem gX7_tileNow_X7_looksLike : GoodIn wsX7_tileNow (wsV RX7 156 RX7 yX7_looksLike wsX7_looksLike) := goodIn_app (goodIn_of _ (by decide +kernel)) ggX7_tileNow_X7_looksLike
theorem dX7_tileNow_0 : decode cX7_tileNow 0 = .ok (.iload_n 2, 1) := by decide +kernel
theorem dX7_tileNow_1 : decode cX7_tileNow 1 = .ok (.iconst 2, 1) := by decide +kernel
theorem dX7_tileNow_2 : decode cX7_tileNow 2 = .ok (.if_icmp .ge 16, 3) := by decide +kernel
theorem dX7_tileNow_5 : decode cX7_tileNow 5 = .ok (.aload_n 0, 1) := by decide +kernel
theorem dX7_tileNow_6 : decode cX7_tileNow 6 = .ok (.getfield 7, 3) := by decide +kernel
theorem dX7_tileNow_9 : decode cX7_tileNow 9 = .ok (.iconst 4, 1) := by decide +kernel
theorem dX7_tileNow_10 : decode cX7_tileNow 10 = .ok (.iconst 2, 1) := by decide +kernel
theorem dX7_tileNow_11 : decode cX7_tileNow 11 = .ok (.iload_n 1, 1) := by decide +kernel
theorem dX7_tileNow_12 : decode cX7_tileNow 12 = .ok (.imul, 1) := by decide +kernel
theorem dX7_tileNow_13 : decode cX7_tileNow 13 = .ok (.iadd, 1) := by decide +kernel
theorem dX7_tileNow_14 : decode cX7_tileNow 14 = .ok (.iload_n 2, 1) := by decide +kernel
theorem dX7_tileNow_15 : decode cX7_tileNow 15 = .ok (.iadd, 1) := by decide +kernel
theorem dX7_tileNow_16 : decode cX7_tileNow 16 = .ok (.iaload, 1) := by decide +kernel
theorem dX7_tileNow_17 : decode cX7_tileNow 17 = .ok (.ireturn, 1) := by decide +kernel
theorem dX7_tileNow_18 : decode cX7_tileNow 18 = .ok (.iload_n 2, 1) := by decide +kernel
theorem dX7_tileNow_19 : decode cX7_tileNow 19 = .ok (.iconst 2, 1) := by decide +kernel
theorem dX7_tileNow_20 : decode cX7_tileNow 20 = .ok (.if_icmp .ne 9, 3) := by decide +kernel
theorem dX7_tileNow_23 : decode cX7_tileNow 23 = .ok (.aload_n 0, 1) := by decide +kernel
theorem dX7_tileNow_24 : decode cX7_tileNow 24 = .ok (.iload_n 1, 1) := by decide +kernel
theorem dX7_tileNow_25 : decode cX7_tileNow 25 = .ok (.invokevirtual 75, 3) := by decide +kernel
theorem dX7_tileNow_28 : decode cX7_tileNow 28 = .ok (.ireturn, 1) := by decide +kernel
theorem dX7_tileNow_29 : decode cX7_tileNow 29 = .ok (.iconst 0, 1) := by decide +kernel
theorem dX7_tileNow_30 : decode cX7_tileNow 30 = .ok (.istore_n 3, 1) := by decide +kernel
theorem dX7_tileNow_31 : decode cX7_tileNow 31 = .ok (.aload_n 0, 1) := by decide +kernel
theorem dX7_tileNow_32 : decode cX7_tileNow 32 = .ok (.iload_n 3, 1) := by decide +kernel
theorem dX7_tileNow_33 : decode cX7_tileNow 33 = .ok (.iload_n 1, 1) := by decide +kernel
theorem dX7_tileNow_34 : decode cX7_tileNow 34 = .ok (.invokevirtual 156, 3) := by decide +kernel
theorem dX7_tileNow_37 : decode cX7_tileNow 37 = .ok (.ifCond .ne 9, 3) := by decide +kernel
theorem dX7_tileNow_40 : decode cX7_tileNow 40 = .ok (.iinc 3 1, 3) := by decide +kernel
theorem dX7_tileNow_43 : decode cX7_tileNow 43 = .ok (.goto (-12), 3) := by decide +kernel
theorem dX7_tileNow_46 : decode cX7_tileNow 46 = .ok (.iload_n 3, 1) := by decide +kernel
theorem dX7_tileNow_47 : decode cX7_tileNow 47 = .ok (.ireturn, 1) := by decide +kernel
set_option maxRecDepth 20000 in
theorem ggX7_tile_X7_isTile : GoodIn wsX7_tile wsX7_isTile := goodIn_r _ [6, 7, 8, 9, 5, 10, 35, 36, 37, 38, 39, 40, 41, 42, 43, 44, 45, 46, 47, 48, 49, 50] (by decide +kernel) (by decide +kernel)
set_option maxRecDepth 20000 in
theorem gX7_tile_X7_isTile : GoodIn wsX7_tile (wsV RX7 46 RX7 yX7_isTile wsX7_isTile) := goodIn_app (goodIn_of _ (by decide +kernel)) ggX7_tile_X7_isTile
set_option maxRecDepth 20000 in
theorem ggX7_tile_X7_within : GoodIn wsX7_tile wsX7_within := goodIn_r _ [10] (by decide +kernel) (by decide +kernel)
set_option maxRecDepth 20000 in
theorem gX7_tile_X7_within : GoodIn wsX7_tile (va_wsS RX7 42 yX7_within wsX7_within) := goodIn_app (goodIn_of _ (by decide +kernel)) ggX7_tile_X7_within
set_option maxRecDepth 20000 in
theorem ggX7_tile_X7_tileNow : GoodIn wsX7_tile wsX7_tileNow := goodIn_r _ [14, 7, 15, 16, 17, 5, 18, 19, 20, 21, 22, 23, 24, 25, 26, 27, 28, 29, 30, 31, 32, 33, 34, 35, 36, 37, 38, 39, 40, 41, 42, 43, 44, 45, 46, 47, 48, 49, 50] (by decide +kernel) (by decide +kernel)
set_option maxRecDepth 20000 in
theorem gX7_tile_X7_tileNow : GoodIn wsX7_tile (wsV RX7 160 RX7 yX7_tileNow wsX7_tileNow) := goodIn_app (goodIn_of _ (by decide +kernel)) ggX7_tile_X7_tileNow
theorem dX7_tile_0 : decode cX7_tile 0 = .ok (.aload_n 0, 1) := by decide +kernel
theorem dX7_tile_1 : decode cX7_tile 1 = .ok (.aload_n 0, 1) := by decide +kernel
theorem dX7_tile_2 : decode cX7_tile 2 = .ok (.iload_n 1, 1) := by decide +kernel
theorem dX7_tile_3 : decode cX7_tile 3 = .ok (.invokevirtual 46, 3) := by decide +kernel
theorem dX7_tile_6 : decode cX7_tile 6 = .ok (.ifCond .ne 7, 3) := by decide +kernel
theorem dX7_tile_9 : decode cX7_tile 9 = .ok (.iconst 1, 1) := by decide +kernel
theorem dX7_tile_10 : decode cX7_tile 10 = .ok (.goto 17, 3) := by decide +kernel
theorem dX7_tile_13 : decode cX7_tile 13 = .ok (.iload_n 2, 1) := by decide +kernel
theorem dX7_tile_14 : decode cX7_tile 14 = .ok (.iconst 0, 1) := by decide +kernel
theorem dX7_tile_15 : decode cX7_tile 15 = .ok (.iconst 3, 1) := by decide +kernel
theorem dX7_tile_16 : decode cX7_tile 16 = .ok (.invokestatic 42, 3) := by decide +kernel
theorem dX7_tile_19 : decode cX7_tile 19 = .ok (.ifCond .eq 7, 3) := by decide +kernel
theorem dX7_tile_22 : decode cX7_tile 22 = .ok (.iconst 0, 1) := by decide +kernel
theorem dX7_tile_23 : decode cX7_tile 23 = .ok (.goto 4, 3) := by decide +kernel
theorem dX7_tile_26 : decode cX7_tile 26 = .ok (.iconst 2, 1) := by decide +kernel
theorem dX7_tile_27 : decode cX7_tile 27 = .ok (.putfield 34, 3) := by decide +kernel
theorem dX7_tile_30 : decode cX7_tile 30 = .ok (.aload_n 0, 1) := by decide +kernel
theorem dX7_tile_31 : decode cX7_tile 31 = .ok (.getfield 34, 3) := by decide +kernel
theorem dX7_tile_34 : decode cX7_tile 34 = .ok (.ifCond .le 7, 3) := by decide +kernel
theorem dX7_tile_37 : decode cX7_tile 37 = .ok (.iconst 0, 1) := by decide +kernel
theorem dX7_tile_38 : decode cX7_tile 38 = .ok (.goto 9, 3) := by decide +kernel
theorem dX7_tile_41 : decode cX7_tile 41 = .ok (.aload_n 0, 1) := by decide +kernel
theorem dX7_tile_42 : decode cX7_tile 42 = .ok (.iload_n 1, 1) := by decide +kernel
theorem dX7_tile_43 : decode cX7_tile 43 = .ok (.iload_n 2, 1) := by decide +kernel
theorem dX7_tile_44 : decode cX7_tile 44 = .ok (.invokevirtual 160, 3) := by decide +kernel
theorem dX7_tile_47 : decode cX7_tile 47 = .ok (.ireturn, 1) := by decide +kernel
set_option maxRecDepth 20000 in
theorem ggX7_pairs_X7_cells : GoodIn wsX7_pairs wsX7_cells := goodIn_r _ [6, 1, 23, 24, 25, 26, 27, 28, 29, 30, 31, 32, 33, 34, 35, 36, 37, 38] (by decide +kernel) (by decide +kernel)
set_option maxRecDepth 20000 in
theorem gX7_pairs_X7_cells : GoodIn wsX7_pairs (wsV RX7 38 RX7 yX7_cells wsX7_cells) := goodIn_app (goodIn_of _ (by decide +kernel)) ggX7_pairs_X7_cells
set_option maxRecDepth 20000 in
theorem ggX7_pairs_X7_shown : GoodIn wsX7_pairs wsX7_shown := goodIn_r _ [10, 1, 11, 12, 13, 5, 14, 15, 16, 17, 18, 19, 20, 21, 22, 23, 24, 25, 26, 27, 28, 29, 30, 31, 32, 33, 34, 35, 36, 37, 38] (by decide +kernel) (by decide +kernel)
set_option maxRecDepth 20000 in
theorem gX7_pairs_X7_shown : GoodIn wsX7_pairs (wsV RX7 62 RX7 yX7_shown wsX7_shown) := goodIn_app (goodIn_of _ (by decide +kernel)) ggX7_pairs_X7_shown
theorem dX7_pairs_0 : decode cX7_pairs 0 = .ok (.iconst 0, 1) := by decide +kernel
theorem dX7_pairs_1 : decode cX7_pairs 1 = .ok (.istore_n 1, 1) := by decide +kernel
theorem dX7_pairs_2 : decode cX7_pairs 2 = .ok (.iconst 0, 1) := by decide +kernel
theorem dX7_pairs_3 : decode cX7_pairs 3 = .ok (.istore_n 2, 1) := by decide +kernel
theorem dX7_pairs_4 : decode cX7_pairs 4 = .ok (.iload_n 2, 1) := by decide +kernel
theorem dX7_pairs_5 : decode cX7_pairs 5 = .ok (.aload_n 0, 1) := by decide +kernel
theorem dX7_pairs_6 : decode cX7_pairs 6 = .ok (.invokevirtual 38, 3) := by decide +kernel
theorem dX7_pairs_9 : decode cX7_pairs 9 = .ok (.if_icmp .ge 54, 3) := by decide +kernel
theorem dX7_pairs_12 : decode cX7_pairs 12 = .ok (.iconst 1, 1) := by decide +kernel
theorem dX7_pairs_13 : decode cX7_pairs 13 = .ok (.istore_n 3, 1) := by decide +kernel
theorem dX7_pairs_14 : decode cX7_pairs 14 = .ok (.iload_n 3, 1) := by decide +kernel
theorem dX7_pairs_15 : decode cX7_pairs 15 = .ok (.iconst 3, 1) := by decide +kernel
theorem dX7_pairs_16 : decode cX7_pairs 16 = .ok (.if_icmp .ge 41, 3) := by decide +kernel
theorem dX7_pairs_19 : decode cX7_pairs 19 = .ok (.iload_n 1, 1) := by decide +kernel
theorem dX7_pairs_20 : decode cX7_pairs 20 = .ok (.aload_n 0, 1) := by decide +kernel
theorem dX7_pairs_21 : decode cX7_pairs 21 = .ok (.getfield 7, 3) := by decide +kernel
theorem dX7_pairs_24 : decode cX7_pairs 24 = .ok (.bipush 28, 2) := by decide +kernel
theorem dX7_pairs_26 : decode cX7_pairs 26 = .ok (.iload_n 2, 1) := by decide +kernel
theorem dX7_pairs_27 : decode cX7_pairs 27 = .ok (.iadd, 1) := by decide +kernel
theorem dX7_pairs_28 : decode cX7_pairs 28 = .ok (.iaload, 1) := by decide +kernel
theorem dX7_pairs_29 : decode cX7_pairs 29 = .ok (.iconst (-1), 1) := by decide +kernel
theorem dX7_pairs_30 : decode cX7_pairs 30 = .ok (.if_icmp .eq 18, 3) := by decide +kernel
theorem dX7_pairs_33 : decode cX7_pairs 33 = .ok (.aload_n 0, 1) := by decide +kernel
theorem dX7_pairs_34 : decode cX7_pairs 34 = .ok (.iload_n 2, 1) := by decide +kernel
theorem dX7_pairs_35 : decode cX7_pairs 35 = .ok (.iload_n 3, 1) := by decide +kernel
theorem dX7_pairs_36 : decode cX7_pairs 36 = .ok (.iconst 0, 1) := by decide +kernel
theorem dX7_pairs_37 : decode cX7_pairs 37 = .ok (.invokevirtual 62, 3) := by decide +kernel
theorem dX7_pairs_40 : decode cX7_pairs 40 = .ok (.iconst (-1), 1) := by decide +kernel
theorem dX7_pairs_41 : decode cX7_pairs 41 = .ok (.if_icmp .eq 7, 3) := by decide +kernel
theorem dX7_pairs_44 : decode cX7_pairs 44 = .ok (.iconst 1, 1) := by decide +kernel
theorem dX7_pairs_45 : decode cX7_pairs 45 = .ok (.goto 4, 3) := by decide +kernel
theorem dX7_pairs_48 : decode cX7_pairs 48 = .ok (.iconst 0, 1) := by decide +kernel
theorem dX7_pairs_49 : decode cX7_pairs 49 = .ok (.iadd, 1) := by decide +kernel
theorem dX7_pairs_50 : decode cX7_pairs 50 = .ok (.istore_n 1, 1) := by decide +kernel
theorem dX7_pairs_51 : decode cX7_pairs 51 = .ok (.iinc 3 1, 3) := by decide +kernel
theorem dX7_pairs_54 : decode cX7_pairs 54 = .ok (.goto (-40), 3) := by decide +kernel
theorem dX7_pairs_57 : decode cX7_pairs 57 = .ok (.iinc 2 1, 3) := by decide +kernel
theorem dX7_pairs_60 : decode cX7_pairs 60 = .ok (.goto (-56), 3) := by decide +kernel
theorem dX7_pairs_63 : decode cX7_pairs 63 = .ok (.iload_n 1, 1) := by decide +kernel
theorem dX7_pairs_64 : decode cX7_pairs 64 = .ok (.ireturn, 1) := by decide +kernel
set_option maxRecDepth 20000 in
theorem ggX7_likePairs_X7_cells : GoodIn wsX7_likePairs wsX7_cells := goodIn_r _ [6, 1, 23, 24, 25, 26, 27, 28, 29, 30, 31, 32, 33, 34, 35, 36, 37, 38] (by decide +kernel) (by decide +kernel)
set_option maxRecDepth 20000 in
theorem gX7_likePairs_X7_cells : GoodIn wsX7_likePairs (wsV RX7 38 RX7 yX7_cells wsX7_cells) := goodIn_app (goodIn_of _ (by decide +kernel)) ggX7_likePairs_X7_cells
set_option maxRecDepth 20000 in
theorem ggX7_likePairs_X7_shown : GoodIn wsX7_likePairs wsX7_shown := goodIn_r _ [10, 1, 11, 12, 13, 5, 14, 15, 16, 17, 18, 19, 20, 21, 22, 23, 24, 25, 26, 27, 28, 29, 30, 31, 32, 33, 34, 35, 36, 37, 38] (by decide +kernel) (by decide +kernel)
set_option maxRecDepth 20000 in
theorem gX7_likePairs_X7_shown : GoodIn wsX7_likePairs (wsV RX7 62 RX7 yX7_shown wsX7_shown) := goodIn_app (goodIn_of _ (by decide +kernel)) ggX7_likePairs_X7_shown
set_option maxRecDepth 20000 in
theorem ggX7_likePairs_X7_colorOf : GoodIn wsX7_likePairs wsX7_colorOf := goodIn_r _ [18, 19, 20, 21, 5, 22, 1, 23, 24, 25, 26, 27, 28, 29, 30, 31, 32, 33, 34, 35, 36, 37, 38] (by decide +kernel) (by decide +kernel)
set_option maxRecDepth 20000 in
theorem gX7_likePairs_X7_colorOf : GoodIn wsX7_likePairs (wsV RX7 58 RX7 yX7_colorOf wsX7_colorOf) := goodIn_app (goodIn_of _ (by decide +kernel)) ggX7_likePairs_X7_colorOf
theorem dX7_likePairs_0 : decode cX7_likePairs 0 = .ok (.iconst 0, 1) := by decide +kernel
theorem dX7_likePairs_1 : decode cX7_likePairs 1 = .ok (.istore_n 2, 1) := by decide +kernel
theorem dX7_likePairs_2 : decode cX7_likePairs 2 = .ok (.iconst 0, 1) := by decide +kernel
theorem dX7_likePairs_3 : decode cX7_likePairs 3 = .ok (.istore_n 3, 1) := by decide +kernel
theorem dX7_likePairs_4 : decode cX7_likePairs 4 = .ok (.iload_n 3, 1) := by decide +kernel
theorem dX7_likePairs_5 : decode cX7_likePairs 5 = .ok (.aload_n 0, 1) := by decide +kernel
theorem dX7_likePairs_6 : decode cX7_likePairs 6 = .ok (.invokevirtual 38, 3) := by decide +kernel
theorem dX7_likePairs_9 : decode cX7_likePairs 9 = .ok (.if_icmp .ge 72, 3) := by decide +kernel
theorem dX7_likePairs_12 : decode cX7_likePairs 12 = .ok (.iconst 1, 1) := by decide +kernel
theorem dX7_likePairs_13 : decode cX7_likePairs 13 = .ok (.istore 4, 2) := by decide +kernel
theorem dX7_likePairs_15 : decode cX7_likePairs 15 = .ok (.iload 4, 2) := by decide +kernel
theorem dX7_likePairs_17 : decode cX7_likePairs 17 = .ok (.iconst 3, 1) := by decide +kernel
theorem dX7_likePairs_18 : decode cX7_likePairs 18 = .ok (.if_icmp .ge 57, 3) := by decide +kernel
theorem dX7_likePairs_21 : decode cX7_likePairs 21 = .ok (.iload_n 2, 1) := by decide +kernel
theorem dX7_likePairs_22 : decode cX7_likePairs 22 = .ok (.aload_n 0, 1) := by decide +kernel
theorem dX7_likePairs_23 : decode cX7_likePairs 23 = .ok (.getfield 7, 3) := by decide +kernel
theorem dX7_likePairs_26 : decode cX7_likePairs 26 = .ok (.bipush 28, 2) := by decide +kernel
theorem dX7_likePairs_28 : decode cX7_likePairs 28 = .ok (.iload_n 3, 1) := by decide +kernel
theorem dX7_likePairs_29 : decode cX7_likePairs 29 = .ok (.iadd, 1) := by decide +kernel
theorem dX7_likePairs_30 : decode cX7_likePairs 30 = .ok (.iaload, 1) := by decide +kernel
theorem dX7_likePairs_31 : decode cX7_likePairs 31 = .ok (.iconst (-1), 1) := by decide +kernel
theorem dX7_likePairs_32 : decode cX7_likePairs 32 = .ok (.if_icmp .eq 34, 3) := by decide +kernel
theorem dX7_likePairs_35 : decode cX7_likePairs 35 = .ok (.aload_n 0, 1) := by decide +kernel
theorem dX7_likePairs_36 : decode cX7_likePairs 36 = .ok (.iload_n 3, 1) := by decide +kernel
theorem dX7_likePairs_37 : decode cX7_likePairs 37 = .ok (.iload 4, 2) := by decide +kernel
theorem dX7_likePairs_39 : decode cX7_likePairs 39 = .ok (.iload_n 1, 1) := by decide +kernel
theorem dX7_likePairs_40 : decode cX7_likePairs 40 = .ok (.invokevirtual 62, 3) := by decide +kernel
theorem dX7_likePairs_43 : decode cX7_likePairs 43 = .ok (.aload_n 0, 1) := by decide +kernel
theorem dX7_likePairs_44 : decode cX7_likePairs 44 = .ok (.aload_n 0, 1) := by decide +kernel
theorem dX7_likePairs_45 : decode cX7_likePairs 45 = .ok (.getfield 7, 3) := by decide +kernel
theorem dX7_likePairs_48 : decode cX7_likePairs 48 = .ok (.bipush 28, 2) := by decide +kernel
theorem dX7_likePairs_50 : decode cX7_likePairs 50 = .ok (.iload_n 3, 1) := by decide +kernel
theorem dX7_likePairs_51 : decode cX7_likePairs 51 = .ok (.iadd, 1) := by decide +kernel
theorem dX7_likePairs_52 : decode cX7_likePairs 52 = .ok (.iaload, 1) := by decide +kernel
theorem dX7_likePairs_53 : decode cX7_likePairs 53 = .ok (.iload 4, 2) := by decide +kernel
theorem dX7_likePairs_55 : decode cX7_likePairs 55 = .ok (.iload_n 1, 1) := by decide +kernel
theorem dX7_likePairs_56 : decode cX7_likePairs 56 = .ok (.invokevirtual 58, 3) := by decide +kernel
theorem dX7_likePairs_59 : decode cX7_likePairs 59 = .ok (.if_icmp .ne 7, 3) := by decide +kernel
theorem dX7_likePairs_62 : decode cX7_likePairs 62 = .ok (.iconst 1, 1) := by decide +kernel
theorem dX7_likePairs_63 : decode cX7_likePairs 63 = .ok (.goto 4, 3) := by decide +kernel
theorem dX7_likePairs_66 : decode cX7_likePairs 66 = .ok (.iconst 0, 1) := by decide +kernel
theorem dX7_likePairs_67 : decode cX7_likePairs 67 = .ok (.iadd, 1) := by decide +kernel
theorem dX7_likePairs_68 : decode cX7_likePairs 68 = .ok (.istore_n 2, 1) := by decide +kernel
theorem dX7_likePairs_69 : decode cX7_likePairs 69 = .ok (.iinc 4 1, 3) := by decide +kernel
theorem dX7_likePairs_72 : decode cX7_likePairs 72 = .ok (.goto (-57), 3) := by decide +kernel
theorem dX7_likePairs_75 : decode cX7_likePairs 75 = .ok (.iinc 3 1, 3) := by decide +kernel
theorem dX7_likePairs_78 : decode cX7_likePairs 78 = .ok (.goto (-74), 3) := by decide +kernel
theorem dX7_likePairs_81 : decode cX7_likePairs 81 = .ok (.iload_n 2, 1) := by decide +kernel
theorem dX7_likePairs_82 : decode cX7_likePairs 82 = .ok (.ireturn, 1) := by decide +kernel
set_option maxRecDepth 20000 in
theorem ggX7_misfits_X7_cells : GoodIn wsX7_misfits wsX7_cells := goodIn_r _ [6, 1, 39, 40, 41, 42, 43, 44, 45, 46, 47, 48, 49, 50, 51, 52, 53, 54] (by decide +kernel) (by decide +kernel)
set_option maxRecDepth 20000 in
theorem gX7_misfits_X7_cells : GoodIn wsX7_misfits (wsV RX7 38 RX7 yX7_cells wsX7_cells) := goodIn_app (goodIn_of _ (by decide +kernel)) ggX7_misfits_X7_cells
set_option maxRecDepth 20000 in
theorem ggX7_misfits_X7_misfit : GoodIn wsX7_misfits wsX7_misfit := goodIn_r _ [10, 11, 12, 13, 5, 14, 1, 15, 16, 17, 18, 19, 20, 21, 22, 23, 24, 25, 26, 27, 28, 29, 30, 31, 32, 33, 34, 35, 36, 37, 38, 39, 40, 41, 42, 43, 44, 45, 46, 47, 48, 49, 50, 51, 52, 53, 54] (by decide +kernel) (by decide +kernel)
set_option maxRecDepth 20000 in
theorem gX7_misfits_X7_misfit : GoodIn wsX7_misfits (wsV RX7 79 RX7 yX7_misfit wsX7_misfit) := goodIn_app (goodIn_of _ (by decide +kernel)) ggX7_misfits_X7_misfit
theorem dX7_misfits_0 : decode cX7_misfits 0 = .ok (.iconst 0, 1) := by decide +kernel
theorem dX7_misfits_1 : decode cX7_misfits 1 = .ok (.istore_n 1, 1) := by decide +kernel
theorem dX7_misfits_2 : decode cX7_misfits 2 = .ok (.iconst 0, 1) := by decide +kernel
theorem dX7_misfits_3 : decode cX7_misfits 3 = .ok (.istore_n 2, 1) := by decide +kernel
theorem dX7_misfits_4 : decode cX7_misfits 4 = .ok (.iload_n 2, 1) := by decide +kernel
theorem dX7_misfits_5 : decode cX7_misfits 5 = .ok (.aload_n 0, 1) := by decide +kernel
theorem dX7_misfits_6 : decode cX7_misfits 6 = .ok (.invokevirtual 38, 3) := by decide +kernel
theorem dX7_misfits_9 : decode cX7_misfits 9 = .ok (.if_icmp .ge 47, 3) := by decide +kernel
theorem dX7_misfits_12 : decode cX7_misfits 12 = .ok (.iload_n 1, 1) := by decide +kernel
theorem dX7_misfits_13 : decode cX7_misfits 13 = .ok (.aload_n 0, 1) := by decide +kernel
theorem dX7_misfits_14 : decode cX7_misfits 14 = .ok (.getfield 7, 3) := by decide +kernel
theorem dX7_misfits_17 : decode cX7_misfits 17 = .ok (.bipush 28, 2) := by decide +kernel
theorem dX7_misfits_19 : decode cX7_misfits 19 = .ok (.iload_n 2, 1) := by decide +kernel
theorem dX7_misfits_20 : decode cX7_misfits 20 = .ok (.iadd, 1) := by decide +kernel
theorem dX7_misfits_21 : decode cX7_misfits 21 = .ok (.iaload, 1) := by decide +kernel
theorem dX7_misfits_22 : decode cX7_misfits 22 = .ok (.iconst (-1), 1) := by decide +kernel
theorem dX7_misfits_23 : decode cX7_misfits 23 = .ok (.if_icmp .eq 24, 3) := by decide +kernel
theorem dX7_misfits_26 : decode cX7_misfits 26 = .ok (.aload_n 0, 1) := by decide +kernel
theorem dX7_misfits_27 : decode cX7_misfits 27 = .ok (.iload_n 2, 1) := by decide +kernel
theorem dX7_misfits_28 : decode cX7_misfits 28 = .ok (.aload_n 0, 1) := by decide +kernel
theorem dX7_misfits_29 : decode cX7_misfits 29 = .ok (.getfield 7, 3) := by decide +kernel
theorem dX7_misfits_32 : decode cX7_misfits 32 = .ok (.bipush 28, 2) := by decide +kernel
theorem dX7_misfits_34 : decode cX7_misfits 34 = .ok (.iload_n 2, 1) := by decide +kernel
theorem dX7_misfits_35 : decode cX7_misfits 35 = .ok (.iadd, 1) := by decide +kernel
theorem dX7_misfits_36 : decode cX7_misfits 36 = .ok (.iaload, 1) := by decide +kernel
theorem dX7_misfits_37 : decode cX7_misfits 37 = .ok (.invokevirtual 79, 3) := by decide +kernel
theorem dX7_misfits_40 : decode cX7_misfits 40 = .ok (.ifCond .le 7, 3) := by decide +kernel
theorem dX7_misfits_43 : decode cX7_misfits 43 = .ok (.iconst 1, 1) := by decide +kernel
theorem dX7_misfits_44 : decode cX7_misfits 44 = .ok (.goto 4, 3) := by decide +kernel
theorem dX7_misfits_47 : decode cX7_misfits 47 = .ok (.iconst 0, 1) := by decide +kernel
theorem dX7_misfits_48 : decode cX7_misfits 48 = .ok (.iadd, 1) := by decide +kernel
theorem dX7_misfits_49 : decode cX7_misfits 49 = .ok (.istore_n 1, 1) := by decide +kernel
theorem dX7_misfits_50 : decode cX7_misfits 50 = .ok (.iinc 2 1, 3) := by decide +kernel
theorem dX7_misfits_53 : decode cX7_misfits 53 = .ok (.goto (-49), 3) := by decide +kernel
theorem dX7_misfits_56 : decode cX7_misfits 56 = .ok (.iload_n 1, 1) := by decide +kernel
theorem dX7_misfits_57 : decode cX7_misfits 57 = .ok (.ireturn, 1) := by decide +kernel
set_option maxRecDepth 20000 in
theorem ggX7_fixedMany_X7_cells : GoodIn wsX7_fixedMany wsX7_cells := goodIn_r _ [6, 1, 7, 8, 9, 10, 11, 12, 13, 14, 15, 16, 17, 18, 19, 20, 21, 22] (by decide +kernel) (by decide +kernel)
set_option maxRecDepth 20000 in
theorem gX7_fixedMany_X7_cells : GoodIn wsX7_fixedMany (wsV RX7 38 RX7 yX7_cells wsX7_cells) := goodIn_app (goodIn_of _ (by decide +kernel)) ggX7_fixedMany_X7_cells
theorem dX7_fixedMany_0 : decode cX7_fixedMany 0 = .ok (.iconst 0, 1) := by decide +kernel
theorem dX7_fixedMany_1 : decode cX7_fixedMany 1 = .ok (.istore_n 1, 1) := by decide +kernel
theorem dX7_fixedMany_2 : decode cX7_fixedMany 2 = .ok (.iconst 0, 1) := by decide +kernel
theorem dX7_fixedMany_3 : decode cX7_fixedMany 3 = .ok (.istore_n 2, 1) := by decide +kernel
theorem dX7_fixedMany_4 : decode cX7_fixedMany 4 = .ok (.iload_n 2, 1) := by decide +kernel
theorem dX7_fixedMany_5 : decode cX7_fixedMany 5 = .ok (.aload_n 0, 1) := by decide +kernel
theorem dX7_fixedMany_6 : decode cX7_fixedMany 6 = .ok (.invokevirtual 38, 3) := by decide +kernel
theorem dX7_fixedMany_9 : decode cX7_fixedMany 9 = .ok (.if_icmp .ge 21, 3) := by decide +kernel
theorem dX7_fixedMany_12 : decode cX7_fixedMany 12 = .ok (.iload_n 1, 1) := by decide +kernel
theorem dX7_fixedMany_13 : decode cX7_fixedMany 13 = .ok (.aload_n 0, 1) := by decide +kernel
theorem dX7_fixedMany_14 : decode cX7_fixedMany 14 = .ok (.getfield 7, 3) := by decide +kernel
theorem dX7_fixedMany_17 : decode cX7_fixedMany 17 = .ok (.bipush 40, 2) := by decide +kernel
theorem dX7_fixedMany_19 : decode cX7_fixedMany 19 = .ok (.iload_n 2, 1) := by decide +kernel
theorem dX7_fixedMany_20 : decode cX7_fixedMany 20 = .ok (.iadd, 1) := by decide +kernel
theorem dX7_fixedMany_21 : decode cX7_fixedMany 21 = .ok (.iaload, 1) := by decide +kernel
theorem dX7_fixedMany_22 : decode cX7_fixedMany 22 = .ok (.iadd, 1) := by decide +kernel
theorem dX7_fixedMany_23 : decode cX7_fixedMany 23 = .ok (.istore_n 1, 1) := by decide +kernel
theorem dX7_fixedMany_24 : decode cX7_fixedMany 24 = .ok (.iinc 2 1, 3) := by decide +kernel
theorem dX7_fixedMany_27 : decode cX7_fixedMany 27 = .ok (.goto (-23), 3) := by decide +kernel
theorem dX7_fixedMany_30 : decode cX7_fixedMany 30 = .ok (.iload_n 1, 1) := by decide +kernel
theorem dX7_fixedMany_31 : decode cX7_fixedMany 31 = .ok (.ireturn, 1) := by decide +kernel
set_option maxRecDepth 20000 in
theorem ggX7_counted_X7_empties : GoodIn wsX7_counted wsX7_empties := goodIn_r _ [7, 1, 8, 9, 10, 6, 11, 56, 57, 58, 59, 60, 61, 62, 63, 64, 65, 66, 67, 68, 69, 70, 71] (by decide +kernel) (by decide +kernel)
set_option maxRecDepth 20000 in
theorem gX7_counted_X7_empties : GoodIn wsX7_counted (wsV RX7 128 RX7 yX7_empties wsX7_empties) := goodIn_app (goodIn_of _ (by decide +kernel)) ggX7_counted_X7_empties
set_option maxRecDepth 20000 in
theorem ggX7_counted_X7_fixedMany : GoodIn wsX7_counted wsX7_fixedMany := goodIn_r _ [15, 1, 8, 9, 10, 6, 11, 56, 57, 58, 59, 60, 61, 62, 63, 64, 65, 66, 67, 68, 69, 70, 71] (by decide +kernel) (by decide +kernel)
set_option maxRecDepth 20000 in
theorem gX7_counted_X7_fixedMany : GoodIn wsX7_counted (wsV RX7 163 RX7 yX7_fixedMany wsX7_fixedMany) := goodIn_app (goodIn_of _ (by decide +kernel)) ggX7_counted_X7_fixedMany
set_option maxRecDepth 20000 in
theorem ggX7_counted_X7_likePairs : GoodIn wsX7_counted wsX7_likePairs := goodIn_r _ [19, 1, 8, 9, 10, 6, 11, 20, 21, 22, 23, 24, 25, 26, 27, 28, 29, 30, 31, 32, 33, 34, 35, 56, 57, 58, 59, 60, 61, 62, 63, 64, 65, 66, 67, 68, 69, 70, 71] (by decide +kernel) (by decide +kernel)
set_option maxRecDepth 20000 in
theorem gX7_counted_X7_likePairs : GoodIn wsX7_counted (wsV RX7 166 RX7 yX7_likePairs wsX7_likePairs) := goodIn_app (goodIn_of _ (by decide +kernel)) ggX7_counted_X7_likePairs
set_option maxRecDepth 20000 in
theorem ggX7_counted_X7_misfits : GoodIn wsX7_counted wsX7_misfits := goodIn_r _ [39, 1, 8, 9, 10, 6, 11, 40, 41, 42, 43, 44, 45, 46, 47, 28, 29, 30, 31, 32, 33, 34, 35, 24, 25, 26, 27, 48, 49, 50, 51, 20, 21, 22, 23, 52, 53, 54, 55, 56, 57, 58, 59, 60, 61, 62, 63, 64, 65, 66, 67, 68, 69, 70, 71] (by decide +kernel) (by decide +kernel)
set_option maxRecDepth 20000 in
theorem gX7_counted_X7_misfits : GoodIn wsX7_counted (wsV RX7 170 RX7 yX7_misfits wsX7_misfits) := goodIn_app (goodIn_of _ (by decide +kernel)) ggX7_counted_X7_misfits
theorem dX7_counted_0 : decode cX7_counted 0 = .ok (.iload_n 1, 1) := by decide +kernel
theorem dX7_counted_1 : decode cX7_counted 1 = .ok (.tableswitch 106 0 8 #[51, 58, 65, 72, 77, 82, 89, 95, 101], 51) := by decide +kernel
theorem dX7_counted_52 : decode cX7_counted 52 = .ok (.aload_n 0, 1) := by decide +kernel
theorem dX7_counted_53 : decode cX7_counted 53 = .ok (.getfield 7, 3) := by decide +kernel
theorem dX7_counted_56 : decode cX7_counted 56 = .ok (.iconst 0, 1) := by decide +kernel
theorem dX7_counted_57 : decode cX7_counted 57 = .ok (.iaload, 1) := by decide +kernel
theorem dX7_counted_58 : decode cX7_counted 58 = .ok (.ireturn, 1) := by decide +kernel
theorem dX7_counted_59 : decode cX7_counted 59 = .ok (.aload_n 0, 1) := by decide +kernel
theorem dX7_counted_60 : decode cX7_counted 60 = .ok (.getfield 7, 3) := by decide +kernel
theorem dX7_counted_63 : decode cX7_counted 63 = .ok (.iconst 1, 1) := by decide +kernel
theorem dX7_counted_64 : decode cX7_counted 64 = .ok (.iaload, 1) := by decide +kernel
theorem dX7_counted_65 : decode cX7_counted 65 = .ok (.ireturn, 1) := by decide +kernel
theorem dX7_counted_66 : decode cX7_counted 66 = .ok (.aload_n 0, 1) := by decide +kernel
theorem dX7_counted_67 : decode cX7_counted 67 = .ok (.getfield 7, 3) := by decide +kernel
theorem dX7_counted_70 : decode cX7_counted 70 = .ok (.iconst 3, 1) := by decide +kernel
theorem dX7_counted_71 : decode cX7_counted 71 = .ok (.iaload, 1) := by decide +kernel
theorem dX7_counted_72 : decode cX7_counted 72 = .ok (.ireturn, 1) := by decide +kernel
theorem dX7_counted_73 : decode cX7_counted 73 = .ok (.aload_n 0, 1) := by decide +kernel
theorem dX7_counted_74 : decode cX7_counted 74 = .ok (.invokevirtual 128, 3) := by decide +kernel
theorem dX7_counted_77 : decode cX7_counted 77 = .ok (.ireturn, 1) := by decide +kernel
theorem dX7_counted_78 : decode cX7_counted 78 = .ok (.aload_n 0, 1) := by decide +kernel
theorem dX7_counted_79 : decode cX7_counted 79 = .ok (.invokevirtual 163, 3) := by decide +kernel
theorem dX7_counted_82 : decode cX7_counted 82 = .ok (.ireturn, 1) := by decide +kernel
theorem dX7_counted_83 : decode cX7_counted 83 = .ok (.aload_n 0, 1) := by decide +kernel
theorem dX7_counted_84 : decode cX7_counted 84 = .ok (.getfield 7, 3) := by decide +kernel
theorem dX7_counted_87 : decode cX7_counted 87 = .ok (.iconst 2, 1) := by decide +kernel
theorem dX7_counted_88 : decode cX7_counted 88 = .ok (.iaload, 1) := by decide +kernel
theorem dX7_counted_89 : decode cX7_counted 89 = .ok (.ireturn, 1) := by decide +kernel
theorem dX7_counted_90 : decode cX7_counted 90 = .ok (.aload_n 0, 1) := by decide +kernel
theorem dX7_counted_91 : decode cX7_counted 91 = .ok (.iconst 0, 1) := by decide +kernel
theorem dX7_counted_92 : decode cX7_counted 92 = .ok (.invokevirtual 166, 3) := by decide +kernel
theorem dX7_counted_95 : decode cX7_counted 95 = .ok (.ireturn, 1) := by decide +kernel
theorem dX7_counted_96 : decode cX7_counted 96 = .ok (.aload_n 0, 1) := by decide +kernel
theorem dX7_counted_97 : decode cX7_counted 97 = .ok (.iconst 1, 1) := by decide +kernel
theorem dX7_counted_98 : decode cX7_counted 98 = .ok (.invokevirtual 166, 3) := by decide +kernel
theorem dX7_counted_101 : decode cX7_counted 101 = .ok (.ireturn, 1) := by decide +kernel
theorem dX7_counted_102 : decode cX7_counted 102 = .ok (.aload_n 0, 1) := by decide +kernel
theorem dX7_counted_103 : decode cX7_counted 103 = .ok (.invokevirtual 170, 3) := by decide +kernel
theorem dX7_counted_106 : decode cX7_counted 106 = .ok (.ireturn, 1) := by decide +kernel
theorem dX7_counted_107 : decode cX7_counted 107 = .ok (.aload_n 0, 1) := by decide +kernel
theorem dX7_counted_108 : decode cX7_counted 108 = .ok (.getfield 98, 3) := by decide +kernel
theorem dX7_counted_111 : decode cX7_counted 111 = .ok (.ireturn, 1) := by decide +kernel
set_option maxRecDepth 20000 in
theorem ggX7_count_X7_within : GoodIn wsX7_count wsX7_within := goodIn_r _ [5] (by decide +kernel) (by decide +kernel)
set_option maxRecDepth 20000 in
theorem gX7_count_X7_within : GoodIn wsX7_count (va_wsS RX7 42 yX7_within wsX7_within) := goodIn_app (goodIn_of _ (by decide +kernel)) ggX7_count_X7_within
set_option maxRecDepth 20000 in
theorem ggX7_count_X7_counted : GoodIn wsX7_count wsX7_counted := goodIn_r _ [9, 10, 11, 12, 13, 14, 4, 15, 16, 17, 18, 19, 20, 21, 22, 23, 24, 25, 26, 27, 28, 29, 30, 31, 32, 33, 34, 35, 36, 37, 38, 39, 40, 41, 42, 43, 44, 45, 46, 47, 48, 49, 50, 51, 52, 53, 54, 55, 56, 57, 58, 59, 60, 61, 62, 63, 64, 65, 66, 67, 68, 69, 70, 71, 72, 73, 74, 75, 76, 77, 78, 79] (by decide +kernel) (by decide +kernel)
set_option maxRecDepth 20000 in
theorem gX7_count_X7_counted : GoodIn wsX7_count (wsV RX7 173 RX7 yX7_counted wsX7_counted) := goodIn_app (goodIn_of _ (by decide +kernel)) ggX7_count_X7_counted
theorem dX7_count_0 : decode cX7_count 0 = .ok (.aload_n 0, 1) := by decide +kernel
theorem dX7_count_1 : decode cX7_count 1 = .ok (.iload_n 1, 1) := by decide +kernel
theorem dX7_count_2 : decode cX7_count 2 = .ok (.iconst 0, 1) := by decide +kernel
theorem dX7_count_3 : decode cX7_count 3 = .ok (.bipush 9, 2) := by decide +kernel
theorem dX7_count_5 : decode cX7_count 5 = .ok (.invokestatic 42, 3) := by decide +kernel
theorem dX7_count_8 : decode cX7_count 8 = .ok (.ifCond .eq 7, 3) := by decide +kernel
theorem dX7_count_11 : decode cX7_count 11 = .ok (.iconst 0, 1) := by decide +kernel
theorem dX7_count_12 : decode cX7_count 12 = .ok (.goto 4, 3) := by decide +kernel
theorem dX7_count_15 : decode cX7_count 15 = .ok (.iconst 1, 1) := by decide +kernel
theorem dX7_count_16 : decode cX7_count 16 = .ok (.putfield 34, 3) := by decide +kernel
theorem dX7_count_19 : decode cX7_count 19 = .ok (.aload_n 0, 1) := by decide +kernel
theorem dX7_count_20 : decode cX7_count 20 = .ok (.getfield 34, 3) := by decide +kernel
theorem dX7_count_23 : decode cX7_count 23 = .ok (.ifCond .le 7, 3) := by decide +kernel
theorem dX7_count_26 : decode cX7_count 26 = .ok (.iconst 0, 1) := by decide +kernel
theorem dX7_count_27 : decode cX7_count 27 = .ok (.goto 8, 3) := by decide +kernel
theorem dX7_count_30 : decode cX7_count 30 = .ok (.aload_n 0, 1) := by decide +kernel
theorem dX7_count_31 : decode cX7_count 31 = .ok (.iload_n 1, 1) := by decide +kernel
theorem dX7_count_32 : decode cX7_count 32 = .ok (.invokevirtual 173, 3) := by decide +kernel
theorem dX7_count_35 : decode cX7_count 35 = .ok (.ireturn, 1) := by decide +kernel
set_option maxRecDepth 20000 in
theorem ggX7_searched_X7_search : GoodIn wsX7_searched wsX7_search := goodIn_r _ [8, 9, 10, 1, 2, 3, 11, 12, 13, 7, 14, 15, 16, 17, 18, 19, 20, 21, 22, 23, 24, 25, 26, 27, 28, 29, 30, 31, 32, 33, 34, 35, 36, 37, 38, 39, 40, 41, 42, 43, 44, 45, 46, 47, 48, 49, 50, 51, 52, 53, 54, 55, 56, 57, 58, 59, 60, 61, 62, 63, 64, 65, 66, 67, 68, 69, 70, 71, 72, 73, 74] (by decide +kernel) (by decide +kernel)
set_option maxRecDepth 20000 in
theorem gX7_searched_X7_search : GoodIn wsX7_searched (wsV RX7 134 RX7 yX7_search wsX7_search) := goodIn_app (goodIn_of _ (by decide +kernel)) ggX7_searched_X7_search
theorem dX7_searched_0 : decode cX7_searched 0 = .ok (.aload_n 0, 1) := by decide +kernel
theorem dX7_searched_1 : decode cX7_searched 1 = .ok (.iload_n 1, 1) := by decide +kernel
theorem dX7_searched_2 : decode cX7_searched 2 = .ok (.iconst 0, 1) := by decide +kernel
theorem dX7_searched_3 : decode cX7_searched 3 = .ok (.invokevirtual 134, 3) := by decide +kernel
theorem dX7_searched_6 : decode cX7_searched 6 = .ok (.iload_n 2, 1) := by decide +kernel
theorem dX7_searched_7 : decode cX7_searched 7 = .ok (.ifCond .ne 10, 3) := by decide +kernel
theorem dX7_searched_10 : decode cX7_searched 10 = .ok (.aload_n 0, 1) := by decide +kernel
theorem dX7_searched_11 : decode cX7_searched 11 = .ok (.getfield 85, 3) := by decide +kernel
theorem dX7_searched_14 : decode cX7_searched 14 = .ok (.goto 27, 3) := by decide +kernel
theorem dX7_searched_17 : decode cX7_searched 17 = .ok (.iload_n 2, 1) := by decide +kernel
theorem dX7_searched_18 : decode cX7_searched 18 = .ok (.iconst 1, 1) := by decide +kernel
theorem dX7_searched_19 : decode cX7_searched 19 = .ok (.if_icmp .ne 10, 3) := by decide +kernel
theorem dX7_searched_22 : decode cX7_searched 22 = .ok (.aload_n 0, 1) := by decide +kernel
theorem dX7_searched_23 : decode cX7_searched 23 = .ok (.getfield 88, 3) := by decide +kernel
theorem dX7_searched_26 : decode cX7_searched 26 = .ok (.goto 15, 3) := by decide +kernel
theorem dX7_searched_29 : decode cX7_searched 29 = .ok (.aload_n 0, 1) := by decide +kernel
theorem dX7_searched_30 : decode cX7_searched 30 = .ok (.getfield 91, 3) := by decide +kernel
theorem dX7_searched_33 : decode cX7_searched 33 = .ok (.ifCond .eq 7, 3) := by decide +kernel
theorem dX7_searched_36 : decode cX7_searched 36 = .ok (.iconst 1, 1) := by decide +kernel
theorem dX7_searched_37 : decode cX7_searched 37 = .ok (.goto 4, 3) := by decide +kernel
theorem dX7_searched_40 : decode cX7_searched 40 = .ok (.iconst 0, 1) := by decide +kernel
theorem dX7_searched_41 : decode cX7_searched 41 = .ok (.ireturn, 1) := by decide +kernel
set_option maxRecDepth 20000 in
theorem ggX7_layings_X7_within : GoodIn wsX7_layings wsX7_within := goodIn_r _ [5] (by decide +kernel) (by decide +kernel)
set_option maxRecDepth 20000 in
theorem gX7_layings_X7_within : GoodIn wsX7_layings (va_wsS RX7 42 yX7_within wsX7_within) := goodIn_app (goodIn_of _ (by decide +kernel)) ggX7_layings_X7_within
set_option maxRecDepth 20000 in
theorem ggX7_layings_X7_searched : GoodIn wsX7_layings wsX7_searched := goodIn_r _ [9, 10, 11, 12, 13, 14, 15, 4, 16, 17, 18, 19, 20, 21, 22, 23, 24, 25, 26, 27, 28, 29, 30, 31, 32, 33, 34, 35, 36, 37, 38, 39, 40, 41, 42, 43, 44, 45, 46, 47, 48, 49, 50, 51, 52, 53, 54, 55, 56, 57, 58, 59, 60, 61, 62, 63, 64, 65, 66, 67, 68, 69, 70, 71, 72, 73, 74, 75, 76, 77, 78, 79, 80, 81, 82] (by decide +kernel) (by decide +kernel)
set_option maxRecDepth 20000 in
theorem gX7_layings_X7_searched : GoodIn wsX7_layings (wsV RX7 176 RX7 yX7_searched wsX7_searched) := goodIn_app (goodIn_of _ (by decide +kernel)) ggX7_layings_X7_searched
theorem dX7_layings_0 : decode cX7_layings 0 = .ok (.aload_n 0, 1) := by decide +kernel
theorem dX7_layings_1 : decode cX7_layings 1 = .ok (.iload_n 1, 1) := by decide +kernel
theorem dX7_layings_2 : decode cX7_layings 2 = .ok (.iconst 1, 1) := by decide +kernel
theorem dX7_layings_3 : decode cX7_layings 3 = .ok (.bipush 50, 2) := by decide +kernel
theorem dX7_layings_5 : decode cX7_layings 5 = .ok (.invokestatic 42, 3) := by decide +kernel
theorem dX7_layings_8 : decode cX7_layings 8 = .ok (.ifCond .eq 16, 3) := by decide +kernel
theorem dX7_layings_11 : decode cX7_layings 11 = .ok (.iload_n 2, 1) := by decide +kernel
theorem dX7_layings_12 : decode cX7_layings 12 = .ok (.iconst 0, 1) := by decide +kernel
theorem dX7_layings_13 : decode cX7_layings 13 = .ok (.iconst 2, 1) := by decide +kernel
theorem dX7_layings_14 : decode cX7_layings 14 = .ok (.invokestatic 42, 3) := by decide +kernel
theorem dX7_layings_17 : decode cX7_layings 17 = .ok (.ifCond .eq 7, 3) := by decide +kernel
theorem dX7_layings_20 : decode cX7_layings 20 = .ok (.iconst 0, 1) := by decide +kernel
theorem dX7_layings_21 : decode cX7_layings 21 = .ok (.goto 4, 3) := by decide +kernel
theorem dX7_layings_24 : decode cX7_layings 24 = .ok (.iconst 1, 1) := by decide +kernel
theorem dX7_layings_25 : decode cX7_layings 25 = .ok (.putfield 34, 3) := by decide +kernel
theorem dX7_layings_28 : decode cX7_layings 28 = .ok (.aload_n 0, 1) := by decide +kernel
theorem dX7_layings_29 : decode cX7_layings 29 = .ok (.getfield 34, 3) := by decide +kernel
theorem dX7_layings_32 : decode cX7_layings 32 = .ok (.ifCond .le 7, 3) := by decide +kernel
theorem dX7_layings_35 : decode cX7_layings 35 = .ok (.iconst 0, 1) := by decide +kernel
theorem dX7_layings_36 : decode cX7_layings 36 = .ok (.goto 9, 3) := by decide +kernel
theorem dX7_layings_39 : decode cX7_layings 39 = .ok (.aload_n 0, 1) := by decide +kernel
theorem dX7_layings_40 : decode cX7_layings 40 = .ok (.iload_n 1, 1) := by decide +kernel
theorem dX7_layings_41 : decode cX7_layings 41 = .ok (.iload_n 2, 1) := by decide +kernel
theorem dX7_layings_42 : decode cX7_layings 42 = .ok (.invokevirtual 176, 3) := by decide +kernel
theorem dX7_layings_45 : decode cX7_layings 45 = .ok (.ireturn, 1) := by decide +kernel
set_option maxRecDepth 20000 in
theorem ggX7_hintNow_X7_cells : GoodIn wsX7_hintNow wsX7_cells := goodIn_r _ [6, 1, 55, 56, 57, 58, 59, 60, 61, 62, 63, 64, 65, 66, 67, 68, 69, 70] (by decide +kernel) (by decide +kernel)
set_option maxRecDepth 20000 in
theorem gX7_hintNow_X7_cells : GoodIn wsX7_hintNow (wsV RX7 38 RX7 yX7_cells wsX7_cells) := goodIn_app (goodIn_of _ (by decide +kernel)) ggX7_hintNow_X7_cells
set_option maxRecDepth 20000 in
theorem ggX7_hintNow_X7_possibleMany : GoodIn wsX7_hintNow wsX7_possibleMany := goodIn_r _ [10, 1, 11, 12, 13, 5, 14, 15, 16, 17, 18, 2, 3, 4, 6, 19, 20, 21, 22, 23, 24, 25, 26, 27, 28, 29, 30, 31, 32, 33, 34, 35, 36, 37, 38, 39, 40, 41, 42, 43, 44, 45, 46, 47, 48, 49, 50, 55, 56, 57, 58, 59, 60, 61, 62, 63, 64, 65, 66, 67, 68, 69, 70] (by decide +kernel) (by decide +kernel)
set_option maxRecDepth 20000 in
theorem gX7_hintNow_X7_possibleMany : GoodIn wsX7_hintNow (wsV RX7 147 RX7 yX7_possibleMany wsX7_possibleMany) := goodIn_app (goodIn_of _ (by decide +kernel)) ggX7_hintNow_X7_possibleMany
set_option maxRecDepth 20000 in
theorem ggX7_hintNow_X7_possibleFrom : GoodIn wsX7_hintNow wsX7_possibleFrom := goodIn_r _ [54, 1, 11, 12, 13, 5, 14, 15, 16, 17, 18, 2, 3, 4, 6, 19, 20, 21, 22, 23, 24, 25, 26, 27, 28, 29, 30, 31, 32, 33, 34, 35, 36, 37, 38, 39, 40, 41, 42, 43, 44, 45, 46, 47, 48, 49, 50, 55, 56, 57, 58, 59, 60, 61, 62, 63, 64, 65, 66, 67, 68, 69, 70] (by decide +kernel) (by decide +kernel)
set_option maxRecDepth 20000 in
theorem gX7_hintNow_X7_possibleFrom : GoodIn wsX7_hintNow (wsV RX7 95 RX7 yX7_possibleFrom wsX7_possibleFrom) := goodIn_app (goodIn_of _ (by decide +kernel)) ggX7_hintNow_X7_possibleFrom
theorem dX7_hintNow_0 : decode cX7_hintNow 0 = .ok (.iconst (-1), 1) := by decide +kernel
theorem dX7_hintNow_1 : decode cX7_hintNow 1 = .ok (.istore_n 1, 1) := by decide +kernel
theorem dX7_hintNow_2 : decode cX7_hintNow 2 = .ok (.iconst 0, 1) := by decide +kernel
theorem dX7_hintNow_3 : decode cX7_hintNow 3 = .ok (.istore_n 2, 1) := by decide +kernel
theorem dX7_hintNow_4 : decode cX7_hintNow 4 = .ok (.iconst 0, 1) := by decide +kernel
theorem dX7_hintNow_5 : decode cX7_hintNow 5 = .ok (.istore_n 3, 1) := by decide +kernel
theorem dX7_hintNow_6 : decode cX7_hintNow 6 = .ok (.iload_n 3, 1) := by decide +kernel
theorem dX7_hintNow_7 : decode cX7_hintNow 7 = .ok (.aload_n 0, 1) := by decide +kernel
theorem dX7_hintNow_8 : decode cX7_hintNow 8 = .ok (.invokevirtual 38, 3) := by decide +kernel
theorem dX7_hintNow_11 : decode cX7_hintNow 11 = .ok (.if_icmp .ge 54, 3) := by decide +kernel
theorem dX7_hintNow_14 : decode cX7_hintNow 14 = .ok (.aload_n 0, 1) := by decide +kernel
theorem dX7_hintNow_15 : decode cX7_hintNow 15 = .ok (.getfield 7, 3) := by decide +kernel
theorem dX7_hintNow_18 : decode cX7_hintNow 18 = .ok (.bipush 28, 2) := by decide +kernel
theorem dX7_hintNow_20 : decode cX7_hintNow 20 = .ok (.iload_n 3, 1) := by decide +kernel
theorem dX7_hintNow_21 : decode cX7_hintNow 21 = .ok (.iadd, 1) := by decide +kernel
theorem dX7_hintNow_22 : decode cX7_hintNow 22 = .ok (.iaload, 1) := by decide +kernel
theorem dX7_hintNow_23 : decode cX7_hintNow 23 = .ok (.iconst (-1), 1) := by decide +kernel
theorem dX7_hintNow_24 : decode cX7_hintNow 24 = .ok (.if_icmp .ne 11, 3) := by decide +kernel
theorem dX7_hintNow_27 : decode cX7_hintNow 27 = .ok (.aload_n 0, 1) := by decide +kernel
theorem dX7_hintNow_28 : decode cX7_hintNow 28 = .ok (.iload_n 3, 1) := by decide +kernel
theorem dX7_hintNow_29 : decode cX7_hintNow 29 = .ok (.invokevirtual 147, 3) := by decide +kernel
theorem dX7_hintNow_32 : decode cX7_hintNow 32 = .ok (.goto 4, 3) := by decide +kernel
theorem dX7_hintNow_35 : decode cX7_hintNow 35 = .ok (.iconst 0, 1) := by decide +kernel
theorem dX7_hintNow_36 : decode cX7_hintNow 36 = .ok (.istore 4, 2) := by decide +kernel
theorem dX7_hintNow_38 : decode cX7_hintNow 38 = .ok (.iload 4, 2) := by decide +kernel
theorem dX7_hintNow_40 : decode cX7_hintNow 40 = .ok (.ifCond .le 19, 3) := by decide +kernel
theorem dX7_hintNow_43 : decode cX7_hintNow 43 = .ok (.iload_n 1, 1) := by decide +kernel
theorem dX7_hintNow_44 : decode cX7_hintNow 44 = .ok (.iconst (-1), 1) := by decide +kernel
theorem dX7_hintNow_45 : decode cX7_hintNow 45 = .ok (.if_icmp .eq 9, 3) := by decide +kernel
theorem dX7_hintNow_48 : decode cX7_hintNow 48 = .ok (.iload 4, 2) := by decide +kernel
theorem dX7_hintNow_50 : decode cX7_hintNow 50 = .ok (.iload_n 2, 1) := by decide +kernel
theorem dX7_hintNow_51 : decode cX7_hintNow 51 = .ok (.if_icmp .ge 8, 3) := by decide +kernel
theorem dX7_hintNow_54 : decode cX7_hintNow 54 = .ok (.iload_n 3, 1) := by decide +kernel
theorem dX7_hintNow_55 : decode cX7_hintNow 55 = .ok (.istore_n 1, 1) := by decide +kernel
theorem dX7_hintNow_56 : decode cX7_hintNow 56 = .ok (.iload 4, 2) := by decide +kernel
theorem dX7_hintNow_58 : decode cX7_hintNow 58 = .ok (.istore_n 2, 1) := by decide +kernel
theorem dX7_hintNow_59 : decode cX7_hintNow 59 = .ok (.iinc 3 1, 3) := by decide +kernel
theorem dX7_hintNow_62 : decode cX7_hintNow 62 = .ok (.goto (-56), 3) := by decide +kernel
theorem dX7_hintNow_65 : decode cX7_hintNow 65 = .ok (.iload_n 1, 1) := by decide +kernel
theorem dX7_hintNow_66 : decode cX7_hintNow 66 = .ok (.iconst (-1), 1) := by decide +kernel
theorem dX7_hintNow_67 : decode cX7_hintNow 67 = .ok (.if_icmp .ne 7, 3) := by decide +kernel
theorem dX7_hintNow_70 : decode cX7_hintNow 70 = .ok (.iconst (-1), 1) := by decide +kernel
theorem dX7_hintNow_71 : decode cX7_hintNow 71 = .ok (.goto 14, 3) := by decide +kernel
theorem dX7_hintNow_74 : decode cX7_hintNow 74 = .ok (.bipush 100, 2) := by decide +kernel
theorem dX7_hintNow_76 : decode cX7_hintNow 76 = .ok (.iload_n 1, 1) := by decide +kernel
theorem dX7_hintNow_77 : decode cX7_hintNow 77 = .ok (.imul, 1) := by decide +kernel
theorem dX7_hintNow_78 : decode cX7_hintNow 78 = .ok (.aload_n 0, 1) := by decide +kernel
theorem dX7_hintNow_79 : decode cX7_hintNow 79 = .ok (.iload_n 1, 1) := by decide +kernel
theorem dX7_hintNow_80 : decode cX7_hintNow 80 = .ok (.iconst 0, 1) := by decide +kernel
theorem dX7_hintNow_81 : decode cX7_hintNow 81 = .ok (.invokevirtual 95, 3) := by decide +kernel
theorem dX7_hintNow_84 : decode cX7_hintNow 84 = .ok (.iadd, 1) := by decide +kernel
theorem dX7_hintNow_85 : decode cX7_hintNow 85 = .ok (.ireturn, 1) := by decide +kernel
set_option maxRecDepth 20000 in
theorem ggX7_hint_X7_hintNow : GoodIn wsX7_hint wsX7_hintNow := goodIn_r _ [6, 7, 8, 9, 10, 5, 11, 12, 13, 14, 15, 16, 17, 18, 19, 20, 21, 22, 23, 24, 25, 26, 27, 28, 29, 30, 31, 32, 33, 34, 35, 36, 37, 38, 39, 40, 41, 42, 43, 44, 45, 46, 47, 48, 49, 50, 51, 52, 53, 54, 55, 56, 57, 58, 59, 60, 61, 62, 63, 64, 65, 66, 67, 68, 69, 70, 71, 72, 73, 74, 75] (by decide +kernel) (by decide +kernel)
set_option maxRecDepth 20000 in
theorem gX7_hint_X7_hintNow : GoodIn wsX7_hint (wsV RX7 179 RX7 yX7_hintNow wsX7_hintNow) := goodIn_app (goodIn_of _ (by decide +kernel)) ggX7_hint_X7_hintNow
theorem dX7_hint_0 : decode cX7_hint 0 = .ok (.aload_n 0, 1) := by decide +kernel
theorem dX7_hint_1 : decode cX7_hint 1 = .ok (.iconst 0, 1) := by decide +kernel
theorem dX7_hint_2 : decode cX7_hint 2 = .ok (.putfield 34, 3) := by decide +kernel
theorem dX7_hint_5 : decode cX7_hint 5 = .ok (.aload_n 0, 1) := by decide +kernel
theorem dX7_hint_6 : decode cX7_hint 6 = .ok (.invokevirtual 179, 3) := by decide +kernel
theorem dX7_hint_9 : decode cX7_hint 9 = .ok (.ireturn, 1) := by decide +kernel
set_option maxRecDepth 20000 in
theorem ggX7_isSure_X7_cells : GoodIn wsX7_isSure wsX7_cells := goodIn_r _ [9, 2, 60, 61, 62, 63, 64, 65, 66, 67, 68, 69, 70, 71, 72, 73, 74, 75] (by decide +kernel) (by decide +kernel)
set_option maxRecDepth 20000 in
theorem gX7_isSure_X7_cells : GoodIn wsX7_isSure (wsV RX7 38 RX7 yX7_cells wsX7_cells) := goodIn_app (goodIn_of _ (by decide +kernel)) ggX7_isSure_X7_cells
set_option maxRecDepth 20000 in
theorem ggX7_isSure_X7_search : GoodIn wsX7_isSure wsX7_search := goodIn_r _ [13, 2, 14, 3, 15, 4, 5, 6, 7, 8, 9, 16, 17, 18, 19, 20, 21, 22, 23, 24, 25, 26, 27, 28, 29, 30, 31, 32, 33, 34, 35, 36, 37, 38, 39, 40, 41, 42, 43, 44, 45, 46, 47, 48, 49, 50, 51, 52, 53, 54, 55, 56, 57, 58, 59, 60, 61, 62, 63, 64, 65, 66, 67, 68, 69, 70, 71, 72, 73, 74, 75] (by decide +kernel) (by decide +kernel)
set_option maxRecDepth 20000 in
theorem gX7_isSure_X7_search : GoodIn wsX7_isSure (wsV RX7 134 RX7 yX7_search wsX7_search) := goodIn_app (goodIn_of _ (by decide +kernel)) ggX7_isSure_X7_search
theorem dX7_isSure_0 : decode cX7_isSure 0 = .ok (.iconst 0, 1) := by decide +kernel
theorem dX7_isSure_1 : decode cX7_isSure 1 = .ok (.istore_n 2, 1) := by decide +kernel
theorem dX7_isSure_2 : decode cX7_isSure 2 = .ok (.iload_n 2, 1) := by decide +kernel
theorem dX7_isSure_3 : decode cX7_isSure 3 = .ok (.aload_n 0, 1) := by decide +kernel
theorem dX7_isSure_4 : decode cX7_isSure 4 = .ok (.invokevirtual 38, 3) := by decide +kernel
theorem dX7_isSure_7 : decode cX7_isSure 7 = .ok (.if_icmp .ge 52, 3) := by decide +kernel
theorem dX7_isSure_10 : decode cX7_isSure 10 = .ok (.aload_n 0, 1) := by decide +kernel
theorem dX7_isSure_11 : decode cX7_isSure 11 = .ok (.getfield 28, 3) := by decide +kernel
theorem dX7_isSure_14 : decode cX7_isSure 14 = .ok (.iload_n 2, 1) := by decide +kernel
theorem dX7_isSure_15 : decode cX7_isSure 15 = .ok (.aload_n 0, 1) := by decide +kernel
theorem dX7_isSure_16 : decode cX7_isSure 16 = .ok (.getfield 7, 3) := by decide +kernel
theorem dX7_isSure_19 : decode cX7_isSure 19 = .ok (.bipush 28, 2) := by decide +kernel
theorem dX7_isSure_21 : decode cX7_isSure 21 = .ok (.iload_n 2, 1) := by decide +kernel
theorem dX7_isSure_22 : decode cX7_isSure 22 = .ok (.iadd, 1) := by decide +kernel
theorem dX7_isSure_23 : decode cX7_isSure 23 = .ok (.iaload, 1) := by decide +kernel
theorem dX7_isSure_24 : decode cX7_isSure 24 = .ok (.iastore, 1) := by decide +kernel
theorem dX7_isSure_25 : decode cX7_isSure 25 = .ok (.aload_n 0, 1) := by decide +kernel
theorem dX7_isSure_26 : decode cX7_isSure 26 = .ok (.getfield 7, 3) := by decide +kernel
theorem dX7_isSure_29 : decode cX7_isSure 29 = .ok (.bipush 28, 2) := by decide +kernel
theorem dX7_isSure_31 : decode cX7_isSure 31 = .ok (.iload_n 2, 1) := by decide +kernel
theorem dX7_isSure_32 : decode cX7_isSure 32 = .ok (.iadd, 1) := by decide +kernel
theorem dX7_isSure_33 : decode cX7_isSure 33 = .ok (.iload_n 1, 1) := by decide +kernel
theorem dX7_isSure_34 : decode cX7_isSure 34 = .ok (.iload_n 2, 1) := by decide +kernel
theorem dX7_isSure_35 : decode cX7_isSure 35 = .ok (.ishr, 1) := by decide +kernel
theorem dX7_isSure_36 : decode cX7_isSure 36 = .ok (.iconst 1, 1) := by decide +kernel
theorem dX7_isSure_37 : decode cX7_isSure 37 = .ok (.iand, 1) := by decide +kernel
theorem dX7_isSure_38 : decode cX7_isSure 38 = .ok (.iconst 1, 1) := by decide +kernel
theorem dX7_isSure_39 : decode cX7_isSure 39 = .ok (.if_icmp .ne 12, 3) := by decide +kernel
theorem dX7_isSure_42 : decode cX7_isSure 42 = .ok (.aload_n 0, 1) := by decide +kernel
theorem dX7_isSure_43 : decode cX7_isSure 43 = .ok (.getfield 28, 3) := by decide +kernel
theorem dX7_isSure_46 : decode cX7_isSure 46 = .ok (.iload_n 2, 1) := by decide +kernel
theorem dX7_isSure_47 : decode cX7_isSure 47 = .ok (.iaload, 1) := by decide +kernel
theorem dX7_isSure_48 : decode cX7_isSure 48 = .ok (.goto 4, 3) := by decide +kernel
theorem dX7_isSure_51 : decode cX7_isSure 51 = .ok (.iconst (-1), 1) := by decide +kernel
theorem dX7_isSure_52 : decode cX7_isSure 52 = .ok (.iastore, 1) := by decide +kernel
theorem dX7_isSure_53 : decode cX7_isSure 53 = .ok (.iinc 2 1, 3) := by decide +kernel
theorem dX7_isSure_56 : decode cX7_isSure 56 = .ok (.goto (-54), 3) := by decide +kernel
theorem dX7_isSure_59 : decode cX7_isSure 59 = .ok (.aload_n 0, 1) := by decide +kernel
theorem dX7_isSure_60 : decode cX7_isSure 60 = .ok (.iconst 2, 1) := by decide +kernel
theorem dX7_isSure_61 : decode cX7_isSure 61 = .ok (.iconst 0, 1) := by decide +kernel
theorem dX7_isSure_62 : decode cX7_isSure 62 = .ok (.invokevirtual 134, 3) := by decide +kernel
theorem dX7_isSure_65 : decode cX7_isSure 65 = .ok (.iconst 0, 1) := by decide +kernel
theorem dX7_isSure_66 : decode cX7_isSure 66 = .ok (.istore_n 2, 1) := by decide +kernel
theorem dX7_isSure_67 : decode cX7_isSure 67 = .ok (.iload_n 2, 1) := by decide +kernel
theorem dX7_isSure_68 : decode cX7_isSure 68 = .ok (.aload_n 0, 1) := by decide +kernel
theorem dX7_isSure_69 : decode cX7_isSure 69 = .ok (.invokevirtual 38, 3) := by decide +kernel
theorem dX7_isSure_72 : decode cX7_isSure 72 = .ok (.if_icmp .ge 24, 3) := by decide +kernel
theorem dX7_isSure_75 : decode cX7_isSure 75 = .ok (.aload_n 0, 1) := by decide +kernel
theorem dX7_isSure_76 : decode cX7_isSure 76 = .ok (.getfield 7, 3) := by decide +kernel
theorem dX7_isSure_79 : decode cX7_isSure 79 = .ok (.bipush 28, 2) := by decide +kernel
theorem dX7_isSure_81 : decode cX7_isSure 81 = .ok (.iload_n 2, 1) := by decide +kernel
theorem dX7_isSure_82 : decode cX7_isSure 82 = .ok (.iadd, 1) := by decide +kernel
theorem dX7_isSure_83 : decode cX7_isSure 83 = .ok (.aload_n 0, 1) := by decide +kernel
theorem dX7_isSure_84 : decode cX7_isSure 84 = .ok (.getfield 28, 3) := by decide +kernel
theorem dX7_isSure_87 : decode cX7_isSure 87 = .ok (.iload_n 2, 1) := by decide +kernel
theorem dX7_isSure_88 : decode cX7_isSure 88 = .ok (.iaload, 1) := by decide +kernel
theorem dX7_isSure_89 : decode cX7_isSure 89 = .ok (.iastore, 1) := by decide +kernel
theorem dX7_isSure_90 : decode cX7_isSure 90 = .ok (.iinc 2 1, 3) := by decide +kernel
theorem dX7_isSure_93 : decode cX7_isSure 93 = .ok (.goto (-26), 3) := by decide +kernel
theorem dX7_isSure_96 : decode cX7_isSure 96 = .ok (.aload_n 0, 1) := by decide +kernel
theorem dX7_isSure_97 : decode cX7_isSure 97 = .ok (.getfield 85, 3) := by decide +kernel
theorem dX7_isSure_100 : decode cX7_isSure 100 = .ok (.iconst 1, 1) := by decide +kernel
theorem dX7_isSure_101 : decode cX7_isSure 101 = .ok (.if_icmp .ne 14, 3) := by decide +kernel
theorem dX7_isSure_104 : decode cX7_isSure 104 = .ok (.aload_n 0, 1) := by decide +kernel
theorem dX7_isSure_105 : decode cX7_isSure 105 = .ok (.getfield 91, 3) := by decide +kernel
theorem dX7_isSure_108 : decode cX7_isSure 108 = .ok (.ifCond .ne 7, 3) := by decide +kernel
theorem dX7_isSure_111 : decode cX7_isSure 111 = .ok (.iconst 1, 1) := by decide +kernel
theorem dX7_isSure_112 : decode cX7_isSure 112 = .ok (.goto 4, 3) := by decide +kernel
theorem dX7_isSure_115 : decode cX7_isSure 115 = .ok (.iconst 0, 1) := by decide +kernel
theorem dX7_isSure_116 : decode cX7_isSure 116 = .ok (.ireturn, 1) := by decide +kernel
theorem dX7_bits_0 : decode cX7_bits 0 = .ok (.iconst 0, 1) := by decide +kernel
theorem dX7_bits_1 : decode cX7_bits 1 = .ok (.istore_n 1, 1) := by decide +kernel
theorem dX7_bits_2 : decode cX7_bits 2 = .ok (.iconst 0, 1) := by decide +kernel
theorem dX7_bits_3 : decode cX7_bits 3 = .ok (.istore_n 2, 1) := by decide +kernel
theorem dX7_bits_4 : decode cX7_bits 4 = .ok (.iload_n 2, 1) := by decide +kernel
theorem dX7_bits_5 : decode cX7_bits 5 = .ok (.bipush 12, 2) := by decide +kernel
theorem dX7_bits_7 : decode cX7_bits 7 = .ok (.if_icmp .ge 17, 3) := by decide +kernel
theorem dX7_bits_10 : decode cX7_bits 10 = .ok (.iload_n 1, 1) := by decide +kernel
theorem dX7_bits_11 : decode cX7_bits 11 = .ok (.iload_n 0, 1) := by decide +kernel
theorem dX7_bits_12 : decode cX7_bits 12 = .ok (.iload_n 2, 1) := by decide +kernel
theorem dX7_bits_13 : decode cX7_bits 13 = .ok (.ishr, 1) := by decide +kernel
theorem dX7_bits_14 : decode cX7_bits 14 = .ok (.iconst 1, 1) := by decide +kernel
theorem dX7_bits_15 : decode cX7_bits 15 = .ok (.iand, 1) := by decide +kernel
theorem dX7_bits_16 : decode cX7_bits 16 = .ok (.iadd, 1) := by decide +kernel
theorem dX7_bits_17 : decode cX7_bits 17 = .ok (.istore_n 1, 1) := by decide +kernel
theorem dX7_bits_18 : decode cX7_bits 18 = .ok (.iinc 2 1, 3) := by decide +kernel
theorem dX7_bits_21 : decode cX7_bits 21 = .ok (.goto (-17), 3) := by decide +kernel
theorem dX7_bits_24 : decode cX7_bits 24 = .ok (.iload_n 1, 1) := by decide +kernel
theorem dX7_bits_25 : decode cX7_bits 25 = .ok (.ireturn, 1) := by decide +kernel
set_option maxRecDepth 20000 in
theorem ggX7_startsNow_X7_cells : GoodIn wsX7_startsNow wsX7_cells := goodIn_r _ [5, 6, 67, 68, 69, 70, 71, 72, 73, 74, 75, 76, 77, 78, 79, 80, 81, 82] (by decide +kernel) (by decide +kernel)
set_option maxRecDepth 20000 in
theorem gX7_startsNow_X7_cells : GoodIn wsX7_startsNow (wsV RX7 38 RX7 yX7_cells wsX7_cells) := goodIn_app (goodIn_of _ (by decide +kernel)) ggX7_startsNow_X7_cells
set_option maxRecDepth 20000 in
theorem ggX7_startsNow_X7_bits : GoodIn wsX7_startsNow wsX7_bits := goodIn_r _ [9] (by decide +kernel) (by decide +kernel)
set_option maxRecDepth 20000 in
theorem gX7_startsNow_X7_bits : GoodIn wsX7_startsNow (va_wsS RX7 182 yX7_bits wsX7_bits) := goodIn_app (goodIn_of _ (by decide +kernel)) ggX7_startsNow_X7_bits
set_option maxRecDepth 20000 in
theorem ggX7_startsNow_X7_isSure : GoodIn wsX7_startsNow wsX7_isSure := goodIn_r _ [13, 14, 6, 15, 16, 1, 2, 3, 4, 5, 17, 18, 19, 20, 21, 22, 23, 24, 25, 26, 27, 28, 29, 30, 31, 32, 33, 34, 35, 36, 37, 38, 39, 40, 41, 42, 43, 44, 45, 46, 47, 48, 49, 50, 51, 52, 53, 54, 55, 56, 57, 58, 59, 60, 61, 62, 63, 64, 65, 66, 67, 68, 69, 70, 71, 72, 73, 74, 75, 76, 77, 78, 79, 80, 81, 82] (by decide +kernel) (by decide +kernel)
set_option maxRecDepth 20000 in
theorem gX7_startsNow_X7_isSure : GoodIn wsX7_startsNow (wsV RX7 185 RX7 yX7_isSure wsX7_isSure) := goodIn_app (goodIn_of _ (by decide +kernel)) ggX7_startsNow_X7_isSure
theorem dX7_startsNow_0 : decode cX7_startsNow 0 = .ok (.iconst 0, 1) := by decide +kernel
theorem dX7_startsNow_1 : decode cX7_startsNow 1 = .ok (.istore_n 1, 1) := by decide +kernel
theorem dX7_startsNow_2 : decode cX7_startsNow 2 = .ok (.iload_n 1, 1) := by decide +kernel
theorem dX7_startsNow_3 : decode cX7_startsNow 3 = .ok (.iconst 3, 1) := by decide +kernel
theorem dX7_startsNow_4 : decode cX7_startsNow 4 = .ok (.if_icmp .ge 45, 3) := by decide +kernel
theorem dX7_startsNow_7 : decode cX7_startsNow 7 = .ok (.iconst 0, 1) := by decide +kernel
theorem dX7_startsNow_8 : decode cX7_startsNow 8 = .ok (.istore_n 2, 1) := by decide +kernel
theorem dX7_startsNow_9 : decode cX7_startsNow 9 = .ok (.iload_n 2, 1) := by decide +kernel
theorem dX7_startsNow_10 : decode cX7_startsNow 10 = .ok (.iconst 1, 1) := by decide +kernel
theorem dX7_startsNow_11 : decode cX7_startsNow 11 = .ok (.aload_n 0, 1) := by decide +kernel
theorem dX7_startsNow_12 : decode cX7_startsNow 12 = .ok (.invokevirtual 38, 3) := by decide +kernel
theorem dX7_startsNow_15 : decode cX7_startsNow 15 = .ok (.ishl, 1) := by decide +kernel
theorem dX7_startsNow_16 : decode cX7_startsNow 16 = .ok (.if_icmp .ge 27, 3) := by decide +kernel
theorem dX7_startsNow_19 : decode cX7_startsNow 19 = .ok (.iload_n 2, 1) := by decide +kernel
theorem dX7_startsNow_20 : decode cX7_startsNow 20 = .ok (.invokestatic 182, 3) := by decide +kernel
theorem dX7_startsNow_23 : decode cX7_startsNow 23 = .ok (.iload_n 1, 1) := by decide +kernel
theorem dX7_startsNow_24 : decode cX7_startsNow 24 = .ok (.if_icmp .ne 13, 3) := by decide +kernel
theorem dX7_startsNow_27 : decode cX7_startsNow 27 = .ok (.aload_n 0, 1) := by decide +kernel
theorem dX7_startsNow_28 : decode cX7_startsNow 28 = .ok (.iload_n 2, 1) := by decide +kernel
theorem dX7_startsNow_29 : decode cX7_startsNow 29 = .ok (.invokevirtual 185, 3) := by decide +kernel
theorem dX7_startsNow_32 : decode cX7_startsNow 32 = .ok (.ifCond .eq 5, 3) := by decide +kernel
theorem dX7_startsNow_35 : decode cX7_startsNow 35 = .ok (.iload_n 2, 1) := by decide +kernel
theorem dX7_startsNow_36 : decode cX7_startsNow 36 = .ok (.ireturn, 1) := by decide +kernel
theorem dX7_startsNow_37 : decode cX7_startsNow 37 = .ok (.iinc 2 1, 3) := by decide +kernel
theorem dX7_startsNow_40 : decode cX7_startsNow 40 = .ok (.goto (-31), 3) := by decide +kernel
theorem dX7_startsNow_43 : decode cX7_startsNow 43 = .ok (.iinc 1 1, 3) := by decide +kernel
theorem dX7_startsNow_46 : decode cX7_startsNow 46 = .ok (.goto (-44), 3) := by decide +kernel
theorem dX7_startsNow_49 : decode cX7_startsNow 49 = .ok (.iconst (-1), 1) := by decide +kernel
theorem dX7_startsNow_50 : decode cX7_startsNow 50 = .ok (.ireturn, 1) := by decide +kernel
set_option maxRecDepth 20000 in
theorem ggX7_starts_X7_empties : GoodIn wsX7_starts wsX7_empties := goodIn_r _ [6, 7, 8, 9, 10, 5, 11, 76, 77, 78, 79, 80, 81, 82, 83, 84, 85, 86, 87, 88, 89, 90, 91] (by decide +kernel) (by decide +kernel)
set_option maxRecDepth 20000 in
theorem gX7_starts_X7_empties : GoodIn wsX7_starts (wsV RX7 128 RX7 yX7_empties wsX7_empties) := goodIn_app (goodIn_of _ (by decide +kernel)) ggX7_starts_X7_empties
set_option maxRecDepth 20000 in
theorem ggX7_starts_X7_startsNow : GoodIn wsX7_starts wsX7_startsNow := goodIn_r _ [15, 8, 9, 10, 5, 11, 7, 16, 17, 18, 19, 20, 21, 22, 23, 24, 25, 26, 27, 28, 29, 30, 31, 32, 33, 34, 35, 36, 37, 38, 39, 40, 41, 42, 43, 44, 45, 46, 47, 48, 49, 50, 51, 52, 53, 54, 55, 56, 57, 58, 59, 60, 61, 62, 63, 64, 65, 66, 67, 68, 69, 70, 71, 72, 73, 74, 75, 76, 77, 78, 79, 80, 81, 82, 83, 84, 85, 86, 87, 88, 89, 90, 91] (by decide +kernel) (by decide +kernel)
set_option maxRecDepth 20000 in
theorem gX7_starts_X7_startsNow : GoodIn wsX7_starts (wsV RX7 188 RX7 yX7_startsNow wsX7_startsNow) := goodIn_app (goodIn_of _ (by decide +kernel)) ggX7_starts_X7_startsNow
theorem dX7_starts_0 : decode cX7_starts 0 = .ok (.aload_n 0, 1) := by decide +kernel
theorem dX7_starts_1 : decode cX7_starts 1 = .ok (.iconst 0, 1) := by decide +kernel
theorem dX7_starts_2 : decode cX7_starts 2 = .ok (.putfield 34, 3) := by decide +kernel
theorem dX7_starts_5 : decode cX7_starts 5 = .ok (.aload_n 0, 1) := by decide +kernel
theorem dX7_starts_6 : decode cX7_starts 6 = .ok (.invokevirtual 128, 3) := by decide +kernel
theorem dX7_starts_9 : decode cX7_starts 9 = .ok (.ifCond .le 7, 3) := by decide +kernel
theorem dX7_starts_12 : decode cX7_starts 12 = .ok (.iconst (-1), 1) := by decide +kernel
theorem dX7_starts_13 : decode cX7_starts 13 = .ok (.goto 7, 3) := by decide +kernel
theorem dX7_starts_16 : decode cX7_starts 16 = .ok (.aload_n 0, 1) := by decide +kernel
theorem dX7_starts_17 : decode cX7_starts 17 = .ok (.invokevirtual 188, 3) := by decide +kernel
theorem dX7_starts_20 : decode cX7_starts 20 = .ok (.ireturn, 1) := by decide +kernel
set_option maxRecDepth 20000 in
theorem ggX7_why_X7_isCell : GoodIn wsX7_why wsX7_isCell := goodIn_r _ [6, 7, 8, 9, 5, 10, 11, 12, 13, 14, 63, 64, 65, 66, 67, 68, 69, 70, 71, 72, 73, 74, 75, 76, 77, 78] (by decide +kernel) (by decide +kernel)
set_option maxRecDepth 20000 in
theorem gX7_why_X7_isCell : GoodIn wsX7_why (wsV RX7 122 RX7 yX7_isCell wsX7_isCell) := goodIn_app (goodIn_of _ (by decide +kernel)) ggX7_why_X7_isCell
set_option maxRecDepth 20000 in
theorem ggX7_why_X7_isPlacing : GoodIn wsX7_why wsX7_isPlacing := goodIn_r _ [18, 19, 20, 21, 5, 22, 11, 12, 13, 14, 63, 64, 65, 66, 67, 68, 69, 70, 71, 72, 73, 74, 75, 76, 77, 78] (by decide +kernel) (by decide +kernel)
set_option maxRecDepth 20000 in
theorem gX7_why_X7_isPlacing : GoodIn wsX7_why (wsV RX7 125 RX7 yX7_isPlacing wsX7_isPlacing) := goodIn_app (goodIn_of _ (by decide +kernel)) ggX7_why_X7_isPlacing
set_option maxRecDepth 20000 in
theorem ggX7_why_X7_whyNot : GoodIn wsX7_why wsX7_whyNot := goodIn_r _ [26, 11, 27, 28, 29, 5, 30, 7, 8, 9, 10, 31, 32, 33, 34, 35, 36, 37, 38, 39, 40, 41, 42, 43, 44, 45, 46, 47, 48, 49, 50, 51, 52, 53, 54, 55, 56, 57, 58, 59, 60, 61, 62, 63, 64, 65, 66, 67, 68, 69, 70, 71, 72, 73, 74, 75, 76, 77, 78] (by decide +kernel) (by decide +kernel)
set_option maxRecDepth 20000 in
theorem gX7_why_X7_whyNot : GoodIn wsX7_why (wsV RX7 82 RX7 yX7_whyNot wsX7_whyNot) := goodIn_app (goodIn_of _ (by decide +kernel)) ggX7_why_X7_whyNot
theorem dX7_why_0 : decode cX7_why 0 = .ok (.aload_n 0, 1) := by decide +kernel
theorem dX7_why_1 : decode cX7_why 1 = .ok (.aload_n 0, 1) := by decide +kernel
theorem dX7_why_2 : decode cX7_why 2 = .ok (.iload_n 1, 1) := by decide +kernel
theorem dX7_why_3 : decode cX7_why 3 = .ok (.invokevirtual 122, 3) := by decide +kernel
theorem dX7_why_6 : decode cX7_why 6 = .ok (.ifCond .eq 15, 3) := by decide +kernel
theorem dX7_why_9 : decode cX7_why 9 = .ok (.aload_n 0, 1) := by decide +kernel
theorem dX7_why_10 : decode cX7_why 10 = .ok (.iload_n 2, 1) := by decide +kernel
theorem dX7_why_11 : decode cX7_why 11 = .ok (.invokevirtual 125, 3) := by decide +kernel
theorem dX7_why_14 : decode cX7_why 14 = .ok (.ifCond .eq 7, 3) := by decide +kernel
theorem dX7_why_17 : decode cX7_why 17 = .ok (.iconst 0, 1) := by decide +kernel
theorem dX7_why_18 : decode cX7_why 18 = .ok (.goto 4, 3) := by decide +kernel
theorem dX7_why_21 : decode cX7_why 21 = .ok (.iconst 1, 1) := by decide +kernel
theorem dX7_why_22 : decode cX7_why 22 = .ok (.putfield 34, 3) := by decide +kernel
theorem dX7_why_25 : decode cX7_why 25 = .ok (.aload_n 0, 1) := by decide +kernel
theorem dX7_why_26 : decode cX7_why 26 = .ok (.getfield 34, 3) := by decide +kernel
theorem dX7_why_29 : decode cX7_why 29 = .ok (.ifCond .le 7, 3) := by decide +kernel
theorem dX7_why_32 : decode cX7_why 32 = .ok (.iconst 0, 1) := by decide +kernel
theorem dX7_why_33 : decode cX7_why 33 = .ok (.goto 9, 3) := by decide +kernel
theorem dX7_why_36 : decode cX7_why 36 = .ok (.aload_n 0, 1) := by decide +kernel
theorem dX7_why_37 : decode cX7_why 37 = .ok (.iload_n 1, 1) := by decide +kernel
theorem dX7_why_38 : decode cX7_why 38 = .ok (.iload_n 2, 1) := by decide +kernel
theorem dX7_why_39 : decode cX7_why 39 = .ok (.invokevirtual 82, 3) := by decide +kernel
theorem dX7_why_42 : decode cX7_why 42 = .ok (.ireturn, 1) := by decide +kernel
set_option maxRecDepth 20000 in
theorem ggX7_fittingNow_X7_pairs : GoodIn wsX7_fittingNow wsX7_pairs := goodIn_r _ [5, 6, 7, 8, 9, 4, 10, 11, 12, 13, 14, 15, 16, 17, 18, 19, 20, 21, 22, 23, 24, 25, 26, 31, 32, 33, 34, 35, 36, 37, 38, 39, 40, 41, 42, 43, 44, 45, 46] (by decide +kernel) (by decide +kernel)
set_option maxRecDepth 20000 in
theorem gX7_fittingNow_X7_pairs : GoodIn wsX7_fittingNow (wsV RX7 191 RX7 yX7_pairs wsX7_pairs) := goodIn_app (goodIn_of _ (by decide +kernel)) ggX7_fittingNow_X7_pairs
set_option maxRecDepth 20000 in
theorem ggX7_fittingNow_X7_likePairs : GoodIn wsX7_fittingNow wsX7_likePairs := goodIn_r _ [30, 6, 7, 8, 9, 4, 10, 11, 12, 13, 14, 15, 16, 17, 18, 19, 20, 21, 22, 23, 24, 25, 26, 31, 32, 33, 34, 35, 36, 37, 38, 39, 40, 41, 42, 43, 44, 45, 46] (by decide +kernel) (by decide +kernel)
set_option maxRecDepth 20000 in
theorem gX7_fittingNow_X7_likePairs : GoodIn wsX7_fittingNow (wsV RX7 166 RX7 yX7_likePairs wsX7_likePairs) := goodIn_app (goodIn_of _ (by decide +kernel)) ggX7_fittingNow_X7_likePairs
theorem dX7_fittingNow_0 : decode cX7_fittingNow 0 = .ok (.aload_n 0, 1) := by decide +kernel
theorem dX7_fittingNow_1 : decode cX7_fittingNow 1 = .ok (.invokevirtual 191, 3) := by decide +kernel
theorem dX7_fittingNow_4 : decode cX7_fittingNow 4 = .ok (.istore_n 1, 1) := by decide +kernel
theorem dX7_fittingNow_5 : decode cX7_fittingNow 5 = .ok (.iload_n 1, 1) := by decide +kernel
theorem dX7_fittingNow_6 : decode cX7_fittingNow 6 = .ok (.ifCond .ne 7, 3) := by decide +kernel
theorem dX7_fittingNow_9 : decode cX7_fittingNow 9 = .ok (.dconst 1, 1) := by decide +kernel
theorem dX7_fittingNow_10 : decode cX7_fittingNow 10 = .ok (.goto 22, 3) := by decide +kernel
theorem dX7_fittingNow_13 : decode cX7_fittingNow 13 = .ok (.dconst 1, 1) := by decide +kernel
theorem dX7_fittingNow_14 : decode cX7_fittingNow 14 = .ok (.aload_n 0, 1) := by decide +kernel
theorem dX7_fittingNow_15 : decode cX7_fittingNow 15 = .ok (.iconst 0, 1) := by decide +kernel
theorem dX7_fittingNow_16 : decode cX7_fittingNow 16 = .ok (.invokevirtual 166, 3) := by decide +kernel
theorem dX7_fittingNow_19 : decode cX7_fittingNow 19 = .ok (.aload_n 0, 1) := by decide +kernel
theorem dX7_fittingNow_20 : decode cX7_fittingNow 20 = .ok (.iconst 1, 1) := by decide +kernel
theorem dX7_fittingNow_21 : decode cX7_fittingNow 21 = .ok (.invokevirtual 166, 3) := by decide +kernel
theorem dX7_fittingNow_24 : decode cX7_fittingNow 24 = .ok (.iadd, 1) := by decide +kernel
theorem dX7_fittingNow_25 : decode cX7_fittingNow 25 = .ok (.i2d, 1) := by decide +kernel
theorem dX7_fittingNow_26 : decode cX7_fittingNow 26 = .ok (.dmul, 1) := by decide +kernel
theorem dX7_fittingNow_27 : decode cX7_fittingNow 27 = .ok (.iconst 2, 1) := by decide +kernel
theorem dX7_fittingNow_28 : decode cX7_fittingNow 28 = .ok (.iload_n 1, 1) := by decide +kernel
theorem dX7_fittingNow_29 : decode cX7_fittingNow 29 = .ok (.imul, 1) := by decide +kernel
theorem dX7_fittingNow_30 : decode cX7_fittingNow 30 = .ok (.i2d, 1) := by decide +kernel
theorem dX7_fittingNow_31 : decode cX7_fittingNow 31 = .ok (.ddiv, 1) := by decide +kernel
theorem dX7_fittingNow_32 : decode cX7_fittingNow 32 = .ok (.dreturn, 1) := by decide +kernel
set_option maxRecDepth 20000 in
theorem ggX7_fitting_X7_fittingNow : GoodIn wsX7_fitting wsX7_fittingNow := goodIn_r _ [6, 7, 8, 9, 5, 10, 11, 12, 13, 14, 15, 16, 17, 18, 19, 20, 21, 22, 23, 24, 25, 26, 27, 28, 29, 30, 31, 32, 33, 34, 35, 36, 37, 38, 39, 40, 41, 42, 43, 44, 45, 46, 47, 48, 49, 50, 51] (by decide +kernel) (by decide +kernel)
set_option maxRecDepth 20000 in
theorem gX7_fitting_X7_fittingNow : GoodIn wsX7_fitting (wsV RX7 194 RX7 yX7_fittingNow wsX7_fittingNow) := goodIn_app (goodIn_of _ (by decide +kernel)) ggX7_fitting_X7_fittingNow
theorem dX7_fitting_0 : decode cX7_fitting 0 = .ok (.aload_n 0, 1) := by decide +kernel
theorem dX7_fitting_1 : decode cX7_fitting 1 = .ok (.iconst 0, 1) := by decide +kernel
theorem dX7_fitting_2 : decode cX7_fitting 2 = .ok (.putfield 34, 3) := by decide +kernel
theorem dX7_fitting_5 : decode cX7_fitting 5 = .ok (.aload_n 0, 1) := by decide +kernel
theorem dX7_fitting_6 : decode cX7_fitting 6 = .ok (.invokevirtual 194, 3) := by decide +kernel
theorem dX7_fitting_9 : decode cX7_fitting 9 = .ok (.dreturn, 1) := by decide +kernel
theorem dX7_mix_0 : decode cX7_mix 0 = .ok (.aload_n 0, 1) := by decide +kernel
theorem dX7_mix_1 : decode cX7_mix 1 = .ok (.ldc2_w 198, 3) := by decide +kernel
theorem dX7_mix_4 : decode cX7_mix 4 = .ok (.aload_n 0, 1) := by decide +kernel
theorem dX7_mix_5 : decode cX7_mix 5 = .ok (.getfield 200, 3) := by decide +kernel
theorem dX7_mix_8 : decode cX7_mix 8 = .ok (.lmul, 1) := by decide +kernel
theorem dX7_mix_9 : decode cX7_mix 9 = .ok (.lload_n 1, 1) := by decide +kernel
