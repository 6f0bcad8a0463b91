set_option maxRecDepth 20000 in
theorem ggX6_reason_X0_isEmpty : GoodIn wsX6_reason wsX0_isEmpty := goodIn_r _ [8, 9, 67, 68, 69, 70, 71, 72, 73, 74] (by decide +kernel) (by decide +kernel)
set_option maxRecDepth 20000 in
theorem gX6_reason_X0_isEmpty : GoodIn wsX6_reason (wsV RX6 130 RX0 yX0_isEmpty wsX0_isEmpty) := goodIn_app (goodIn_of _ (by decide +kernel)) ggX6_reason_X0_isEmpty
set_option maxRecDepth 20000 in
theorem ggX6_reason_X0_isLaid : GoodIn wsX6_reason wsX0_isLaid := goodIn_r _ [13, 14, 67, 68, 69, 70, 71, 72, 73, 74] (by decide +kernel) (by decide +kernel)
set_option maxRecDepth 20000 in
theorem gX6_reason_X0_isLaid : GoodIn wsX6_reason (wsV RX6 84 RX0 yX0_isLaid wsX0_isLaid) := goodIn_app (goodIn_of _ (by decide +kernel)) ggX6_reason_X0_isLaid
set_option maxRecDepth 20000 in
theorem ggX6_reason_X3_read : GoodIn wsX6_reason wsX3_read := goodIn_r _ [19, 20, 21, 22, 23, 24, 25, 26, 18, 27, 28, 29, 30, 31, 7, 32, 33, 34, 35, 36, 37, 38, 39, 5, 6, 8, 9, 40, 41, 42, 43, 44, 45, 46, 47, 48, 49, 50, 51, 52, 53, 54, 55, 75, 76, 77, 78, 67, 68, 69, 70, 71, 72, 73, 74] (by decide +kernel) (by decide +kernel)
set_option maxRecDepth 20000 in
theorem gX6_reason_X3_read : GoodIn wsX6_reason (wsV RX6 275 RX3 yX3_read wsX3_read) := goodIn_app (goodIn_of _ (by decide +kernel)) ggX6_reason_X3_read
set_option maxRecDepth 20000 in
theorem ggX6_reason_X3_reasonAgainst : GoodIn wsX6_reason wsX3_reasonAgainst := goodIn_r _ [59, 20, 22, 21, 60, 23, 75, 76, 77, 78] (by decide +kernel) (by decide +kernel)
set_option maxRecDepth 20000 in
theorem gX6_reason_X3_reasonAgainst : GoodIn wsX6_reason (wsV RX6 281 RX3 yX3_reasonAgainst wsX3_reasonAgainst) := goodIn_app (goodIn_of _ (by decide +kernel)) ggX6_reason_X3_reasonAgainst
theorem dX6_reason_0 : decode cX6_reason 0 = .ok (.aload_n 0, 1) := by decide +kernel
theorem dX6_reason_1 : decode cX6_reason 1 = .ok (.getfield 12, 3) := by decide +kernel
theorem dX6_reason_4 : decode cX6_reason 4 = .ok (.iload_n 1, 1) := by decide +kernel
theorem dX6_reason_5 : decode cX6_reason 5 = .ok (.invokevirtual 130, 3) := by decide +kernel
theorem dX6_reason_8 : decode cX6_reason 8 = .ok (.ifCond .ne 5, 3) := by decide +kernel
theorem dX6_reason_11 : decode cX6_reason 11 = .ok (.iconst 1, 1) := by decide +kernel
theorem dX6_reason_12 : decode cX6_reason 12 = .ok (.ireturn, 1) := by decide +kernel
theorem dX6_reason_13 : decode cX6_reason 13 = .ok (.aload_n 0, 1) := by decide +kernel
theorem dX6_reason_14 : decode cX6_reason 14 = .ok (.getfield 12, 3) := by decide +kernel
theorem dX6_reason_17 : decode cX6_reason 17 = .ok (.iload_n 2, 1) := by decide +kernel
theorem dX6_reason_18 : decode cX6_reason 18 = .ok (.bipush 8, 2) := by decide +kernel
theorem dX6_reason_20 : decode cX6_reason 20 = .ok (.idiv, 1) := by decide +kernel
theorem dX6_reason_21 : decode cX6_reason 21 = .ok (.invokevirtual 84, 3) := by decide +kernel
theorem dX6_reason_24 : decode cX6_reason 24 = .ok (.ifCond .eq 5, 3) := by decide +kernel
theorem dX6_reason_27 : decode cX6_reason 27 = .ok (.iconst 2, 1) := by decide +kernel
theorem dX6_reason_28 : decode cX6_reason 28 = .ok (.ireturn, 1) := by decide +kernel
theorem dX6_reason_29 : decode cX6_reason 29 = .ok (.aload_n 0, 1) := by decide +kernel
theorem dX6_reason_30 : decode cX6_reason 30 = .ok (.getfield 33, 3) := by decide +kernel
theorem dX6_reason_33 : decode cX6_reason 33 = .ok (.aload_n 0, 1) := by decide +kernel
theorem dX6_reason_34 : decode cX6_reason 34 = .ok (.getfield 12, 3) := by decide +kernel
theorem dX6_reason_37 : decode cX6_reason 37 = .ok (.iload_n 1, 1) := by decide +kernel
theorem dX6_reason_38 : decode cX6_reason 38 = .ok (.invokevirtual 275, 3) := by decide +kernel
theorem dX6_reason_41 : decode cX6_reason 41 = .ok (.aload_n 0, 1) := by decide +kernel
theorem dX6_reason_42 : decode cX6_reason 42 = .ok (.getfield 33, 3) := by decide +kernel
theorem dX6_reason_45 : decode cX6_reason 45 = .ok (.aload_n 0, 1) := by decide +kernel
theorem dX6_reason_46 : decode cX6_reason 46 = .ok (.getfield 12, 3) := by decide +kernel
theorem dX6_reason_49 : decode cX6_reason 49 = .ok (.getfield 278, 3) := by decide +kernel
theorem dX6_reason_52 : decode cX6_reason 52 = .ok (.iload_n 2, 1) := by decide +kernel
theorem dX6_reason_53 : decode cX6_reason 53 = .ok (.iaload, 1) := by decide +kernel
theorem dX6_reason_54 : decode cX6_reason 54 = .ok (.invokevirtual 281, 3) := by decide +kernel
theorem dX6_reason_57 : decode cX6_reason 57 = .ok (.ireturn, 1) := by decide +kernel
set_option maxRecDepth 20000 in
theorem ggX6_cellProperty_X0_isFixed : GoodIn wsX6_cellProperty wsX0_isFixed := goodIn_r _ [7, 8, 86, 87, 88, 89, 90, 91, 92, 93] (by decide +kernel) (by decide +kernel)
set_option maxRecDepth 20000 in
theorem gX6_cellProperty_X0_isFixed : GoodIn wsX6_cellProperty (wsV RX6 133 RX0 yX0_isFixed wsX0_isFixed) := goodIn_app (goodIn_of _ (by decide +kernel)) ggX6_cellProperty_X0_isFixed
set_option maxRecDepth 20000 in
theorem ggX6_cellProperty_X6_possibleCount : GoodIn wsX6_cellProperty wsX6_possibleCount := goodIn_r _ [13, 1, 14, 15, 16, 17, 18, 6, 19, 20, 21, 22, 23, 24, 25, 26, 27, 28, 29, 30, 31, 32, 33, 34, 35, 36, 37, 38, 39, 40, 41, 42, 43, 44, 45, 46, 47, 48, 49, 50, 51, 12, 52, 53, 54, 55, 56, 57, 58, 59, 60, 61, 62, 63, 64, 65, 66, 67, 68, 69, 70, 71, 72, 73, 74, 75, 80, 81, 82, 83, 84, 85, 86, 87, 88, 89, 90, 91, 92, 93, 94, 95, 96, 97] (by decide +kernel) (by decide +kernel)
set_option maxRecDepth 20000 in
theorem gX6_cellProperty_X6_possibleCount : GoodIn wsX6_cellProperty (wsV RX6 284 RX6 yX6_possibleCount wsX6_possibleCount) := goodIn_app (goodIn_of _ (by decide +kernel)) ggX6_cellProperty_X6_possibleCount
set_option maxRecDepth 20000 in
theorem ggX6_cellProperty_X6_firstPossible : GoodIn wsX6_cellProperty wsX6_firstPossible := goodIn_r _ [79, 1, 14, 15, 16, 17, 18, 6, 19, 20, 21, 22, 23, 24, 25, 26, 27, 28, 29, 30, 31, 32, 33, 34, 35, 36, 37, 38, 39, 40, 41, 42, 43, 44, 45, 46, 47, 48, 49, 50, 51, 12, 52, 53, 54, 55, 56, 57, 58, 59, 60, 61, 62, 63, 64, 65, 66, 67, 68, 69, 70, 71, 72, 73, 74, 75, 80, 81, 82, 83, 84, 85, 86, 87, 88, 89, 90, 91, 92, 93, 94, 95, 96, 97] (by decide +kernel) (by decide +kernel)
set_option maxRecDepth 20000 in
theorem gX6_cellProperty_X6_firstPossible : GoodIn wsX6_cellProperty (wsV RX6 287 RX6 yX6_firstPossible wsX6_firstPossible) := goodIn_app (goodIn_of _ (by decide +kernel)) ggX6_cellProperty_X6_firstPossible
theorem dX6_cellProperty_0 : decode cX6_cellProperty 0 = .ok (.iload_n 2, 1) := by decide +kernel
theorem dX6_cellProperty_1 : decode cX6_cellProperty 1 = .ok (.tableswitch 60 0 2 #[27, 37, 54], 27) := by decide +kernel
theorem dX6_cellProperty_28 : decode cX6_cellProperty 28 = .ok (.aload_n 0, 1) := by decide +kernel
theorem dX6_cellProperty_29 : decode cX6_cellProperty 29 = .ok (.getfield 12, 3) := by decide +kernel
theorem dX6_cellProperty_32 : decode cX6_cellProperty 32 = .ok (.getfield 138, 3) := by decide +kernel
theorem dX6_cellProperty_35 : decode cX6_cellProperty 35 = .ok (.iload_n 1, 1) := by decide +kernel
theorem dX6_cellProperty_36 : decode cX6_cellProperty 36 = .ok (.iaload, 1) := by decide +kernel
theorem dX6_cellProperty_37 : decode cX6_cellProperty 37 = .ok (.ireturn, 1) := by decide +kernel
theorem dX6_cellProperty_38 : decode cX6_cellProperty 38 = .ok (.aload_n 0, 1) := by decide +kernel
theorem dX6_cellProperty_39 : decode cX6_cellProperty 39 = .ok (.getfield 12, 3) := by decide +kernel
theorem dX6_cellProperty_42 : decode cX6_cellProperty 42 = .ok (.iload_n 1, 1) := by decide +kernel
theorem dX6_cellProperty_43 : decode cX6_cellProperty 43 = .ok (.invokevirtual 133, 3) := by decide +kernel
theorem dX6_cellProperty_46 : decode cX6_cellProperty 46 = .ok (.ifCond .eq 7, 3) := by decide +kernel
theorem dX6_cellProperty_49 : decode cX6_cellProperty 49 = .ok (.iconst 1, 1) := by decide +kernel
theorem dX6_cellProperty_50 : decode cX6_cellProperty 50 = .ok (.goto 4, 3) := by decide +kernel
theorem dX6_cellProperty_53 : decode cX6_cellProperty 53 = .ok (.iconst 0, 1) := by decide +kernel
theorem dX6_cellProperty_54 : decode cX6_cellProperty 54 = .ok (.ireturn, 1) := by decide +kernel
theorem dX6_cellProperty_55 : decode cX6_cellProperty 55 = .ok (.aload_n 0, 1) := by decide +kernel
theorem dX6_cellProperty_56 : decode cX6_cellProperty 56 = .ok (.iload_n 1, 1) := by decide +kernel
theorem dX6_cellProperty_57 : decode cX6_cellProperty 57 = .ok (.invokevirtual 284, 3) := by decide +kernel
theorem dX6_cellProperty_60 : decode cX6_cellProperty 60 = .ok (.ireturn, 1) := by decide +kernel
theorem dX6_cellProperty_61 : decode cX6_cellProperty 61 = .ok (.aload_n 0, 1) := by decide +kernel
theorem dX6_cellProperty_62 : decode cX6_cellProperty 62 = .ok (.iload_n 1, 1) := by decide +kernel
theorem dX6_cellProperty_63 : decode cX6_cellProperty 63 = .ok (.invokevirtual 287, 3) := by decide +kernel
theorem dX6_cellProperty_66 : decode cX6_cellProperty 66 = .ok (.ireturn, 1) := by decide +kernel
set_option maxRecDepth 20000 in
theorem ggX6_possibleCount_X0_isEmpty : GoodIn wsX6_possibleCount wsX0_isEmpty := goodIn_r _ [8, 9, 72, 73, 74, 75, 76, 77, 78, 79] (by decide +kernel) (by decide +kernel)
set_option maxRecDepth 20000 in
theorem gX6_possibleCount_X0_isEmpty : GoodIn wsX6_possibleCount (wsV RX6 130 RX0 yX0_isEmpty wsX0_isEmpty) := goodIn_app (goodIn_of _ (by decide +kernel)) ggX6_possibleCount_X0_isEmpty
set_option maxRecDepth 20000 in
theorem ggX6_possibleCount_X3_read : GoodIn wsX6_possibleCount wsX3_read := goodIn_r _ [14, 15, 16, 17, 18, 19, 20, 21, 13, 22, 23, 24, 25, 26, 7, 27, 28, 29, 30, 31, 32, 33, 34, 5, 6, 8, 9, 35, 36, 37, 38, 39, 40, 41, 42, 43, 44, 45, 46, 47, 48, 49, 50, 80, 81, 82, 83, 72, 73, 74, 75, 76, 77, 78, 79] (by decide +kernel) (by decide +kernel)
set_option maxRecDepth 20000 in
theorem gX6_possibleCount_X3_read : GoodIn wsX6_possibleCount (wsV RX6 275 RX3 yX3_read wsX3_read) := goodIn_app (goodIn_of _ (by decide +kernel)) ggX6_possibleCount_X3_read
set_option maxRecDepth 20000 in
theorem ggX6_possibleCount_X6_meetsNeeds : GoodIn wsX6_possibleCount wsX6_meetsNeeds := goodIn_r _ [54, 1, 2, 55, 56, 57, 58, 7, 59, 60, 61, 62, 63, 13, 64, 15, 17, 16, 65, 18, 66, 67, 68, 69, 70, 71, 72, 73, 74, 75, 76, 77, 78, 79, 80, 81, 82, 83] (by decide +kernel) (by decide +kernel)
set_option maxRecDepth 20000 in
theorem gX6_possibleCount_X6_meetsNeeds : GoodIn wsX6_possibleCount (wsV RX6 290 RX6 yX6_meetsNeeds wsX6_meetsNeeds) := goodIn_app (goodIn_of _ (by decide +kernel)) ggX6_possibleCount_X6_meetsNeeds
theorem dX6_possibleCount_0 : decode cX6_possibleCount 0 = .ok (.aload_n 0, 1) := by decide +kernel
theorem dX6_possibleCount_1 : decode cX6_possibleCount 1 = .ok (.getfield 12, 3) := by decide +kernel
theorem dX6_possibleCount_4 : decode cX6_possibleCount 4 = .ok (.iload_n 1, 1) := by decide +kernel
theorem dX6_possibleCount_5 : decode cX6_possibleCount 5 = .ok (.invokevirtual 130, 3) := by decide +kernel
theorem dX6_possibleCount_8 : decode cX6_possibleCount 8 = .ok (.ifCond .ne 5, 3) := by decide +kernel
theorem dX6_possibleCount_11 : decode cX6_possibleCount 11 = .ok (.iconst 0, 1) := by decide +kernel
theorem dX6_possibleCount_12 : decode cX6_possibleCount 12 = .ok (.ireturn, 1) := by decide +kernel
theorem dX6_possibleCount_13 : decode cX6_possibleCount 13 = .ok (.aload_n 0, 1) := by decide +kernel
theorem dX6_possibleCount_14 : decode cX6_possibleCount 14 = .ok (.getfield 33, 3) := by decide +kernel
theorem dX6_possibleCount_17 : decode cX6_possibleCount 17 = .ok (.aload_n 0, 1) := by decide +kernel
theorem dX6_possibleCount_18 : decode cX6_possibleCount 18 = .ok (.getfield 12, 3) := by decide +kernel
theorem dX6_possibleCount_21 : decode cX6_possibleCount 21 = .ok (.iload_n 1, 1) := by decide +kernel
theorem dX6_possibleCount_22 : decode cX6_possibleCount 22 = .ok (.invokevirtual 275, 3) := by decide +kernel
theorem dX6_possibleCount_25 : decode cX6_possibleCount 25 = .ok (.iconst 0, 1) := by decide +kernel
theorem dX6_possibleCount_26 : decode cX6_possibleCount 26 = .ok (.istore_n 2, 1) := by decide +kernel
theorem dX6_possibleCount_27 : decode cX6_possibleCount 27 = .ok (.iconst 0, 1) := by decide +kernel
theorem dX6_possibleCount_28 : decode cX6_possibleCount 28 = .ok (.istore_n 3, 1) := by decide +kernel
theorem dX6_possibleCount_29 : decode cX6_possibleCount 29 = .ok (.iload_n 3, 1) := by decide +kernel
theorem dX6_possibleCount_30 : decode cX6_possibleCount 30 = .ok (.bipush 8, 2) := by decide +kernel
theorem dX6_possibleCount_32 : decode cX6_possibleCount 32 = .ok (.aload_n 0, 1) := by decide +kernel
theorem dX6_possibleCount_33 : decode cX6_possibleCount 33 = .ok (.getfield 12, 3) := by decide +kernel
theorem dX6_possibleCount_36 : decode cX6_possibleCount 36 = .ok (.getfield 72, 3) := by decide +kernel
theorem dX6_possibleCount_39 : decode cX6_possibleCount 39 = .ok (.imul, 1) := by decide +kernel
theorem dX6_possibleCount_40 : decode cX6_possibleCount 40 = .ok (.if_icmp .ge 20, 3) := by decide +kernel
theorem dX6_possibleCount_43 : decode cX6_possibleCount 43 = .ok (.aload_n 0, 1) := by decide +kernel
theorem dX6_possibleCount_44 : decode cX6_possibleCount 44 = .ok (.iload_n 3, 1) := by decide +kernel
theorem dX6_possibleCount_45 : decode cX6_possibleCount 45 = .ok (.invokevirtual 290, 3) := by decide +kernel
theorem dX6_possibleCount_48 : decode cX6_possibleCount 48 = .ok (.ifCond .eq 6, 3) := by decide +kernel
theorem dX6_possibleCount_51 : decode cX6_possibleCount 51 = .ok (.iinc 2 1, 3) := by decide +kernel
theorem dX6_possibleCount_54 : decode cX6_possibleCount 54 = .ok (.iinc 3 1, 3) := by decide +kernel
theorem dX6_possibleCount_57 : decode cX6_possibleCount 57 = .ok (.goto (-28), 3) := by decide +kernel
theorem dX6_possibleCount_60 : decode cX6_possibleCount 60 = .ok (.iload_n 2, 1) := by decide +kernel
theorem dX6_possibleCount_61 : decode cX6_possibleCount 61 = .ok (.ireturn, 1) := by decide +kernel
set_option maxRecDepth 20000 in
theorem ggX6_firstPossible_X0_isEmpty : GoodIn wsX6_firstPossible wsX0_isEmpty := goodIn_r _ [8, 9, 72, 73, 74, 75, 76, 77, 78, 79] (by decide +kernel) (by decide +kernel)
set_option maxRecDepth 20000 in
theorem gX6_firstPossible_X0_isEmpty : GoodIn wsX6_firstPossible (wsV RX6 130 RX0 yX0_isEmpty wsX0_isEmpty) := goodIn_app (goodIn_of _ (by decide +kernel)) ggX6_firstPossible_X0_isEmpty
set_option maxRecDepth 20000 in
theorem ggX6_firstPossible_X3_read : GoodIn wsX6_firstPossible wsX3_read := goodIn_r _ [14, 15, 16, 17, 18, 19, 20, 21, 13, 22, 23, 24, 25, 26, 7, 27, 28, 29, 30, 31, 32, 33, 34, 5, 6, 8, 9, 35, 36, 37, 38, 39, 40, 41, 42, 43, 44, 45, 46, 47, 48, 49, 50, 80, 81, 82, 83, 72, 73, 74, 75, 76, 77, 78, 79] (by decide +kernel) (by decide +kernel)
set_option maxRecDepth 20000 in
theorem gX6_firstPossible_X3_read : GoodIn wsX6_firstPossible (wsV RX6 275 RX3 yX3_read wsX3_read) := goodIn_app (goodIn_of _ (by decide +kernel)) ggX6_firstPossible_X3_read
set_option maxRecDepth 20000 in
theorem ggX6_firstPossible_X6_meetsNeeds : GoodIn wsX6_firstPossible wsX6_meetsNeeds := goodIn_r _ [54, 1, 2, 55, 56, 57, 58, 7, 59, 60, 61, 62, 63, 13, 64, 15, 17, 16, 65, 18, 66, 67, 68, 69, 70, 71, 72, 73, 74, 75, 76, 77, 78, 79, 80, 81, 82, 83] (by decide +kernel) (by decide +kernel)
set_option maxRecDepth 20000 in
theorem gX6_firstPossible_X6_meetsNeeds : GoodIn wsX6_firstPossible (wsV RX6 290 RX6 yX6_meetsNeeds wsX6_meetsNeeds) := goodIn_app (goodIn_of _ (by decide +kernel)) ggX6_firstPossible_X6_meetsNeeds
theorem dX6_firstPossible_0 : decode cX6_firstPossible 0 = .ok (.aload_n 0, 1) := by decide +kernel
theorem dX6_firstPossible_1 : decode cX6_firstPossible 1 = .ok (.getfield 12, 3) := by decide +kernel
theorem dX6_firstPossible_4 : decode cX6_firstPossible 4 = .ok (.iload_n 1, 1) := by decide +kernel
theorem dX6_firstPossible_5 : decode cX6_firstPossible 5 = .ok (.invokevirtual 130, 3) := by decide +kernel
theorem dX6_firstPossible_8 : decode cX6_firstPossible 8 = .ok (.ifCond .ne 5, 3) := by decide +kernel
theorem dX6_firstPossible_11 : decode cX6_firstPossible 11 = .ok (.iconst (-1), 1) := by decide +kernel
theorem dX6_firstPossible_12 : decode cX6_firstPossible 12 = .ok (.ireturn, 1) := by decide +kernel
theorem dX6_firstPossible_13 : decode cX6_firstPossible 13 = .ok (.aload_n 0, 1) := by decide +kernel
theorem dX6_firstPossible_14 : decode cX6_firstPossible 14 = .ok (.getfield 33, 3) := by decide +kernel
theorem dX6_firstPossible_17 : decode cX6_firstPossible 17 = .ok (.aload_n 0, 1) := by decide +kernel
theorem dX6_firstPossible_18 : decode cX6_firstPossible 18 = .ok (.getfield 12, 3) := by decide +kernel
theorem dX6_firstPossible_21 : decode cX6_firstPossible 21 = .ok (.iload_n 1, 1) := by decide +kernel
theorem dX6_firstPossible_22 : decode cX6_firstPossible 22 = .ok (.invokevirtual 275, 3) := by decide +kernel
theorem dX6_firstPossible_25 : decode cX6_firstPossible 25 = .ok (.iconst 0, 1) := by decide +kernel
theorem dX6_firstPossible_26 : decode cX6_firstPossible 26 = .ok (.istore_n 2, 1) := by decide +kernel
theorem dX6_firstPossible_27 : decode cX6_firstPossible 27 = .ok (.iload_n 2, 1) := by decide +kernel
theorem dX6_firstPossible_28 : decode cX6_firstPossible 28 = .ok (.bipush 8, 2) := by decide +kernel
theorem dX6_firstPossible_30 : decode cX6_firstPossible 30 = .ok (.aload_n 0, 1) := by decide +kernel
theorem dX6_firstPossible_31 : decode cX6_firstPossible 31 = .ok (.getfield 12, 3) := by decide +kernel
theorem dX6_firstPossible_34 : decode cX6_firstPossible 34 = .ok (.getfield 72, 3) := by decide +kernel
theorem dX6_firstPossible_37 : decode cX6_firstPossible 37 = .ok (.imul, 1) := by decide +kernel
theorem dX6_firstPossible_38 : decode cX6_firstPossible 38 = .ok (.if_icmp .ge 19, 3) := by decide +kernel
theorem dX6_firstPossible_41 : decode cX6_firstPossible 41 = .ok (.aload_n 0, 1) := by decide +kernel
theorem dX6_firstPossible_42 : decode cX6_firstPossible 42 = .ok (.iload_n 2, 1) := by decide +kernel
theorem dX6_firstPossible_43 : decode cX6_firstPossible 43 = .ok (.invokevirtual 290, 3) := by decide +kernel
theorem dX6_firstPossible_46 : decode cX6_firstPossible 46 = .ok (.ifCond .eq 5, 3) := by decide +kernel
theorem dX6_firstPossible_49 : decode cX6_firstPossible 49 = .ok (.iload_n 2, 1) := by decide +kernel
theorem dX6_firstPossible_50 : decode cX6_firstPossible 50 = .ok (.ireturn, 1) := by decide +kernel
theorem dX6_firstPossible_51 : decode cX6_firstPossible 51 = .ok (.iinc 2 1, 3) := by decide +kernel
theorem dX6_firstPossible_54 : decode cX6_firstPossible 54 = .ok (.goto (-27), 3) := by decide +kernel
theorem dX6_firstPossible_57 : decode cX6_firstPossible 57 = .ok (.iconst (-1), 1) := by decide +kernel
theorem dX6_firstPossible_58 : decode cX6_firstPossible 58 = .ok (.ireturn, 1) := by decide +kernel
set_option maxRecDepth 20000 in
theorem ggX6_meetsNeeds_X0_isLaid : GoodIn wsX6_meetsNeeds wsX0_isLaid := goodIn_r _ [8, 9, 26, 27, 28, 29, 30, 31, 32, 33] (by decide +kernel) (by decide +kernel)
set_option maxRecDepth 20000 in
theorem gX6_meetsNeeds_X0_isLaid : GoodIn wsX6_meetsNeeds (wsV RX6 84 RX0 yX0_isLaid wsX0_isLaid) := goodIn_app (goodIn_of _ (by decide +kernel)) ggX6_meetsNeeds_X0_isLaid
set_option maxRecDepth 20000 in
theorem ggX6_meetsNeeds_X3_reasonAgainst : GoodIn wsX6_meetsNeeds wsX3_reasonAgainst := goodIn_r _ [14, 15, 16, 17, 18, 19, 34, 35, 36, 37] (by decide +kernel) (by decide +kernel)
set_option maxRecDepth 20000 in
theorem gX6_meetsNeeds_X3_reasonAgainst : GoodIn wsX6_meetsNeeds (wsV RX6 281 RX3 yX3_reasonAgainst wsX3_reasonAgainst) := goodIn_app (goodIn_of _ (by decide +kernel)) ggX6_meetsNeeds_X3_reasonAgainst
theorem dX6_meetsNeeds_0 : decode cX6_meetsNeeds 0 = .ok (.aload_n 0, 1) := by decide +kernel
theorem dX6_meetsNeeds_1 : decode cX6_meetsNeeds 1 = .ok (.getfield 12, 3) := by decide +kernel
theorem dX6_meetsNeeds_4 : decode cX6_meetsNeeds 4 = .ok (.iload_n 1, 1) := by decide +kernel
theorem dX6_meetsNeeds_5 : decode cX6_meetsNeeds 5 = .ok (.bipush 8, 2) := by decide +kernel
theorem dX6_meetsNeeds_7 : decode cX6_meetsNeeds 7 = .ok (.idiv, 1) := by decide +kernel
theorem dX6_meetsNeeds_8 : decode cX6_meetsNeeds 8 = .ok (.invokevirtual 84, 3) := by decide +kernel
theorem dX6_meetsNeeds_11 : decode cX6_meetsNeeds 11 = .ok (.ifCond .ne 26, 3) := by decide +kernel
theorem dX6_meetsNeeds_14 : decode cX6_meetsNeeds 14 = .ok (.aload_n 0, 1) := by decide +kernel
theorem dX6_meetsNeeds_15 : decode cX6_meetsNeeds 15 = .ok (.getfield 33, 3) := by decide +kernel
theorem dX6_meetsNeeds_18 : decode cX6_meetsNeeds 18 = .ok (.aload_n 0, 1) := by decide +kernel
theorem dX6_meetsNeeds_19 : decode cX6_meetsNeeds 19 = .ok (.getfield 12, 3) := by decide +kernel
theorem dX6_meetsNeeds_22 : decode cX6_meetsNeeds 22 = .ok (.getfield 278, 3) := by decide +kernel
theorem dX6_meetsNeeds_25 : decode cX6_meetsNeeds 25 = .ok (.iload_n 1, 1) := by decide +kernel
theorem dX6_meetsNeeds_26 : decode cX6_meetsNeeds 26 = .ok (.iaload, 1) := by decide +kernel
theorem dX6_meetsNeeds_27 : decode cX6_meetsNeeds 27 = .ok (.invokevirtual 281, 3) := by decide +kernel
theorem dX6_meetsNeeds_30 : decode cX6_meetsNeeds 30 = .ok (.ifCond .ne 7, 3) := by decide +kernel
theorem dX6_meetsNeeds_33 : decode cX6_meetsNeeds 33 = .ok (.iconst 1, 1) := by decide +kernel
theorem dX6_meetsNeeds_34 : decode cX6_meetsNeeds 34 = .ok (.goto 4, 3) := by decide +kernel
theorem dX6_meetsNeeds_37 : decode cX6_meetsNeeds 37 = .ok (.iconst 0, 1) := by decide +kernel
theorem dX6_meetsNeeds_38 : decode cX6_meetsNeeds 38 = .ok (.ireturn, 1) := by decide +kernel
set_option maxRecDepth 20000 in
theorem ggX6_colorAt_X0_isEmpty : GoodIn wsX6_colorAt wsX0_isEmpty := goodIn_r _ [6, 7, 24, 25, 26, 27, 28, 29, 30, 31] (by decide +kernel) (by decide +kernel)
set_option maxRecDepth 20000 in
theorem gX6_colorAt_X0_isEmpty : GoodIn wsX6_colorAt (wsV RX6 130 RX0 yX0_isEmpty wsX0_isEmpty) := goodIn_app (goodIn_of _ (by decide +kernel)) ggX6_colorAt_X0_isEmpty
set_option maxRecDepth 20000 in
theorem ggX6_colorAt_X0_lookIn : GoodIn wsX6_colorAt wsX0_lookIn := goodIn_r _ [11, 12, 7, 24, 25, 26, 27, 28, 29, 30, 31] (by decide +kernel) (by decide +kernel)
set_option maxRecDepth 20000 in
theorem gX6_colorAt_X0_lookIn : GoodIn wsX6_colorAt (wsV RX6 293 RX0 yX0_lookIn wsX0_lookIn) := goodIn_app (goodIn_of _ (by decide +kernel)) ggX6_colorAt_X0_lookIn
set_option maxRecDepth 20000 in
theorem ggX6_colorAt_X6_colorsAt : GoodIn wsX6_colorAt wsX6_colorsAt := goodIn_r _ [16, 17] (by decide +kernel) (by decide +kernel)
set_option maxRecDepth 20000 in
theorem gX6_colorAt_X6_colorsAt : GoodIn wsX6_colorAt (va_wsS RX6 296 yX6_colorsAt wsX6_colorsAt) := goodIn_app (goodIn_of _ (by decide +kernel)) ggX6_colorAt_X6_colorsAt
theorem dX6_colorAt_0 : decode cX6_colorAt 0 = .ok (.aload_n 0, 1) := by decide +kernel
theorem dX6_colorAt_1 : decode cX6_colorAt 1 = .ok (.getfield 12, 3) := by decide +kernel
theorem dX6_colorAt_4 : decode cX6_colorAt 4 = .ok (.iload_n 1, 1) := by decide +kernel
theorem dX6_colorAt_5 : decode cX6_colorAt 5 = .ok (.invokevirtual 130, 3) := by decide +kernel
theorem dX6_colorAt_8 : decode cX6_colorAt 8 = .ok (.ifCond .eq 5, 3) := by decide +kernel
theorem dX6_colorAt_11 : decode cX6_colorAt 11 = .ok (.iconst (-1), 1) := by decide +kernel
theorem dX6_colorAt_12 : decode cX6_colorAt 12 = .ok (.ireturn, 1) := by decide +kernel
theorem dX6_colorAt_13 : decode cX6_colorAt 13 = .ok (.aload_n 0, 1) := by decide +kernel
theorem dX6_colorAt_14 : decode cX6_colorAt 14 = .ok (.getfield 12, 3) := by decide +kernel
theorem dX6_colorAt_17 : decode cX6_colorAt 17 = .ok (.iload_n 1, 1) := by decide +kernel
theorem dX6_colorAt_18 : decode cX6_colorAt 18 = .ok (.invokevirtual 293, 3) := by decide +kernel
theorem dX6_colorAt_21 : decode cX6_colorAt 21 = .ok (.iload_n 2, 1) := by decide +kernel
theorem dX6_colorAt_22 : decode cX6_colorAt 22 = .ok (.invokestatic 296, 3) := by decide +kernel
theorem dX6_colorAt_25 : decode cX6_colorAt 25 = .ok (.istore 4, 2) := by decide +kernel
theorem dX6_colorAt_27 : decode cX6_colorAt 27 = .ok (.iload_n 3, 1) := by decide +kernel
theorem dX6_colorAt_28 : decode cX6_colorAt 28 = .ok (.ifCond .eq 11, 3) := by decide +kernel
theorem dX6_colorAt_31 : decode cX6_colorAt 31 = .ok (.iload 4, 2) := by decide +kernel
theorem dX6_colorAt_33 : decode cX6_colorAt 33 = .ok (.bipush 16, 2) := by decide +kernel
theorem dX6_colorAt_35 : decode cX6_colorAt 35 = .ok (.iushr, 1) := by decide +kernel
theorem dX6_colorAt_36 : decode cX6_colorAt 36 = .ok (.goto 8, 3) := by decide +kernel
theorem dX6_colorAt_39 : decode cX6_colorAt 39 = .ok (.iload 4, 2) := by decide +kernel
theorem dX6_colorAt_41 : decode cX6_colorAt 41 = .ok (.bipush 15, 2) := by decide +kernel
theorem dX6_colorAt_43 : decode cX6_colorAt 43 = .ok (.iand, 1) := by decide +kernel
theorem dX6_colorAt_44 : decode cX6_colorAt 44 = .ok (.ireturn, 1) := by decide +kernel
set_option maxRecDepth 20000 in
theorem ggX6_tileProperty_X0_faceOf : GoodIn wsX6_tileProperty wsX0_faceOf := goodIn_r _ [7, 8, 9, 10, 11, 12, 23, 24, 25, 26, 27, 28, 29, 30] (by decide +kernel) (by decide +kernel)
set_option maxRecDepth 20000 in
theorem gX6_tileProperty_X0_faceOf : GoodIn wsX6_tileProperty (wsV RX6 299 RX0 yX0_faceOf wsX0_faceOf) := goodIn_app (goodIn_of _ (by decide +kernel)) ggX6_tileProperty_X0_faceOf
set_option maxRecDepth 20000 in
theorem ggX6_tileProperty_X0_lowestLike : GoodIn wsX6_tileProperty wsX0_lowestLike := goodIn_r _ [16, 8, 23, 24, 25, 26, 27, 28, 29, 30] (by decide +kernel) (by decide +kernel)
set_option maxRecDepth 20000 in
theorem gX6_tileProperty_X0_lowestLike : GoodIn wsX6_tileProperty (wsV RX6 305 RX0 yX0_lowestLike wsX0_lowestLike) := goodIn_app (goodIn_of _ (by decide +kernel)) ggX6_tileProperty_X0_lowestLike
theorem dX6_tileProperty_0 : decode cX6_tileProperty 0 = .ok (.iload_n 2, 1) := by decide +kernel
theorem dX6_tileProperty_1 : decode cX6_tileProperty 1 = .ok (.tableswitch 57 0 2 #[27, 37, 47], 27) := by decide +kernel
theorem dX6_tileProperty_28 : decode cX6_tileProperty 28 = .ok (.aload_n 0, 1) := by decide +kernel
theorem dX6_tileProperty_29 : decode cX6_tileProperty 29 = .ok (.getfield 12, 3) := by decide +kernel
theorem dX6_tileProperty_32 : decode cX6_tileProperty 32 = .ok (.iload_n 1, 1) := by decide +kernel
theorem dX6_tileProperty_33 : decode cX6_tileProperty 33 = .ok (.iconst 0, 1) := by decide +kernel
theorem dX6_tileProperty_34 : decode cX6_tileProperty 34 = .ok (.invokevirtual 299, 3) := by decide +kernel
theorem dX6_tileProperty_37 : decode cX6_tileProperty 37 = .ok (.ireturn, 1) := by decide +kernel
theorem dX6_tileProperty_38 : decode cX6_tileProperty 38 = .ok (.aload_n 0, 1) := by decide +kernel
theorem dX6_tileProperty_39 : decode cX6_tileProperty 39 = .ok (.getfield 12, 3) := by decide +kernel
theorem dX6_tileProperty_42 : decode cX6_tileProperty 42 = .ok (.iload_n 1, 1) := by decide +kernel
theorem dX6_tileProperty_43 : decode cX6_tileProperty 43 = .ok (.iconst 1, 1) := by decide +kernel
theorem dX6_tileProperty_44 : decode cX6_tileProperty 44 = .ok (.invokevirtual 299, 3) := by decide +kernel
theorem dX6_tileProperty_47 : decode cX6_tileProperty 47 = .ok (.ireturn, 1) := by decide +kernel
theorem dX6_tileProperty_48 : decode cX6_tileProperty 48 = .ok (.aload_n 0, 1) := by decide +kernel
theorem dX6_tileProperty_49 : decode cX6_tileProperty 49 = .ok (.getfield 12, 3) := by decide +kernel
theorem dX6_tileProperty_52 : decode cX6_tileProperty 52 = .ok (.getfield 302, 3) := by decide +kernel
theorem dX6_tileProperty_55 : decode cX6_tileProperty 55 = .ok (.iload_n 1, 1) := by decide +kernel
theorem dX6_tileProperty_56 : decode cX6_tileProperty 56 = .ok (.iaload, 1) := by decide +kernel
theorem dX6_tileProperty_57 : decode cX6_tileProperty 57 = .ok (.ireturn, 1) := by decide +kernel
theorem dX6_tileProperty_58 : decode cX6_tileProperty 58 = .ok (.aload_n 0, 1) := by decide +kernel
theorem dX6_tileProperty_59 : decode cX6_tileProperty 59 = .ok (.getfield 12, 3) := by decide +kernel
theorem dX6_tileProperty_62 : decode cX6_tileProperty 62 = .ok (.iload_n 1, 1) := by decide +kernel
theorem dX6_tileProperty_63 : decode cX6_tileProperty 63 = .ok (.invokevirtual 305, 3) := by decide +kernel
theorem dX6_tileProperty_66 : decode cX6_tileProperty 66 = .ok (.ireturn, 1) := by decide +kernel
set_option maxRecDepth 20000 in
theorem ggX6_number_X0_emptyCells : GoodIn wsX6_number wsX0_emptyCells := goodIn_r _ [14, 15, 16, 17, 13, 18, 19, 20, 21, 22, 23, 24, 25, 97, 98, 99, 100, 101, 102, 103, 104] (by decide +kernel) (by decide +kernel)
set_option maxRecDepth 20000 in
theorem gX6_number_X0_emptyCells : GoodIn wsX6_number (wsV RX6 123 RX0 yX0_emptyCells wsX0_emptyCells) := goodIn_app (goodIn_of _ (by decide +kernel)) ggX6_number_X0_emptyCells
set_option maxRecDepth 20000 in
theorem ggX6_number_J6_bitCount_0f7a4 : GoodIn wsX6_number wsJ6_bitCount_0f7a4 := goodIn_r _ [29, 30, 31, 32] (by decide +kernel) (by decide +kernel)
set_option maxRecDepth 20000 in
theorem gX6_number_J6_bitCount_0f7a4 : GoodIn wsX6_number (va_wsS RX6 239 yJ6_bitCount_0f7a4 wsJ6_bitCount_0f7a4) := goodIn_app (goodIn_of _ (by decide +kernel)) ggX6_number_J6_bitCount_0f7a4
set_option maxRecDepth 20000 in
theorem ggX6_number_X0_pairsAlike : GoodIn wsX6_number wsX0_pairsAlike := goodIn_r _ [36, 15, 16, 17, 13, 18, 19, 20, 37, 38, 39, 40, 41, 42, 43, 44, 21, 22, 23, 24, 25, 45, 46, 47, 48, 49, 50, 51, 52, 53, 54, 55, 97, 98, 99, 100, 101, 102, 103, 104] (by decide +kernel) (by decide +kernel)
set_option maxRecDepth 20000 in
theorem gX6_number_X0_pairsAlike : GoodIn wsX6_number (wsV RX6 308 RX0 yX0_pairsAlike wsX0_pairsAlike) := goodIn_app (goodIn_of _ (by decide +kernel)) ggX6_number_X0_pairsAlike
set_option maxRecDepth 20000 in
theorem ggX6_number_X6_misfits : GoodIn wsX6_number wsX6_misfits := goodIn_r _ [59, 1, 60, 61, 16, 17, 13, 18, 19, 20, 62, 22, 23, 24, 25, 63, 64, 65, 66, 67, 68, 69, 70, 71, 72, 73, 74, 75, 76, 77, 42, 43, 44, 15, 78, 79, 46, 47, 48, 49, 54, 51, 55, 50, 52, 53, 80, 81, 82, 83, 84, 85, 86, 87, 88, 89, 90, 91, 92, 93, 94, 95, 96, 97, 98, 99, 100, 101, 102, 103, 104, 108, 109, 110, 111] (by decide +kernel) (by decide +kernel)
set_option maxRecDepth 20000 in
theorem gX6_number_X6_misfits : GoodIn wsX6_number (wsV RX6 312 RX6 yX6_misfits wsX6_misfits) := goodIn_app (goodIn_of _ (by decide +kernel)) ggX6_number_X6_misfits
theorem dX6_number_0 : decode cX6_number 0 = .ok (.iload_n 1, 1) := by decide +kernel
theorem dX6_number_1 : decode cX6_number 1 = .ok (.tableswitch 128 0 8 #[51, 59, 67, 75, 83, 94, 102, 112, 123], 51) := by decide +kernel
theorem dX6_number_52 : decode cX6_number 52 = .ok (.aload_n 0, 1) := by decide +kernel
theorem dX6_number_53 : decode cX6_number 53 = .ok (.getfield 12, 3) := by decide +kernel
theorem dX6_number_56 : decode cX6_number 56 = .ok (.getfield 98, 3) := by decide +kernel
theorem dX6_number_59 : decode cX6_number 59 = .ok (.ireturn, 1) := by decide +kernel
theorem dX6_number_60 : decode cX6_number 60 = .ok (.aload_n 0, 1) := by decide +kernel
theorem dX6_number_61 : decode cX6_number 61 = .ok (.getfield 12, 3) := by decide +kernel
theorem dX6_number_64 : decode cX6_number 64 = .ok (.getfield 101, 3) := by decide +kernel
theorem dX6_number_67 : decode cX6_number 67 = .ok (.ireturn, 1) := by decide +kernel
theorem dX6_number_68 : decode cX6_number 68 = .ok (.aload_n 0, 1) := by decide +kernel
theorem dX6_number_69 : decode cX6_number 69 = .ok (.getfield 12, 3) := by decide +kernel
theorem dX6_number_72 : decode cX6_number 72 = .ok (.getfield 72, 3) := by decide +kernel
theorem dX6_number_75 : decode cX6_number 75 = .ok (.ireturn, 1) := by decide +kernel
theorem dX6_number_76 : decode cX6_number 76 = .ok (.aload_n 0, 1) := by decide +kernel
theorem dX6_number_77 : decode cX6_number 77 = .ok (.getfield 12, 3) := by decide +kernel
theorem dX6_number_80 : decode cX6_number 80 = .ok (.invokevirtual 123, 3) := by decide +kernel
theorem dX6_number_83 : decode cX6_number 83 = .ok (.ireturn, 1) := by decide +kernel
theorem dX6_number_84 : decode cX6_number 84 = .ok (.aload_n 0, 1) := by decide +kernel
theorem dX6_number_85 : decode cX6_number 85 = .ok (.getfield 12, 3) := by decide +kernel
theorem dX6_number_88 : decode cX6_number 88 = .ok (.getfield 147, 3) := by decide +kernel
theorem dX6_number_91 : decode cX6_number 91 = .ok (.invokestatic 239, 3) := by decide +kernel
theorem dX6_number_94 : decode cX6_number 94 = .ok (.ireturn, 1) := by decide +kernel
theorem dX6_number_95 : decode cX6_number 95 = .ok (.aload_n 0, 1) := by decide +kernel
theorem dX6_number_96 : decode cX6_number 96 = .ok (.getfield 12, 3) := by decide +kernel
theorem dX6_number_99 : decode cX6_number 99 = .ok (.getfield 92, 3) := by decide +kernel
theorem dX6_number_102 : decode cX6_number 102 = .ok (.ireturn, 1) := by decide +kernel
theorem dX6_number_103 : decode cX6_number 103 = .ok (.aload_n 0, 1) := by decide +kernel
theorem dX6_number_104 : decode cX6_number 104 = .ok (.getfield 12, 3) := by decide +kernel
theorem dX6_number_107 : decode cX6_number 107 = .ok (.bipush 15, 2) := by decide +kernel
theorem dX6_number_109 : decode cX6_number 109 = .ok (.invokevirtual 308, 3) := by decide +kernel
theorem dX6_number_112 : decode cX6_number 112 = .ok (.ireturn, 1) := by decide +kernel
theorem dX6_number_113 : decode cX6_number 113 = .ok (.aload_n 0, 1) := by decide +kernel
theorem dX6_number_114 : decode cX6_number 114 = .ok (.getfield 12, 3) := by decide +kernel
theorem dX6_number_117 : decode cX6_number 117 = .ok (.ldc_w 311, 3) := by decide +kernel
theorem dX6_number_120 : decode cX6_number 120 = .ok (.invokevirtual 308, 3) := by decide +kernel
theorem dX6_number_123 : decode cX6_number 123 = .ok (.ireturn, 1) := by decide +kernel
theorem dX6_number_124 : decode cX6_number 124 = .ok (.aload_n 0, 1) := by decide +kernel
theorem dX6_number_125 : decode cX6_number 125 = .ok (.invokevirtual 312, 3) := by decide +kernel
theorem dX6_number_128 : decode cX6_number 128 = .ok (.ireturn, 1) := by decide +kernel
theorem dX6_number_129 : decode cX6_number 129 = .ok (.aload_n 0, 1) := by decide +kernel
theorem dX6_number_130 : decode cX6_number 130 = .ok (.getfield 19, 3) := by decide +kernel
theorem dX6_number_133 : decode cX6_number 133 = .ok (.getfield 199, 3) := by decide +kernel
theorem dX6_number_136 : decode cX6_number 136 = .ok (.ireturn, 1) := by decide +kernel
set_option maxRecDepth 20000 in
theorem ggX6_misfits_X0_cells : GoodIn wsX6_misfits wsX0_cells := goodIn_r _ [7, 8, 9, 63, 64, 65, 66, 67, 68, 69, 70] (by decide +kernel) (by decide +kernel)
set_option maxRecDepth 20000 in
theorem gX6_misfits_X0_cells : GoodIn wsX6_misfits (wsV RX6 66 RX0 yX0_cells wsX0_cells) := goodIn_app (goodIn_of _ (by decide +kernel)) ggX6_misfits_X0_cells
set_option maxRecDepth 20000 in
theorem ggX6_misfits_X0_isEmpty : GoodIn wsX6_misfits wsX0_isEmpty := goodIn_r _ [13, 14, 63, 64, 65, 66, 67, 68, 69, 70] (by decide +kernel) (by decide +kernel)
set_option maxRecDepth 20000 in
theorem gX6_misfits_X0_isEmpty : GoodIn wsX6_misfits (wsV RX6 130 RX0 yX0_isEmpty wsX0_isEmpty) := goodIn_app (goodIn_of _ (by decide +kernel)) ggX6_misfits_X0_isEmpty
set_option maxRecDepth 20000 in
theorem ggX6_misfits_X3_read : GoodIn wsX6_misfits wsX3_read := goodIn_r _ [19, 20, 21, 22, 23, 24, 25, 26, 18, 27, 28, 29, 30, 31, 6, 32, 9, 33, 4, 5, 7, 8, 34, 11, 12, 13, 14, 35, 36, 37, 38, 39, 40, 41, 42, 43, 44, 45, 46, 47, 48, 49, 50, 71, 72, 73, 74, 63, 64, 65, 66, 67, 68, 69, 70] (by decide +kernel) (by decide +kernel)
set_option maxRecDepth 20000 in
theorem gX6_misfits_X3_read : GoodIn wsX6_misfits (wsV RX6 275 RX3 yX3_read wsX3_read) := goodIn_app (goodIn_of _ (by decide +kernel)) ggX6_misfits_X3_read
set_option maxRecDepth 20000 in
theorem ggX6_misfits_X0_lookIn : GoodIn wsX6_misfits wsX0_lookIn := goodIn_r _ [38, 39, 14, 63, 64, 65, 66, 67, 68, 69, 70] (by decide +kernel) (by decide +kernel)
set_option maxRecDepth 20000 in
theorem gX6_misfits_X0_lookIn : GoodIn wsX6_misfits (wsV RX6 293 RX0 yX0_lookIn wsX0_lookIn) := goodIn_app (goodIn_of _ (by decide +kernel)) ggX6_misfits_X0_lookIn
set_option maxRecDepth 20000 in
theorem ggX6_misfits_X3_reasonAgainst : GoodIn wsX6_misfits wsX3_reasonAgainst := goodIn_r _ [55, 20, 22, 21, 56, 23, 71, 72, 73, 74] (by decide +kernel) (by decide +kernel)
set_option maxRecDepth 20000 in
theorem gX6_misfits_X3_reasonAgainst : GoodIn wsX6_misfits (wsV RX6 281 RX3 yX3_reasonAgainst wsX3_reasonAgainst) := goodIn_app (goodIn_of _ (by decide +kernel)) ggX6_misfits_X3_reasonAgainst
theorem dX6_misfits_0 : decode cX6_misfits 0 = .ok (.iconst 0, 1) := by decide +kernel
theorem dX6_misfits_1 : decode cX6_misfits 1 = .ok (.istore_n 1, 1) := by decide +kernel
theorem dX6_misfits_2 : decode cX6_misfits 2 = .ok (.iconst 0, 1) := by decide +kernel
theorem dX6_misfits_3 : decode cX6_misfits 3 = .ok (.istore_n 2, 1) := by decide +kernel
theorem dX6_misfits_4 : decode cX6_misfits 4 = .ok (.iload_n 2, 1) := by decide +kernel
theorem dX6_misfits_5 : decode cX6_misfits 5 = .ok (.aload_n 0, 1) := by decide +kernel
theorem dX6_misfits_6 : decode cX6_misfits 6 = .ok (.getfield 12, 3) := by decide +kernel
theorem dX6_misfits_9 : decode cX6_misfits 9 = .ok (.invokevirtual 66, 3) := by decide +kernel
theorem dX6_misfits_12 : decode cX6_misfits 12 = .ok (.if_icmp .ge 53, 3) := by decide +kernel
theorem dX6_misfits_15 : decode cX6_misfits 15 = .ok (.aload_n 0, 1) := by decide +kernel
theorem dX6_misfits_16 : decode cX6_misfits 16 = .ok (.getfield 12, 3) := by decide +kernel
theorem dX6_misfits_19 : decode cX6_misfits 19 = .ok (.iload_n 2, 1) := by decide +kernel
theorem dX6_misfits_20 : decode cX6_misfits 20 = .ok (.invokevirtual 130, 3) := by decide +kernel
theorem dX6_misfits_23 : decode cX6_misfits 23 = .ok (.ifCond .ne 36, 3) := by decide +kernel
theorem dX6_misfits_26 : decode cX6_misfits 26 = .ok (.aload_n 0, 1) := by decide +kernel
theorem dX6_misfits_27 : decode cX6_misfits 27 = .ok (.getfield 33, 3) := by decide +kernel
theorem dX6_misfits_30 : decode cX6_misfits 30 = .ok (.aload_n 0, 1) := by decide +kernel
theorem dX6_misfits_31 : decode cX6_misfits 31 = .ok (.getfield 12, 3) := by decide +kernel
theorem dX6_misfits_34 : decode cX6_misfits 34 = .ok (.iload_n 2, 1) := by decide +kernel
theorem dX6_misfits_35 : decode cX6_misfits 35 = .ok (.invokevirtual 275, 3) := by decide +kernel
theorem dX6_misfits_38 : decode cX6_misfits 38 = .ok (.aload_n 0, 1) := by decide +kernel
theorem dX6_misfits_39 : decode cX6_misfits 39 = .ok (.getfield 33, 3) := by decide +kernel
theorem dX6_misfits_42 : decode cX6_misfits 42 = .ok (.aload_n 0, 1) := by decide +kernel
theorem dX6_misfits_43 : decode cX6_misfits 43 = .ok (.getfield 12, 3) := by decide +kernel
theorem dX6_misfits_46 : decode cX6_misfits 46 = .ok (.iload_n 2, 1) := by decide +kernel
theorem dX6_misfits_47 : decode cX6_misfits 47 = .ok (.invokevirtual 293, 3) := by decide +kernel
theorem dX6_misfits_50 : decode cX6_misfits 50 = .ok (.invokevirtual 281, 3) := by decide +kernel
theorem dX6_misfits_53 : decode cX6_misfits 53 = .ok (.ifCond .eq 6, 3) := by decide +kernel
theorem dX6_misfits_56 : decode cX6_misfits 56 = .ok (.iinc 1 1, 3) := by decide +kernel
theorem dX6_misfits_59 : decode cX6_misfits 59 = .ok (.iinc 2 1, 3) := by decide +kernel
theorem dX6_misfits_62 : decode cX6_misfits 62 = .ok (.goto (-58), 3) := by decide +kernel
theorem dX6_misfits_65 : decode cX6_misfits 65 = .ok (.iload_n 1, 1) := by decide +kernel
theorem dX6_misfits_66 : decode cX6_misfits 66 = .ok (.ireturn, 1) := by decide +kernel
set_option maxRecDepth 20000 in
theorem ggX6_bestStep_X0_cells : GoodIn wsX6_bestStep wsX0_cells := goodIn_r _ [6, 7, 8, 81, 82, 83, 84, 85, 86, 87, 88] (by decide +kernel) (by decide +kernel)
set_option maxRecDepth 20000 in
theorem gX6_bestStep_X0_cells : GoodIn wsX6_bestStep (wsV RX6 66 RX0 yX0_cells wsX0_cells) := goodIn_app (goodIn_of _ (by decide +kernel)) ggX6_bestStep_X0_cells
set_option maxRecDepth 20000 in
theorem ggX6_bestStep_X6_possibleCount : GoodIn wsX6_bestStep wsX6_possibleCount := goodIn_r _ [13, 1, 14, 15, 16, 17, 18, 5, 19, 20, 21, 22, 23, 24, 25, 26, 27, 28, 29, 30, 31, 32, 33, 34, 35, 36, 37, 38, 8, 39, 3, 4, 6, 7, 40, 41, 42, 43, 44, 45, 46, 12, 47, 48, 49, 50, 51, 52, 53, 54, 55, 56, 57, 58, 59, 60, 61, 62, 63, 64, 65, 66, 67, 68, 69, 70, 75, 76, 77, 78, 79, 80, 81, 82, 83, 84, 85, 86, 87, 88, 89, 90, 91, 92] (by decide +kernel) (by decide +kernel)
set_option maxRecDepth 20000 in
theorem gX6_bestStep_X6_possibleCount : GoodIn wsX6_bestStep (wsV RX6 284 RX6 yX6_possibleCount wsX6_possibleCount) := goodIn_app (goodIn_of _ (by decide +kernel)) ggX6_bestStep_X6_possibleCount
set_option maxRecDepth 20000 in
theorem ggX6_bestStep_X6_firstPossible : GoodIn wsX6_bestStep wsX6_firstPossible := goodIn_r _ [74, 1, 14, 15, 16, 17, 18, 5, 19, 20, 21, 22, 23, 24, 25, 26, 27, 28, 29, 30, 31, 32, 33, 34, 35, 36, 37, 38, 8, 39, 3, 4, 6, 7, 40, 41, 42, 43, 44, 45, 46, 12, 47, 48, 49, 50, 51, 52, 53, 54, 55, 56, 57, 58, 59, 60, 61, 62, 63, 64, 65, 66, 67, 68, 69, 70, 75, 76, 77, 78, 79, 80, 81, 82, 83, 84, 85, 86, 87, 88, 89, 90, 91, 92] (by decide +kernel) (by decide +kernel)
set_option maxRecDepth 20000 in
theorem gX6_bestStep_X6_firstPossible : GoodIn wsX6_bestStep (wsV RX6 287 RX6 yX6_firstPossible wsX6_firstPossible) := goodIn_app (goodIn_of _ (by decide +kernel)) ggX6_bestStep_X6_firstPossible
theorem dX6_bestStep_0 : decode cX6_bestStep 0 = .ok (.iconst (-1), 1) := by decide +kernel
theorem dX6_bestStep_1 : decode cX6_bestStep 1 = .ok (.istore_n 1, 1) := by decide +kernel
theorem dX6_bestStep_2 : decode cX6_bestStep 2 = .ok (.iconst 0, 1) := by decide +kernel
theorem dX6_bestStep_3 : decode cX6_bestStep 3 = .ok (.istore_n 2, 1) := by decide +kernel
theorem dX6_bestStep_4 : decode cX6_bestStep 4 = .ok (.iconst 0, 1) := by decide +kernel
theorem dX6_bestStep_5 : decode cX6_bestStep 5 = .ok (.istore_n 3, 1) := by decide +kernel
theorem dX6_bestStep_6 : decode cX6_bestStep 6 = .ok (.iload_n 3, 1) := by decide +kernel
theorem dX6_bestStep_7 : decode cX6_bestStep 7 = .ok (.aload_n 0, 1) := by decide +kernel
theorem dX6_bestStep_8 : decode cX6_bestStep 8 = .ok (.getfield 12, 3) := by decide +kernel
theorem dX6_bestStep_11 : decode cX6_bestStep 11 = .ok (.invokevirtual 66, 3) := by decide +kernel
theorem dX6_bestStep_14 : decode cX6_bestStep 14 = .ok (.if_icmp .ge 37, 3) := by decide +kernel
theorem dX6_bestStep_17 : decode cX6_bestStep 17 = .ok (.aload_n 0, 1) := by decide +kernel
theorem dX6_bestStep_18 : decode cX6_bestStep 18 = .ok (.iload_n 3, 1) := by decide +kernel
theorem dX6_bestStep_19 : decode cX6_bestStep 19 = .ok (.invokevirtual 284, 3) := by decide +kernel
theorem dX6_bestStep_22 : decode cX6_bestStep 22 = .ok (.istore 4, 2) := by decide +kernel
theorem dX6_bestStep_24 : decode cX6_bestStep 24 = .ok (.iload 4, 2) := by decide +kernel
theorem dX6_bestStep_26 : decode cX6_bestStep 26 = .ok (.ifCond .le 19, 3) := by decide +kernel
theorem dX6_bestStep_29 : decode cX6_bestStep 29 = .ok (.iload_n 1, 1) := by decide +kernel
theorem dX6_bestStep_30 : decode cX6_bestStep 30 = .ok (.iconst (-1), 1) := by decide +kernel
theorem dX6_bestStep_31 : decode cX6_bestStep 31 = .ok (.if_icmp .eq 9, 3) := by decide +kernel
theorem dX6_bestStep_34 : decode cX6_bestStep 34 = .ok (.iload 4, 2) := by decide +kernel
theorem dX6_bestStep_36 : decode cX6_bestStep 36 = .ok (.iload_n 2, 1) := by decide +kernel
theorem dX6_bestStep_37 : decode cX6_bestStep 37 = .ok (.if_icmp .ge 8, 3) := by decide +kernel
theorem dX6_bestStep_40 : decode cX6_bestStep 40 = .ok (.iload_n 3, 1) := by decide +kernel
theorem dX6_bestStep_41 : decode cX6_bestStep 41 = .ok (.istore_n 1, 1) := by decide +kernel
theorem dX6_bestStep_42 : decode cX6_bestStep 42 = .ok (.iload 4, 2) := by decide +kernel
theorem dX6_bestStep_44 : decode cX6_bestStep 44 = .ok (.istore_n 2, 1) := by decide +kernel
theorem dX6_bestStep_45 : decode cX6_bestStep 45 = .ok (.iinc 3 1, 3) := by decide +kernel
theorem dX6_bestStep_48 : decode cX6_bestStep 48 = .ok (.goto (-42), 3) := by decide +kernel
theorem dX6_bestStep_51 : decode cX6_bestStep 51 = .ok (.iload_n 1, 1) := by decide +kernel
theorem dX6_bestStep_52 : decode cX6_bestStep 52 = .ok (.iconst (-1), 1) := by decide +kernel
theorem dX6_bestStep_53 : decode cX6_bestStep 53 = .ok (.if_icmp .ne 7, 3) := by decide +kernel
theorem dX6_bestStep_56 : decode cX6_bestStep 56 = .ok (.iconst (-1), 1) := by decide +kernel
theorem dX6_bestStep_57 : decode cX6_bestStep 57 = .ok (.goto 13, 3) := by decide +kernel
theorem dX6_bestStep_60 : decode cX6_bestStep 60 = .ok (.bipush 100, 2) := by decide +kernel
theorem dX6_bestStep_62 : decode cX6_bestStep 62 = .ok (.iload_n 1, 1) := by decide +kernel
theorem dX6_bestStep_63 : decode cX6_bestStep 63 = .ok (.imul, 1) := by decide +kernel
theorem dX6_bestStep_64 : decode cX6_bestStep 64 = .ok (.aload_n 0, 1) := by decide +kernel
theorem dX6_bestStep_65 : decode cX6_bestStep 65 = .ok (.iload_n 1, 1) := by decide +kernel
theorem dX6_bestStep_66 : decode cX6_bestStep 66 = .ok (.invokevirtual 287, 3) := by decide +kernel
theorem dX6_bestStep_69 : decode cX6_bestStep 69 = .ok (.iadd, 1) := by decide +kernel
theorem dX6_bestStep_70 : decode cX6_bestStep 70 = .ok (.ireturn, 1) := by decide +kernel
set_option maxRecDepth 20000 in
theorem ggX6_fittingPart_X0_pairsAlike : GoodIn wsX6_fittingPart wsX0_pairsAlike := goodIn_r _ [7, 8, 9, 10, 6, 11, 12, 13, 14, 15, 16, 17, 18, 19, 20, 21, 22, 23, 24, 25, 26, 27, 28, 29, 30, 31, 32, 33, 34, 35, 36, 37, 44, 45, 46, 47, 48, 49, 50, 51] (by decide +kernel) (by decide +kernel)
set_option maxRecDepth 20000 in
theorem gX6_fittingPart_X0_pairsAlike : GoodIn wsX6_fittingPart (wsV RX6 308 RX0 yX0_pairsAlike wsX0_pairsAlike) := goodIn_app (goodIn_of _ (by decide +kernel)) ggX6_fittingPart_X0_pairsAlike
theorem dX6_fittingPart_0 : decode cX6_fittingPart 0 = .ok (.aload_n 0, 1) := by decide +kernel
theorem dX6_fittingPart_1 : decode cX6_fittingPart 1 = .ok (.getfield 12, 3) := by decide +kernel
theorem dX6_fittingPart_4 : decode cX6_fittingPart 4 = .ok (.iconst 0, 1) := by decide +kernel
theorem dX6_fittingPart_5 : decode cX6_fittingPart 5 = .ok (.invokevirtual 308, 3) := by decide +kernel
theorem dX6_fittingPart_8 : decode cX6_fittingPart 8 = .ok (.istore_n 1, 1) := by decide +kernel
theorem dX6_fittingPart_9 : decode cX6_fittingPart 9 = .ok (.iload_n 1, 1) := by decide +kernel
theorem dX6_fittingPart_10 : decode cX6_fittingPart 10 = .ok (.iconst 1, 1) := by decide +kernel
theorem dX6_fittingPart_11 : decode cX6_fittingPart 11 = .ok (.if_icmp .ge 5, 3) := by decide +kernel
theorem dX6_fittingPart_14 : decode cX6_fittingPart 14 = .ok (.dconst 1, 1) := by decide +kernel
theorem dX6_fittingPart_15 : decode cX6_fittingPart 15 = .ok (.dreturn, 1) := by decide +kernel
theorem dX6_fittingPart_16 : decode cX6_fittingPart 16 = .ok (.aload_n 0, 1) := by decide +kernel
theorem dX6_fittingPart_17 : decode cX6_fittingPart 17 = .ok (.getfield 12, 3) := by decide +kernel
theorem dX6_fittingPart_20 : decode cX6_fittingPart 20 = .ok (.bipush 15, 2) := by decide +kernel
theorem dX6_fittingPart_22 : decode cX6_fittingPart 22 = .ok (.invokevirtual 308, 3) := by decide +kernel
theorem dX6_fittingPart_25 : decode cX6_fittingPart 25 = .ok (.aload_n 0, 1) := by decide +kernel
theorem dX6_fittingPart_26 : decode cX6_fittingPart 26 = .ok (.getfield 12, 3) := by decide +kernel
theorem dX6_fittingPart_29 : decode cX6_fittingPart 29 = .ok (.ldc_w 311, 3) := by decide +kernel
theorem dX6_fittingPart_32 : decode cX6_fittingPart 32 = .ok (.invokevirtual 308, 3) := by decide +kernel
theorem dX6_fittingPart_35 : decode cX6_fittingPart 35 = .ok (.iadd, 1) := by decide +kernel
theorem dX6_fittingPart_36 : decode cX6_fittingPart 36 = .ok (.istore_n 2, 1) := by decide +kernel
theorem dX6_fittingPart_37 : decode cX6_fittingPart 37 = .ok (.iload_n 2, 1) := by decide +kernel
theorem dX6_fittingPart_38 : decode cX6_fittingPart 38 = .ok (.i2d, 1) := by decide +kernel
theorem dX6_fittingPart_39 : decode cX6_fittingPart 39 = .ok (.iconst 2, 1) := by decide +kernel
theorem dX6_fittingPart_40 : decode cX6_fittingPart 40 = .ok (.iload_n 1, 1) := by decide +kernel
theorem dX6_fittingPart_41 : decode cX6_fittingPart 41 = .ok (.imul, 1) := by decide +kernel
theorem dX6_fittingPart_42 : decode cX6_fittingPart 42 = .ok (.i2d, 1) := by decide +kernel
theorem dX6_fittingPart_43 : decode cX6_fittingPart 43 = .ok (.ddiv, 1) := by decide +kernel
theorem dX6_fittingPart_44 : decode cX6_fittingPart 44 = .ok (.dreturn, 1) := by decide +kernel
set_option maxRecDepth 20000 in
theorem ggX6_hashCells_X0_cells : GoodIn wsX6_hashCells wsX0_cells := goodIn_r _ [7, 8, 9, 98, 99, 100, 101, 102, 103, 104, 105] (by decide +kernel) (by decide +kernel)
set_option maxRecDepth 20000 in
theorem gX6_hashCells_X0_cells : GoodIn wsX6_hashCells (wsV RX6 66 RX0 yX0_cells wsX0_cells) := goodIn_app (goodIn_of _ (by decide +kernel)) ggX6_hashCells_X0_cells
set_option maxRecDepth 20000 in
theorem ggX6_hashCells_X6_cellProperty : GoodIn wsX6_hashCells wsX6_cellProperty := goodIn_r _ [14, 1, 15, 16, 17, 18, 6, 19, 20, 21, 22, 23, 13, 24, 25, 26, 27, 28, 29, 30, 31, 32, 33, 34, 35, 36, 37, 38, 39, 40, 41, 42, 43, 44, 45, 46, 47, 48, 49, 9, 50, 4, 5, 7, 8, 51, 52, 53, 54, 55, 56, 57, 58, 59, 60, 61, 62, 63, 64, 65, 66, 67, 68, 69, 70, 71, 72, 73, 74, 75, 76, 77, 78, 79, 80, 81, 82, 83, 84, 85, 92, 93, 94, 95, 96, 97, 98, 99, 100, 101, 102, 103, 104, 105, 106, 107, 108, 109] (by decide +kernel) (by decide +kernel)
set_option maxRecDepth 20000 in
theorem gX6_hashCells_X6_cellProperty : GoodIn wsX6_hashCells (wsV RX6 209 RX6 yX6_cellProperty wsX6_cellProperty) := goodIn_app (goodIn_of _ (by decide +kernel)) ggX6_hashCells_X6_cellProperty
set_option maxRecDepth 20000 in
theorem ggX6_hashCells_X6_colorAt : GoodIn wsX6_hashCells wsX6_colorAt := goodIn_r _ [89, 1, 27, 28, 29, 6, 30, 31, 90, 53, 54, 55, 56, 91, 59, 13, 60, 61, 92, 93, 94, 95, 96, 97, 98, 99, 100, 101, 102, 103, 104, 105] (by decide +kernel) (by decide +kernel)
set_option maxRecDepth 20000 in
theorem gX6_hashCells_X6_colorAt : GoodIn wsX6_hashCells (wsV RX6 217 RX6 yX6_colorAt wsX6_colorAt) := goodIn_app (goodIn_of _ (by decide +kernel)) ggX6_hashCells_X6_colorAt
theorem dX6_hashCells_0 : decode cX6_hashCells 0 = .ok (.lload_n 1, 1) := by decide +kernel
theorem dX6_hashCells_1 : decode cX6_hashCells 1 = .ok (.lstore_n 3, 1) := by decide +kernel
theorem dX6_hashCells_2 : decode cX6_hashCells 2 = .ok (.iconst 0, 1) := by decide +kernel
theorem dX6_hashCells_3 : decode cX6_hashCells 3 = .ok (.istore 5, 2) := by decide +kernel
theorem dX6_hashCells_5 : decode cX6_hashCells 5 = .ok (.iload 5, 2) := by decide +kernel
theorem dX6_hashCells_7 : decode cX6_hashCells 7 = .ok (.aload_n 0, 1) := by decide +kernel
theorem dX6_hashCells_8 : decode cX6_hashCells 8 = .ok (.getfield 12, 3) := by decide +kernel
theorem dX6_hashCells_11 : decode cX6_hashCells 11 = .ok (.invokevirtual 66, 3) := by decide +kernel
theorem dX6_hashCells_14 : decode cX6_hashCells 14 = .ok (.if_icmp .ge 104, 3) := by decide +kernel
theorem dX6_hashCells_17 : decode cX6_hashCells 17 = .ok (.iconst 0, 1) := by decide +kernel
theorem dX6_hashCells_18 : decode cX6_hashCells 18 = .ok (.istore 6, 2) := by decide +kernel
theorem dX6_hashCells_20 : decode cX6_hashCells 20 = .ok (.iload 6, 2) := by decide +kernel
theorem dX6_hashCells_22 : decode cX6_hashCells 22 = .ok (.iconst 4, 1) := by decide +kernel
theorem dX6_hashCells_23 : decode cX6_hashCells 23 = .ok (.if_icmp .ge 25, 3) := by decide +kernel
theorem dX6_hashCells_26 : decode cX6_hashCells 26 = .ok (.ldc2_w 254, 3) := by decide +kernel
theorem dX6_hashCells_29 : decode cX6_hashCells 29 = .ok (.lload_n 3, 1) := by decide +kernel
theorem dX6_hashCells_30 : decode cX6_hashCells 30 = .ok (.lmul, 1) := by decide +kernel
theorem dX6_hashCells_31 : decode cX6_hashCells 31 = .ok (.aload_n 0, 1) := by decide +kernel
theorem dX6_hashCells_32 : decode cX6_hashCells 32 = .ok (.iload 5, 2) := by decide +kernel
theorem dX6_hashCells_34 : decode cX6_hashCells 34 = .ok (.iload 6, 2) := by decide +kernel
theorem dX6_hashCells_36 : decode cX6_hashCells 36 = .ok (.invokevirtual 209, 3) := by decide +kernel
theorem dX6_hashCells_39 : decode cX6_hashCells 39 = .ok (.i2l, 1) := by decide +kernel
theorem dX6_hashCells_40 : decode cX6_hashCells 40 = .ok (.ladd, 1) := by decide +kernel
theorem dX6_hashCells_41 : decode cX6_hashCells 41 = .ok (.lstore_n 3, 1) := by decide +kernel
theorem dX6_hashCells_42 : decode cX6_hashCells 42 = .ok (.iinc 6 1, 3) := by decide +kernel
theorem dX6_hashCells_45 : decode cX6_hashCells 45 = .ok (.goto (-25), 3) := by decide +kernel
theorem dX6_hashCells_48 : decode cX6_hashCells 48 = .ok (.iconst 0, 1) := by decide +kernel
theorem dX6_hashCells_49 : decode cX6_hashCells 49 = .ok (.istore 6, 2) := by decide +kernel
theorem dX6_hashCells_51 : decode cX6_hashCells 51 = .ok (.iload 6, 2) := by decide +kernel
theorem dX6_hashCells_53 : decode cX6_hashCells 53 = .ok (.iconst 4, 1) := by decide +kernel
theorem dX6_hashCells_54 : decode cX6_hashCells 54 = .ok (.if_icmp .ge 26, 3) := by decide +kernel
theorem dX6_hashCells_57 : decode cX6_hashCells 57 = .ok (.ldc2_w 254, 3) := by decide +kernel
theorem dX6_hashCells_60 : decode cX6_hashCells 60 = .ok (.lload_n 3, 1) := by decide +kernel
theorem dX6_hashCells_61 : decode cX6_hashCells 61 = .ok (.lmul, 1) := by decide +kernel
theorem dX6_hashCells_62 : decode cX6_hashCells 62 = .ok (.aload_n 0, 1) := by decide +kernel
theorem dX6_hashCells_63 : decode cX6_hashCells 63 = .ok (.iload 5, 2) := by decide +kernel
theorem dX6_hashCells_65 : decode cX6_hashCells 65 = .ok (.iload 6, 2) := by decide +kernel
theorem dX6_hashCells_67 : decode cX6_hashCells 67 = .ok (.iconst 0, 1) := by decide +kernel
theorem dX6_hashCells_68 : decode cX6_hashCells 68 = .ok (.invokevirtual 217, 3) := by decide +kernel
theorem dX6_hashCells_71 : decode cX6_hashCells 71 = .ok (.i2l, 1) := by decide +kernel
theorem dX6_hashCells_72 : decode cX6_hashCells 72 = .ok (.ladd, 1) := by decide +kernel
theorem dX6_hashCells_73 : decode cX6_hashCells 73 = .ok (.lstore_n 3, 1) := by decide +kernel
theorem dX6_hashCells_74 : decode cX6_hashCells 74 = .ok (.iinc 6 1, 3) := by decide +kernel
theorem dX6_hashCells_77 : decode cX6_hashCells 77 = .ok (.goto (-26), 3) := by decide +kernel
theorem dX6_hashCells_80 : decode cX6_hashCells 80 = .ok (.iconst 0, 1) := by decide +kernel
theorem dX6_hashCells_81 : decode cX6_hashCells 81 = .ok (.istore 6, 2) := by decide +kernel
theorem dX6_hashCells_83 : decode cX6_hashCells 83 = .ok (.iload 6, 2) := by decide +kernel
theorem dX6_hashCells_85 : decode cX6_hashCells 85 = .ok (.iconst 4, 1) := by decide +kernel
theorem dX6_hashCells_86 : decode cX6_hashCells 86 = .ok (.if_icmp .ge 26, 3) := by decide +kernel
theorem dX6_hashCells_89 : decode cX6_hashCells 89 = .ok (.ldc2_w 254, 3) := by decide +kernel
theorem dX6_hashCells_92 : decode cX6_hashCells 92 = .ok (.lload_n 3, 1) := by decide +kernel
theorem dX6_hashCells_93 : decode cX6_hashCells 93 = .ok (.lmul, 1) := by decide +kernel
theorem dX6_hashCells_94 : decode cX6_hashCells 94 = .ok (.aload_n 0, 1) := by decide +kernel
theorem dX6_hashCells_95 : decode cX6_hashCells 95 = .ok (.iload 5, 2) := by decide +kernel
theorem dX6_hashCells_97 : decode cX6_hashCells 97 = .ok (.iload 6, 2) := by decide +kernel
theorem dX6_hashCells_99 : decode cX6_hashCells 99 = .ok (.iconst 1, 1) := by decide +kernel
theorem dX6_hashCells_100 : decode cX6_hashCells 100 = .ok (.invokevirtual 217, 3) := by decide +kernel
theorem dX6_hashCells_103 : decode cX6_hashCells 103 = .ok (.i2l, 1) := by decide +kernel
theorem dX6_hashCells_104 : decode cX6_hashCells 104 = .ok (.ladd, 1) := by decide +kernel
theorem dX6_hashCells_105 : decode cX6_hashCells 105 = .ok (.lstore_n 3, 1) := by decide +kernel
theorem dX6_hashCells_106 : decode cX6_hashCells 106 = .ok (.iinc 6 1, 3) := by decide +kernel
theorem dX6_hashCells_109 : decode cX6_hashCells 109 = .ok (.goto (-26), 3) := by decide +kernel
theorem dX6_hashCells_112 : decode cX6_hashCells 112 = .ok (.iinc 5 1, 3) := by decide +kernel
theorem dX6_hashCells_115 : decode cX6_hashCells 115 = .ok (.goto (-110), 3) := by decide +kernel
theorem dX6_hashCells_118 : decode cX6_hashCells 118 = .ok (.lload_n 3, 1) := by decide +kernel
theorem dX6_hashCells_119 : decode cX6_hashCells 119 = .ok (.lreturn, 1) := by decide +kernel
set_option maxRecDepth 20000 in
theorem ggX6_hashTiles_X6_tileProperty : GoodIn wsX6_hashTiles wsX6_tileProperty := goodIn_r _ [8, 1, 9, 10, 11, 12, 13, 14, 15, 16, 7, 17, 18, 19, 20, 21, 22, 23, 24, 25, 26, 27, 28, 29, 30, 31, 32, 33, 34, 35, 36] (by decide +kernel) (by decide +kernel)
set_option maxRecDepth 20000 in
theorem gX6_hashTiles_X6_tileProperty : GoodIn wsX6_hashTiles (wsV RX6 223 RX6 yX6_tileProperty wsX6_tileProperty) := goodIn_app (goodIn_of _ (by decide +kernel)) ggX6_hashTiles_X6_tileProperty
theorem dX6_hashTiles_0 : decode cX6_hashTiles 0 = .ok (.lload_n 1, 1) := by decide +kernel
theorem dX6_hashTiles_1 : decode cX6_hashTiles 1 = .ok (.lstore_n 3, 1) := by decide +kernel
theorem dX6_hashTiles_2 : decode cX6_hashTiles 2 = .ok (.iconst 0, 1) := by decide +kernel
theorem dX6_hashTiles_3 : decode cX6_hashTiles 3 = .ok (.istore 5, 2) := by decide +kernel
theorem dX6_hashTiles_5 : decode cX6_hashTiles 5 = .ok (.iload 5, 2) := by decide +kernel
theorem dX6_hashTiles_7 : decode cX6_hashTiles 7 = .ok (.aload_n 0, 1) := by decide +kernel
theorem dX6_hashTiles_8 : decode cX6_hashTiles 8 = .ok (.getfield 12, 3) := by decide +kernel
theorem dX6_hashTiles_11 : decode cX6_hashTiles 11 = .ok (.getfield 72, 3) := by decide +kernel
theorem dX6_hashTiles_14 : decode cX6_hashTiles 14 = .ok (.if_icmp .ge 40, 3) := by decide +kernel
theorem dX6_hashTiles_17 : decode cX6_hashTiles 17 = .ok (.iconst 0, 1) := by decide +kernel
theorem dX6_hashTiles_18 : decode cX6_hashTiles 18 = .ok (.istore 6, 2) := by decide +kernel
theorem dX6_hashTiles_20 : decode cX6_hashTiles 20 = .ok (.iload 6, 2) := by decide +kernel
theorem dX6_hashTiles_22 : decode cX6_hashTiles 22 = .ok (.iconst 4, 1) := by decide +kernel
theorem dX6_hashTiles_23 : decode cX6_hashTiles 23 = .ok (.if_icmp .ge 25, 3) := by decide +kernel
theorem dX6_hashTiles_26 : decode cX6_hashTiles 26 = .ok (.ldc2_w 254, 3) := by decide +kernel
theorem dX6_hashTiles_29 : decode cX6_hashTiles 29 = .ok (.lload_n 3, 1) := by decide +kernel
theorem dX6_hashTiles_30 : decode cX6_hashTiles 30 = .ok (.lmul, 1) := by decide +kernel
theorem dX6_hashTiles_31 : decode cX6_hashTiles 31 = .ok (.aload_n 0, 1) := by decide +kernel
theorem dX6_hashTiles_32 : decode cX6_hashTiles 32 = .ok (.iload 5, 2) := by decide +kernel
theorem dX6_hashTiles_34 : decode cX6_hashTiles 34 = .ok (.iload 6, 2) := by decide +kernel
theorem dX6_hashTiles_36 : decode cX6_hashTiles 36 = .ok (.invokevirtual 223, 3) := by decide +kernel
theorem dX6_hashTiles_39 : decode cX6_hashTiles 39 = .ok (.i2l, 1) := by decide +kernel
theorem dX6_hashTiles_40 : decode cX6_hashTiles 40 = .ok (.ladd, 1) := by decide +kernel
theorem dX6_hashTiles_41 : decode cX6_hashTiles 41 = .ok (.lstore_n 3, 1) := by decide +kernel
theorem dX6_hashTiles_42 : decode cX6_hashTiles 42 = .ok (.iinc 6 1, 3) := by decide +kernel
theorem dX6_hashTiles_45 : decode cX6_hashTiles 45 = .ok (.goto (-25), 3) := by decide +kernel
theorem dX6_hashTiles_48 : decode cX6_hashTiles 48 = .ok (.iinc 5 1, 3) := by decide +kernel
theorem dX6_hashTiles_51 : decode cX6_hashTiles 51 = .ok (.goto (-46), 3) := by decide +kernel
theorem dX6_hashTiles_54 : decode cX6_hashTiles 54 = .ok (.lload_n 3, 1) := by decide +kernel
theorem dX6_hashTiles_55 : decode cX6_hashTiles 55 = .ok (.lreturn, 1) := by decide +kernel
theorem dX6_bitsOf_0 : decode cX6_bitsOf 0 = .ok (.dload_n 0, 1) := by decide +kernel
theorem dX6_bitsOf_1 : decode cX6_bitsOf 1 = .ok (.dconst 0, 1) := by decide +kernel
theorem dX6_bitsOf_2 : decode cX6_bitsOf 2 = .ok (.dcmp .l, 1) := by decide +kernel
theorem dX6_bitsOf_3 : decode cX6_bitsOf 3 = .ok (.ifCond .gt 5, 3) := by decide +kernel
theorem dX6_bitsOf_6 : decode cX6_bitsOf 6 = .ok (.lconst 0, 1) := by decide +kernel
theorem dX6_bitsOf_7 : decode cX6_bitsOf 7 = .ok (.lreturn, 1) := by decide +kernel
theorem dX6_bitsOf_8 : decode cX6_bitsOf 8 = .ok (.dload_n 0, 1) := by decide +kernel
theorem dX6_bitsOf_9 : decode cX6_bitsOf 9 = .ok (.dstore_n 2, 1) := by decide +kernel
theorem dX6_bitsOf_10 : decode cX6_bitsOf 10 = .ok (.ldc2_w 315, 3) := by decide +kernel
theorem dX6_bitsOf_13 : decode cX6_bitsOf 13 = .ok (.lstore 4, 2) := by decide +kernel
theorem dX6_bitsOf_15 : decode cX6_bitsOf 15 = .ok (.dload_n 2, 1) := by decide +kernel
theorem dX6_bitsOf_16 : decode cX6_bitsOf 16 = .ok (.dconst 1, 1) := by decide +kernel
theorem dX6_bitsOf_17 : decode cX6_bitsOf 17 = .ok (.dcmp .g, 1) := by decide +kernel
theorem dX6_bitsOf_18 : decode cX6_bitsOf 18 = .ok (.ifCond .ge 25, 3) := by decide +kernel
theorem dX6_bitsOf_21 : decode cX6_bitsOf 21 = .ok (.lload 4, 2) := by decide +kernel
theorem dX6_bitsOf_23 : decode cX6_bitsOf 23 = .ok (.lconst 1, 1) := by decide +kernel
theorem dX6_bitsOf_24 : decode cX6_bitsOf 24 = .ok (.lcmp, 1) := by decide +kernel
theorem dX6_bitsOf_25 : decode cX6_bitsOf 25 = .ok (.ifCond .le 18, 3) := by decide +kernel
theorem dX6_bitsOf_28 : decode cX6_bitsOf 28 = .ok (.dload_n 2, 1) := by decide +kernel
theorem dX6_bitsOf_29 : decode cX6_bitsOf 29 = .ok (.ldc2_w 317, 3) := by decide +kernel
theorem dX6_bitsOf_32 : decode cX6_bitsOf 32 = .ok (.dmul, 1) := by decide +kernel
theorem dX6_bitsOf_33 : decode cX6_bitsOf 33 = .ok (.dstore_n 2, 1) := by decide +kernel
theorem dX6_bitsOf_34 : decode cX6_bitsOf 34 = .ok (.lload 4, 2) := by decide +kernel
theorem dX6_bitsOf_36 : decode cX6_bitsOf 36 = .ok (.lconst 1, 1) := by decide +kernel
theorem dX6_bitsOf_37 : decode cX6_bitsOf 37 = .ok (.lsub, 1) := by decide +kernel
theorem dX6_bitsOf_38 : decode cX6_bitsOf 38 = .ok (.lstore 4, 2) := by decide +kernel
theorem dX6_bitsOf_40 : decode cX6_bitsOf 40 = .ok (.goto (-25), 3) := by decide +kernel
theorem dX6_bitsOf_43 : decode cX6_bitsOf 43 = .ok (.dload_n 2, 1) := by decide +kernel
theorem dX6_bitsOf_44 : decode cX6_bitsOf 44 = .ok (.dconst 1, 1) := by decide +kernel
theorem dX6_bitsOf_45 : decode cX6_bitsOf 45 = .ok (.dsub, 1) := by decide +kernel
theorem dX6_bitsOf_46 : decode cX6_bitsOf 46 = .ok (.ldc2_w 319, 3) := by decide +kernel
theorem dX6_bitsOf_49 : decode cX6_bitsOf 49 = .ok (.dmul, 1) := by decide +kernel
theorem dX6_bitsOf_50 : decode cX6_bitsOf 50 = .ok (.d2l, 1) := by decide +kernel
theorem dX6_bitsOf_51 : decode cX6_bitsOf 51 = .ok (.lstore 6, 2) := by decide +kernel
theorem dX6_bitsOf_53 : decode cX6_bitsOf 53 = .ok (.lload 4, 2) := by decide +kernel
theorem dX6_bitsOf_55 : decode cX6_bitsOf 55 = .ok (.bipush 52, 2) := by decide +kernel
theorem dX6_bitsOf_57 : decode cX6_bitsOf 57 = .ok (.lshl, 1) := by decide +kernel
theorem dX6_bitsOf_58 : decode cX6_bitsOf 58 = .ok (.lload 6, 2) := by decide +kernel
theorem dX6_bitsOf_60 : decode cX6_bitsOf 60 = .ok (.ladd, 1) := by decide +kernel
theorem dX6_bitsOf_61 : decode cX6_bitsOf 61 = .ok (.lreturn, 1) := by decide +kernel
theorem dX6_colorsAt_0 : decode cX6_colorsAt 0 = .ok (.iload_n 0, 1) := by decide +kernel
theorem dX6_colorsAt_1 : decode cX6_colorsAt 1 = .ok (.iconst 4, 1) := by decide +kernel
theorem dX6_colorsAt_2 : decode cX6_colorsAt 2 = .ok (.iload_n 1, 1) := by decide +kernel
theorem dX6_colorsAt_3 : decode cX6_colorsAt 3 = .ok (.imul, 1) := by decide +kernel
theorem dX6_colorsAt_4 : decode cX6_colorsAt 4 = .ok (.iushr, 1) := by decide +kernel
theorem dX6_colorsAt_5 : decode cX6_colorsAt 5 = .ok (.ldc_w 321, 3) := by decide +kernel
theorem dX6_colorsAt_8 : decode cX6_colorsAt 8 = .ok (.iand, 1) := by decide +kernel
theorem dX6_colorsAt_9 : decode cX6_colorsAt 9 = .ok (.ireturn, 1) := by decide +kernel
theorem dX6_opposite_0 : decode cX6_opposite 0 = .ok (.iload_n 0, 1) := by decide +kernel
theorem dX6_opposite_1 : decode cX6_opposite 1 = .ok (.iconst 2, 1) := by decide +kernel
theorem dX6_opposite_2 : decode cX6_opposite 2 = .ok (.iadd, 1) := by decide +kernel
theorem dX6_opposite_3 : decode cX6_opposite 3 = .ok (.iconst 4, 1) := by decide +kernel
theorem dX6_opposite_4 : decode cX6_opposite 4 = .ok (.irem, 1) := by decide +kernel
theorem dX6_opposite_5 : decode cX6_opposite 5 = .ok (.ireturn, 1) := by decide +kernel
theorem dX6_seenFromBehind_0 : decode cX6_seenFromBehind 0 = .ok (.iconst 4, 1) := by decide +kernel
theorem dX6_seenFromBehind_1 : decode cX6_seenFromBehind 1 = .ok (.iload_n 0, 1) := by decide +kernel
theorem dX6_seenFromBehind_2 : decode cX6_seenFromBehind 2 = .ok (.isub, 1) := by decide +kernel
theorem dX6_seenFromBehind_3 : decode cX6_seenFromBehind 3 = .ok (.iconst 4, 1) := by decide +kernel
theorem dX6_seenFromBehind_4 : decode cX6_seenFromBehind 4 = .ok (.irem, 1) := by decide +kernel
theorem dX6_seenFromBehind_5 : decode cX6_seenFromBehind 5 = .ok (.ireturn, 1) := by decide +kernel
set_option maxRecDepth 20000 in
theorem ggX6_turned_X6_colorsAt : GoodIn wsX6_turned wsX6_colorsAt := goodIn_r _ [4, 5] (by decide +kernel) (by decide +kernel)
set_option maxRecDepth 20000 in
theorem gX6_turned_X6_colorsAt : GoodIn wsX6_turned (va_wsS RX6 296 yX6_colorsAt wsX6_colorsAt) := goodIn_app (goodIn_of _ (by decide +kernel)) ggX6_turned_X6_colorsAt
theorem dX6_turned_0 : decode cX6_turned 0 = .ok (.iconst 0, 1) := by decide +kernel
theorem dX6_turned_1 : decode cX6_turned 1 = .ok (.istore_n 1, 1) := by decide +kernel
theorem dX6_turned_2 : decode cX6_turned 2 = .ok (.iconst 0, 1) := by decide +kernel
theorem dX6_turned_3 : decode cX6_turned 3 = .ok (.istore_n 2, 1) := by decide +kernel
theorem dX6_turned_4 : decode cX6_turned 4 = .ok (.iload_n 2, 1) := by decide +kernel
theorem dX6_turned_5 : decode cX6_turned 5 = .ok (.iconst 4, 1) := by decide +kernel
theorem dX6_turned_6 : decode cX6_turned 6 = .ok (.if_icmp .ge 25, 3) := by decide +kernel
theorem dX6_turned_9 : decode cX6_turned 9 = .ok (.iload_n 1, 1) := by decide +kernel
theorem dX6_turned_10 : decode cX6_turned 10 = .ok (.iload_n 0, 1) := by decide +kernel
theorem dX6_turned_11 : decode cX6_turned 11 = .ok (.iload_n 2, 1) := by decide +kernel
theorem dX6_turned_12 : decode cX6_turned 12 = .ok (.invokestatic 296, 3) := by decide +kernel
theorem dX6_turned_15 : decode cX6_turned 15 = .ok (.iconst 4, 1) := by decide +kernel
theorem dX6_turned_16 : decode cX6_turned 16 = .ok (.iload_n 2, 1) := by decide +kernel
theorem dX6_turned_17 : decode cX6_turned 17 = .ok (.iconst 1, 1) := by decide +kernel
theorem dX6_turned_18 : decode cX6_turned 18 = .ok (.iadd, 1) := by decide +kernel
theorem dX6_turned_19 : decode cX6_turned 19 = .ok (.iconst 4, 1) := by decide +kernel
theorem dX6_turned_20 : decode cX6_turned 20 = .ok (.irem, 1) := by decide +kernel
theorem dX6_turned_21 : decode cX6_turned 21 = .ok (.imul, 1) := by decide +kernel
theorem dX6_turned_22 : decode cX6_turned 22 = .ok (.ishl, 1) := by decide +kernel
theorem dX6_turned_23 : decode cX6_turned 23 = .ok (.ior, 1) := by decide +kernel
theorem dX6_turned_24 : decode cX6_turned 24 = .ok (.istore_n 1, 1) := by decide +kernel
theorem dX6_turned_25 : decode cX6_turned 25 = .ok (.iinc 2 1, 3) := by decide +kernel
theorem dX6_turned_28 : decode cX6_turned 28 = .ok (.goto (-24), 3) := by decide +kernel
theorem dX6_turned_31 : decode cX6_turned 31 = .ok (.iload_n 1, 1) := by decide +kernel
theorem dX6_turned_32 : decode cX6_turned 32 = .ok (.ireturn, 1) := by decide +kernel
set_option maxRecDepth 20000 in
theorem ggX6_turnedOver_X6_colorsAt : GoodIn wsX6_turnedOver wsX6_colorsAt := goodIn_r _ [4, 5] (by decide +kernel) (by decide +kernel)
set_option maxRecDepth 20000 in
theorem gX6_turnedOver_X6_colorsAt : GoodIn wsX6_turnedOver (va_wsS RX6 296 yX6_colorsAt wsX6_colorsAt) := goodIn_app (goodIn_of _ (by decide +kernel)) ggX6_turnedOver_X6_colorsAt
set_option maxRecDepth 20000 in
theorem ggX6_turnedOver_X6_seenFromBehind : GoodIn wsX6_turnedOver wsX6_seenFromBehind := goodIn_r _ [8] (by decide +kernel) (by decide +kernel)
set_option maxRecDepth 20000 in
theorem gX6_turnedOver_X6_seenFromBehind : GoodIn wsX6_turnedOver (va_wsS RX6 322 yX6_seenFromBehind wsX6_seenFromBehind) := goodIn_app (goodIn_of _ (by decide +kernel)) ggX6_turnedOver_X6_seenFromBehind
theorem dX6_turnedOver_0 : decode cX6_turnedOver 0 = .ok (.iconst 0, 1) := by decide +kernel
theorem dX6_turnedOver_1 : decode cX6_turnedOver 1 = .ok (.istore_n 1, 1) := by decide +kernel
theorem dX6_turnedOver_2 : decode cX6_turnedOver 2 = .ok (.iconst 0, 1) := by decide +kernel
theorem dX6_turnedOver_3 : decode cX6_turnedOver 3 = .ok (.istore_n 2, 1) := by decide +kernel
theorem dX6_turnedOver_4 : decode cX6_turnedOver 4 = .ok (.iload_n 2, 1) := by decide +kernel
theorem dX6_turnedOver_5 : decode cX6_turnedOver 5 = .ok (.iconst 4, 1) := by decide +kernel
theorem dX6_turnedOver_6 : decode cX6_turnedOver 6 = .ok (.if_icmp .ge 41, 3) := by decide +kernel
theorem dX6_turnedOver_9 : decode cX6_turnedOver 9 = .ok (.iload_n 0, 1) := by decide +kernel
theorem dX6_turnedOver_10 : decode cX6_turnedOver 10 = .ok (.iload_n 2, 1) := by decide +kernel
theorem dX6_turnedOver_11 : decode cX6_turnedOver 11 = .ok (.invokestatic 296, 3) := by decide +kernel
theorem dX6_turnedOver_14 : decode cX6_turnedOver 14 = .ok (.istore_n 3, 1) := by decide +kernel
theorem dX6_turnedOver_15 : decode cX6_turnedOver 15 = .ok (.iload_n 3, 1) := by decide +kernel
theorem dX6_turnedOver_16 : decode cX6_turnedOver 16 = .ok (.bipush 16, 2) := by decide +kernel
theorem dX6_turnedOver_18 : decode cX6_turnedOver 18 = .ok (.iushr, 1) := by decide +kernel
theorem dX6_turnedOver_19 : decode cX6_turnedOver 19 = .ok (.iload_n 3, 1) := by decide +kernel
theorem dX6_turnedOver_20 : decode cX6_turnedOver 20 = .ok (.bipush 15, 2) := by decide +kernel
theorem dX6_turnedOver_22 : decode cX6_turnedOver 22 = .ok (.iand, 1) := by decide +kernel
theorem dX6_turnedOver_23 : decode cX6_turnedOver 23 = .ok (.bipush 16, 2) := by decide +kernel
theorem dX6_turnedOver_25 : decode cX6_turnedOver 25 = .ok (.ishl, 1) := by decide +kernel
theorem dX6_turnedOver_26 : decode cX6_turnedOver 26 = .ok (.ior, 1) := by decide +kernel
theorem dX6_turnedOver_27 : decode cX6_turnedOver 27 = .ok (.istore 4, 2) := by decide +kernel
theorem dX6_turnedOver_29 : decode cX6_turnedOver 29 = .ok (.iload_n 1, 1) := by decide +kernel
theorem dX6_turnedOver_30 : decode cX6_turnedOver 30 = .ok (.iload 4, 2) := by decide +kernel
theorem dX6_turnedOver_32 : decode cX6_turnedOver 32 = .ok (.iconst 4, 1) := by decide +kernel
theorem dX6_turnedOver_33 : decode cX6_turnedOver 33 = .ok (.iload_n 2, 1) := by decide +kernel
theorem dX6_turnedOver_34 : decode cX6_turnedOver 34 = .ok (.invokestatic 322, 3) := by decide +kernel
theorem dX6_turnedOver_37 : decode cX6_turnedOver 37 = .ok (.imul, 1) := by decide +kernel
theorem dX6_turnedOver_38 : decode cX6_turnedOver 38 = .ok (.ishl, 1) := by decide +kernel
theorem dX6_turnedOver_39 : decode cX6_turnedOver 39 = .ok (.ior, 1) := by decide +kernel
theorem dX6_turnedOver_40 : decode cX6_turnedOver 40 = .ok (.istore_n 1, 1) := by decide +kernel
theorem dX6_turnedOver_41 : decode cX6_turnedOver 41 = .ok (.iinc 2 1, 3) := by decide +kernel
theorem dX6_turnedOver_44 : decode cX6_turnedOver 44 = .ok (.goto (-40), 3) := by decide +kernel
theorem dX6_turnedOver_47 : decode cX6_turnedOver 47 = .ok (.iload_n 1, 1) := by decide +kernel
theorem dX6_turnedOver_48 : decode cX6_turnedOver 48 = .ok (.ireturn, 1) := by decide +kernel
set_option maxRecDepth 20000 in
theorem ggX6_lookOfFaces_X6_digit : GoodIn wsX6_lookOfFaces wsX6_digit := goodIn_r _ [4] (by decide +kernel) (by decide +kernel)
set_option maxRecDepth 20000 in
theorem gX6_lookOfFaces_X6_digit : GoodIn wsX6_lookOfFaces (va_wsS RX6 325 yX6_digit wsX6_digit) := goodIn_app (goodIn_of _ (by decide +kernel)) ggX6_lookOfFaces_X6_digit
set_option maxRecDepth 20000 in
theorem ggX6_lookOfFaces_X6_seenFromBehind : GoodIn wsX6_lookOfFaces wsX6_seenFromBehind := goodIn_r _ [7] (by decide +kernel) (by decide +kernel)
set_option maxRecDepth 20000 in
theorem gX6_lookOfFaces_X6_seenFromBehind : GoodIn wsX6_lookOfFaces (va_wsS RX6 322 yX6_seenFromBehind wsX6_seenFromBehind) := goodIn_app (goodIn_of _ (by decide +kernel)) ggX6_lookOfFaces_X6_seenFromBehind
theorem dX6_lookOfFaces_0 : decode cX6_lookOfFaces 0 = .ok (.iconst 0, 1) := by decide +kernel
theorem dX6_lookOfFaces_1 : decode cX6_lookOfFaces 1 = .ok (.istore_n 2, 1) := by decide +kernel
theorem dX6_lookOfFaces_2 : decode cX6_lookOfFaces 2 = .ok (.iconst 0, 1) := by decide +kernel
theorem dX6_lookOfFaces_3 : decode cX6_lookOfFaces 3 = .ok (.istore_n 3, 1) := by decide +kernel
theorem dX6_lookOfFaces_4 : decode cX6_lookOfFaces 4 = .ok (.iload_n 3, 1) := by decide +kernel
theorem dX6_lookOfFaces_5 : decode cX6_lookOfFaces 5 = .ok (.iconst 4, 1) := by decide +kernel
theorem dX6_lookOfFaces_6 : decode cX6_lookOfFaces 6 = .ok (.if_icmp .ge 41, 3) := by decide +kernel
theorem dX6_lookOfFaces_9 : decode cX6_lookOfFaces 9 = .ok (.iload_n 0, 1) := by decide +kernel
theorem dX6_lookOfFaces_10 : decode cX6_lookOfFaces 10 = .ok (.iload_n 3, 1) := by decide +kernel
theorem dX6_lookOfFaces_11 : decode cX6_lookOfFaces 11 = .ok (.invokestatic 325, 3) := by decide +kernel
theorem dX6_lookOfFaces_14 : decode cX6_lookOfFaces 14 = .ok (.istore 4, 2) := by decide +kernel
theorem dX6_lookOfFaces_16 : decode cX6_lookOfFaces 16 = .ok (.iload_n 1, 1) := by decide +kernel
theorem dX6_lookOfFaces_17 : decode cX6_lookOfFaces 17 = .ok (.iload_n 3, 1) := by decide +kernel
theorem dX6_lookOfFaces_18 : decode cX6_lookOfFaces 18 = .ok (.invokestatic 322, 3) := by decide +kernel
theorem dX6_lookOfFaces_21 : decode cX6_lookOfFaces 21 = .ok (.invokestatic 325, 3) := by decide +kernel
theorem dX6_lookOfFaces_24 : decode cX6_lookOfFaces 24 = .ok (.istore 5, 2) := by decide +kernel
theorem dX6_lookOfFaces_26 : decode cX6_lookOfFaces 26 = .ok (.iload_n 2, 1) := by decide +kernel
theorem dX6_lookOfFaces_27 : decode cX6_lookOfFaces 27 = .ok (.iload 4, 2) := by decide +kernel
theorem dX6_lookOfFaces_29 : decode cX6_lookOfFaces 29 = .ok (.iload 5, 2) := by decide +kernel
theorem dX6_lookOfFaces_31 : decode cX6_lookOfFaces 31 = .ok (.bipush 16, 2) := by decide +kernel
theorem dX6_lookOfFaces_33 : decode cX6_lookOfFaces 33 = .ok (.ishl, 1) := by decide +kernel
theorem dX6_lookOfFaces_34 : decode cX6_lookOfFaces 34 = .ok (.ior, 1) := by decide +kernel
theorem dX6_lookOfFaces_35 : decode cX6_lookOfFaces 35 = .ok (.iconst 4, 1) := by decide +kernel
theorem dX6_lookOfFaces_36 : decode cX6_lookOfFaces 36 = .ok (.iload_n 3, 1) := by decide +kernel
theorem dX6_lookOfFaces_37 : decode cX6_lookOfFaces 37 = .ok (.imul, 1) := by decide +kernel
theorem dX6_lookOfFaces_38 : decode cX6_lookOfFaces 38 = .ok (.ishl, 1) := by decide +kernel
theorem dX6_lookOfFaces_39 : decode cX6_lookOfFaces 39 = .ok (.ior, 1) := by decide +kernel
theorem dX6_lookOfFaces_40 : decode cX6_lookOfFaces 40 = .ok (.istore_n 2, 1) := by decide +kernel
theorem dX6_lookOfFaces_41 : decode cX6_lookOfFaces 41 = .ok (.iinc 3 1, 3) := by decide +kernel
theorem dX6_lookOfFaces_44 : decode cX6_lookOfFaces 44 = .ok (.goto (-40), 3) := by decide +kernel
theorem dX6_lookOfFaces_47 : decode cX6_lookOfFaces 47 = .ok (.iload_n 2, 1) := by decide +kernel
theorem dX6_lookOfFaces_48 : decode cX6_lookOfFaces 48 = .ok (.ireturn, 1) := by decide +kernel
theorem dX6_digit_0 : decode cX6_digit 0 = .ok (.iload_n 0, 1) := by decide +kernel
theorem dX6_digit_1 : decode cX6_digit 1 = .ok (.istore_n 2, 1) := by decide +kernel
theorem dX6_digit_2 : decode cX6_digit 2 = .ok (.iload_n 1, 1) := by decide +kernel
theorem dX6_digit_3 : decode cX6_digit 3 = .ok (.istore_n 3, 1) := by decide +kernel
theorem dX6_digit_4 : decode cX6_digit 4 = .ok (.iload_n 3, 1) := by decide +kernel
theorem dX6_digit_5 : decode cX6_digit 5 = .ok (.iconst 3, 1) := by decide +kernel
theorem dX6_digit_6 : decode cX6_digit 6 = .ok (.if_icmp .ge 14, 3) := by decide +kernel
theorem dX6_digit_9 : decode cX6_digit 9 = .ok (.iload_n 2, 1) := by decide +kernel
theorem dX6_digit_10 : decode cX6_digit 10 = .ok (.bipush 10, 2) := by decide +kernel
theorem dX6_digit_12 : decode cX6_digit 12 = .ok (.idiv, 1) := by decide +kernel
theorem dX6_digit_13 : decode cX6_digit 13 = .ok (.istore_n 2, 1) := by decide +kernel
theorem dX6_digit_14 : decode cX6_digit 14 = .ok (.iinc 3 1, 3) := by decide +kernel
theorem dX6_digit_17 : decode cX6_digit 17 = .ok (.goto (-13), 3) := by decide +kernel
theorem dX6_digit_20 : decode cX6_digit 20 = .ok (.iload_n 2, 1) := by decide +kernel
theorem dX6_digit_21 : decode cX6_digit 21 = .ok (.bipush 10, 2) := by decide +kernel
theorem dX6_digit_23 : decode cX6_digit 23 = .ok (.irem, 1) := by decide +kernel
theorem dX6_digit_24 : decode cX6_digit 24 = .ok (.ireturn, 1) := by decide +kernel
theorem dX6_placingTurnedOver_0 : decode cX6_placingTurnedOver 0 = .ok (.iload_n 0, 1) := by decide +kernel
theorem dX6_placingTurnedOver_1 : decode cX6_placingTurnedOver 1 = .ok (.iconst (-1), 1) := by decide +kernel
theorem dX6_placingTurnedOver_2 : decode cX6_placingTurnedOver 2 = .ok (.if_icmp .ne 5, 3) := by decide +kernel
theorem dX6_placingTurnedOver_5 : decode cX6_placingTurnedOver 5 = .ok (.iconst (-1), 1) := by decide +kernel
theorem dX6_placingTurnedOver_6 : decode cX6_placingTurnedOver 6 = .ok (.ireturn, 1) := by decide +kernel
theorem dX6_placingTurnedOver_7 : decode cX6_placingTurnedOver 7 = .ok (.iload_n 0, 1) := by decide +kernel
theorem dX6_placingTurnedOver_8 : decode cX6_placingTurnedOver 8 = .ok (.bipush 8, 2) := by decide +kernel
theorem dX6_placingTurnedOver_10 : decode cX6_placingTurnedOver 10 = .ok (.idiv, 1) := by decide +kernel
theorem dX6_placingTurnedOver_11 : decode cX6_placingTurnedOver 11 = .ok (.istore_n 1, 1) := by decide +kernel
theorem dX6_placingTurnedOver_12 : decode cX6_placingTurnedOver 12 = .ok (.iconst 1, 1) := by decide +kernel
theorem dX6_placingTurnedOver_13 : decode cX6_placingTurnedOver 13 = .ok (.iload_n 0, 1) := by decide +kernel
theorem dX6_placingTurnedOver_14 : decode cX6_placingTurnedOver 14 = .ok (.iconst 4, 1) := by decide +kernel
theorem dX6_placingTurnedOver_15 : decode cX6_placingTurnedOver 15 = .ok (.idiv, 1) := by decide +kernel
theorem dX6_placingTurnedOver_16 : decode cX6_placingTurnedOver 16 = .ok (.iconst 2, 1) := by decide +kernel
theorem dX6_placingTurnedOver_17 : decode cX6_placingTurnedOver 17 = .ok (.irem, 1) := by decide +kernel
theorem dX6_placingTurnedOver_18 : decode cX6_placingTurnedOver 18 = .ok (.isub, 1) := by decide +kernel
theorem dX6_placingTurnedOver_19 : decode cX6_placingTurnedOver 19 = .ok (.istore_n 2, 1) := by decide +kernel
theorem dX6_placingTurnedOver_20 : decode cX6_placingTurnedOver 20 = .ok (.iconst 4, 1) := by decide +kernel
theorem dX6_placingTurnedOver_21 : decode cX6_placingTurnedOver 21 = .ok (.iload_n 0, 1) := by decide +kernel
theorem dX6_placingTurnedOver_22 : decode cX6_placingTurnedOver 22 = .ok (.iconst 4, 1) := by decide +kernel
theorem dX6_placingTurnedOver_23 : decode cX6_placingTurnedOver 23 = .ok (.irem, 1) := by decide +kernel
theorem dX6_placingTurnedOver_24 : decode cX6_placingTurnedOver 24 = .ok (.isub, 1) := by decide +kernel
theorem dX6_placingTurnedOver_25 : decode cX6_placingTurnedOver 25 = .ok (.iconst 4, 1) := by decide +kernel
theorem dX6_placingTurnedOver_26 : decode cX6_placingTurnedOver 26 = .ok (.irem, 1) := by decide +kernel
theorem dX6_placingTurnedOver_27 : decode cX6_placingTurnedOver 27 = .ok (.istore_n 3, 1) := by decide +kernel
theorem dX6_placingTurnedOver_28 : decode cX6_placingTurnedOver 28 = .ok (.bipush 8, 2) := by decide +kernel
theorem dX6_placingTurnedOver_30 : decode cX6_placingTurnedOver 30 = .ok (.iload_n 1, 1) := by decide +kernel
theorem dX6_placingTurnedOver_31 : decode cX6_placingTurnedOver 31 = .ok (.imul, 1) := by decide +kernel
theorem dX6_placingTurnedOver_32 : decode cX6_placingTurnedOver 32 = .ok (.iconst 4, 1) := by decide +kernel
theorem dX6_placingTurnedOver_33 : decode cX6_placingTurnedOver 33 = .ok (.iload_n 2, 1) := by decide +kernel
theorem dX6_placingTurnedOver_34 : decode cX6_placingTurnedOver 34 = .ok (.imul, 1) := by decide +kernel
theorem dX6_placingTurnedOver_35 : decode cX6_placingTurnedOver 35 = .ok (.iadd, 1) := by decide +kernel
theorem dX6_placingTurnedOver_36 : decode cX6_placingTurnedOver 36 = .ok (.iload_n 3, 1) := by decide +kernel
theorem dX6_placingTurnedOver_37 : decode cX6_placingTurnedOver 37 = .ok (.iadd, 1) := by decide +kernel
theorem dX6_placingTurnedOver_38 : decode cX6_placingTurnedOver 38 = .ok (.ireturn, 1) := by decide +kernel
set_option maxRecDepth 20000 in
theorem ggX7_init_X7_emptyBoard : GoodIn wsX7_init wsX7_emptyBoard := goodIn_r _ [16, 5, 17, 18, 19, 20, 21, 22, 23, 24, 25, 26, 27, 28, 29, 30, 31, 32] (by decide +kernel) (by decide +kernel)
set_option maxRecDepth 20000 in
theorem gX7_init_X7_emptyBoard : GoodIn wsX7_init (wsV RX7 31 RX7 yX7_emptyBoard wsX7_emptyBoard) := goodIn_app (goodIn_of _ (by decide +kernel)) ggX7_init_X7_emptyBoard
theorem dX7_init_0 : decode cX7_init 0 = .ok (.aload_n 0, 1) := by decide +kernel
theorem dX7_init_1 : decode cX7_init 1 = .ok (.invokespecial 1, 3) := by decide +kernel
theorem dX7_init_4 : decode cX7_init 4 = .ok (.aload_n 0, 1) := by decide +kernel
theorem dX7_init_5 : decode cX7_init 5 = .ok (.bipush 52, 2) := by decide +kernel
theorem dX7_init_7 : decode cX7_init 7 = .ok (.newarray .int, 2) := by decide +kernel
theorem dX7_init_9 : decode cX7_init 9 = .ok (.putfield 7, 3) := by decide +kernel
theorem dX7_init_12 : decode cX7_init 12 = .ok (.aload_n 0, 1) := by decide +kernel
theorem dX7_init_13 : decode cX7_init 13 = .ok (.sipush 416, 3) := by decide +kernel
theorem dX7_init_16 : decode cX7_init 16 = .ok (.newarray .int, 2) := by decide +kernel
theorem dX7_init_18 : decode cX7_init 18 = .ok (.putfield 13, 3) := by decide +kernel
theorem dX7_init_21 : decode cX7_init 21 = .ok (.aload_n 0, 1) := by decide +kernel
theorem dX7_init_22 : decode cX7_init 22 = .ok (.bipush 60, 2) := by decide +kernel
theorem dX7_init_24 : decode cX7_init 24 = .ok (.newarray .int, 2) := by decide +kernel
theorem dX7_init_26 : decode cX7_init 26 = .ok (.putfield 16, 3) := by decide +kernel
theorem dX7_init_29 : decode cX7_init 29 = .ok (.aload_n 0, 1) := by decide +kernel
theorem dX7_init_30 : decode cX7_init 30 = .ok (.bipush 12, 2) := by decide +kernel
theorem dX7_init_32 : decode cX7_init 32 = .ok (.newarray .int, 2) := by decide +kernel
theorem dX7_init_34 : decode cX7_init 34 = .ok (.putfield 19, 3) := by decide +kernel
theorem dX7_init_37 : decode cX7_init 37 = .ok (.aload_n 0, 1) := by decide +kernel
theorem dX7_init_38 : decode cX7_init 38 = .ok (.bipush 96, 2) := by decide +kernel
theorem dX7_init_40 : decode cX7_init 40 = .ok (.newarray .int, 2) := by decide +kernel
theorem dX7_init_42 : decode cX7_init 42 = .ok (.putfield 22, 3) := by decide +kernel
theorem dX7_init_45 : decode cX7_init 45 = .ok (.aload_n 0, 1) := by decide +kernel
theorem dX7_init_46 : decode cX7_init 46 = .ok (.bipush 16, 2) := by decide +kernel
theorem dX7_init_48 : decode cX7_init 48 = .ok (.newarray .int, 2) := by decide +kernel
theorem dX7_init_50 : decode cX7_init 50 = .ok (.putfield 25, 3) := by decide +kernel
theorem dX7_init_53 : decode cX7_init 53 = .ok (.aload_n 0, 1) := by decide +kernel
theorem dX7_init_54 : decode cX7_init 54 = .ok (.bipush 12, 2) := by decide +kernel
theorem dX7_init_56 : decode cX7_init 56 = .ok (.newarray .int, 2) := by decide +kernel
theorem dX7_init_58 : decode cX7_init 58 = .ok (.putfield 28, 3) := by decide +kernel
theorem dX7_init_61 : decode cX7_init 61 = .ok (.aload_n 0, 1) := by decide +kernel
theorem dX7_init_62 : decode cX7_init 62 = .ok (.getfield 7, 3) := by decide +kernel
theorem dX7_init_65 : decode cX7_init 65 = .ok (.iconst 0, 1) := by decide +kernel
theorem dX7_init_66 : decode cX7_init 66 = .ok (.iconst 2, 1) := by decide +kernel
theorem dX7_init_67 : decode cX7_init 67 = .ok (.iastore, 1) := by decide +kernel
theorem dX7_init_68 : decode cX7_init 68 = .ok (.aload_n 0, 1) := by decide +kernel
theorem dX7_init_69 : decode cX7_init 69 = .ok (.getfield 7, 3) := by decide +kernel
theorem dX7_init_72 : decode cX7_init 72 = .ok (.iconst 1, 1) := by decide +kernel
theorem dX7_init_73 : decode cX7_init 73 = .ok (.iconst 2, 1) := by decide +kernel
theorem dX7_init_74 : decode cX7_init 74 = .ok (.iastore, 1) := by decide +kernel
theorem dX7_init_75 : decode cX7_init 75 = .ok (.aload_n 0, 1) := by decide +kernel
theorem dX7_init_76 : decode cX7_init 76 = .ok (.invokevirtual 31, 3) := by decide +kernel
theorem dX7_init_79 : decode cX7_init 79 = .ok (.return_, 1) := by decide +kernel
theorem dX7_thrown_0 : decode cX7_thrown 0 = .ok (.aload_n 0, 1) := by decide +kernel
theorem dX7_thrown_1 : decode cX7_thrown 1 = .ok (.getfield 34, 3) := by decide +kernel
theorem dX7_thrown_4 : decode cX7_thrown 4 = .ok (.ireturn, 1) := by decide +kernel
theorem dX7_within_0 : decode cX7_within 0 = .ok (.iload_n 0, 1) := by decide +kernel
theorem dX7_within_1 : decode cX7_within 1 = .ok (.iload_n 1, 1) := by decide +kernel
theorem dX7_within_2 : decode cX7_within 2 = .ok (.if_icmp .lt 12, 3) := by decide +kernel
theorem dX7_within_5 : decode cX7_within 5 = .ok (.iload_n 0, 1) := by decide +kernel
theorem dX7_within_6 : decode cX7_within 6 = .ok (.iload_n 2, 1) := by decide +kernel
theorem dX7_within_7 : decode cX7_within 7 = .ok (.if_icmp .gt 7, 3) := by decide +kernel
theorem dX7_within_10 : decode cX7_within 10 = .ok (.iconst 1, 1) := by decide +kernel
theorem dX7_within_11 : decode cX7_within 11 = .ok (.goto 4, 3) := by decide +kernel
theorem dX7_within_14 : decode cX7_within 14 = .ok (.iconst 0, 1) := by decide +kernel
theorem dX7_within_15 : decode cX7_within 15 = .ok (.ireturn, 1) := by decide +kernel
theorem dX7_emptyBoard_0 : decode cX7_emptyBoard 0 = .ok (.iconst 0, 1) := by decide +kernel
theorem dX7_emptyBoard_1 : decode cX7_emptyBoard 1 = .ok (.istore_n 1, 1) := by decide +kernel
theorem dX7_emptyBoard_2 : decode cX7_emptyBoard 2 = .ok (.iload_n 1, 1) := by decide +kernel
theorem dX7_emptyBoard_3 : decode cX7_emptyBoard 3 = .ok (.bipush 12, 2) := by decide +kernel
theorem dX7_emptyBoard_5 : decode cX7_emptyBoard 5 = .ok (.if_icmp .ge 29, 3) := by decide +kernel
theorem dX7_emptyBoard_8 : decode cX7_emptyBoard 8 = .ok (.aload_n 0, 1) := by decide +kernel
theorem dX7_emptyBoard_9 : decode cX7_emptyBoard 9 = .ok (.getfield 7, 3) := by decide +kernel
theorem dX7_emptyBoard_12 : decode cX7_emptyBoard 12 = .ok (.bipush 28, 2) := by decide +kernel
theorem dX7_emptyBoard_14 : decode cX7_emptyBoard 14 = .ok (.iload_n 1, 1) := by decide +kernel
theorem dX7_emptyBoard_15 : decode cX7_emptyBoard 15 = .ok (.iadd, 1) := by decide +kernel
theorem dX7_emptyBoard_16 : decode cX7_emptyBoard 16 = .ok (.iconst (-1), 1) := by decide +kernel
theorem dX7_emptyBoard_17 : decode cX7_emptyBoard 17 = .ok (.iastore, 1) := by decide +kernel
theorem dX7_emptyBoard_18 : decode cX7_emptyBoard 18 = .ok (.aload_n 0, 1) := by decide +kernel
theorem dX7_emptyBoard_19 : decode cX7_emptyBoard 19 = .ok (.getfield 7, 3) := by decide +kernel
theorem dX7_emptyBoard_22 : decode cX7_emptyBoard 22 = .ok (.bipush 40, 2) := by decide +kernel
theorem dX7_emptyBoard_24 : decode cX7_emptyBoard 24 = .ok (.iload_n 1, 1) := by decide +kernel
theorem dX7_emptyBoard_25 : decode cX7_emptyBoard 25 = .ok (.iadd, 1) := by decide +kernel
theorem dX7_emptyBoard_26 : decode cX7_emptyBoard 26 = .ok (.iconst 0, 1) := by decide +kernel
theorem dX7_emptyBoard_27 : decode cX7_emptyBoard 27 = .ok (.iastore, 1) := by decide +kernel
theorem dX7_emptyBoard_28 : decode cX7_emptyBoard 28 = .ok (.iinc 1 1, 3) := by decide +kernel
theorem dX7_emptyBoard_31 : decode cX7_emptyBoard 31 = .ok (.goto (-29), 3) := by decide +kernel
theorem dX7_emptyBoard_34 : decode cX7_emptyBoard 34 = .ok (.return_, 1) := by decide +kernel
theorem dX7_cells_0 : decode cX7_cells 0 = .ok (.aload_n 0, 1) := by decide +kernel
theorem dX7_cells_1 : decode cX7_cells 1 = .ok (.getfield 7, 3) := by decide +kernel
theorem dX7_cells_4 : decode cX7_cells 4 = .ok (.iconst 0, 1) := by decide +kernel
theorem dX7_cells_5 : decode cX7_cells 5 = .ok (.iaload, 1) := by decide +kernel
theorem dX7_cells_6 : decode cX7_cells 6 = .ok (.aload_n 0, 1) := by decide +kernel
theorem dX7_cells_7 : decode cX7_cells 7 = .ok (.getfield 7, 3) := by decide +kernel
theorem dX7_cells_10 : decode cX7_cells 10 = .ok (.iconst 1, 1) := by decide +kernel
theorem dX7_cells_11 : decode cX7_cells 11 = .ok (.iaload, 1) := by decide +kernel
theorem dX7_cells_12 : decode cX7_cells 12 = .ok (.imul, 1) := by decide +kernel
theorem dX7_cells_13 : decode cX7_cells 13 = .ok (.ireturn, 1) := by decide +kernel
set_option maxRecDepth 20000 in
theorem ggX7_isCell_X7_cells : GoodIn wsX7_isCell wsX7_cells := goodIn_r _ [5, 6, 10, 11, 12, 13, 14, 15, 16, 17, 18, 19, 20, 21, 22, 23, 24, 25] (by decide +kernel) (by decide +kernel)
set_option maxRecDepth 20000 in
theorem gX7_isCell_X7_cells : GoodIn wsX7_isCell (wsV RX7 38 RX7 yX7_cells wsX7_cells) := goodIn_app (goodIn_of _ (by decide +kernel)) ggX7_isCell_X7_cells
set_option maxRecDepth 20000 in
theorem ggX7_isCell_X7_within : GoodIn wsX7_isCell wsX7_within := goodIn_r _ [9] (by decide +kernel) (by decide +kernel)
set_option maxRecDepth 20000 in
theorem gX7_isCell_X7_within : GoodIn wsX7_isCell (va_wsS RX7 42 yX7_within wsX7_within) := goodIn_app (goodIn_of _ (by decide +kernel)) ggX7_isCell_X7_within
theorem dX7_isCell_0 : decode cX7_isCell 0 = .ok (.iload_n 1, 1) := by decide +kernel
theorem dX7_isCell_1 : decode cX7_isCell 1 = .ok (.iconst 0, 1) := by decide +kernel
theorem dX7_isCell_2 : decode cX7_isCell 2 = .ok (.aload_n 0, 1) := by decide +kernel
theorem dX7_isCell_3 : decode cX7_isCell 3 = .ok (.invokevirtual 38, 3) := by decide +kernel
theorem dX7_isCell_6 : decode cX7_isCell 6 = .ok (.iconst 1, 1) := by decide +kernel
theorem dX7_isCell_7 : decode cX7_isCell 7 = .ok (.isub, 1) := by decide +kernel
theorem dX7_isCell_8 : decode cX7_isCell 8 = .ok (.invokestatic 42, 3) := by decide +kernel
theorem dX7_isCell_11 : decode cX7_isCell 11 = .ok (.ireturn, 1) := by decide +kernel
set_option maxRecDepth 20000 in
theorem ggX7_isTile_X7_within : GoodIn wsX7_isTile wsX7_within := goodIn_r _ [5] (by decide +kernel) (by decide +kernel)
set_option maxRecDepth 20000 in
theorem gX7_isTile_X7_within : GoodIn wsX7_isTile (va_wsS RX7 42 yX7_within wsX7_within) := goodIn_app (goodIn_of _ (by decide +kernel)) ggX7_isTile_X7_within
theorem dX7_isTile_0 : decode cX7_isTile 0 = .ok (.iload_n 1, 1) := by decide +kernel
theorem dX7_isTile_1 : decode cX7_isTile 1 = .ok (.iconst 0, 1) := by decide +kernel
theorem dX7_isTile_2 : decode cX7_isTile 2 = .ok (.aload_n 0, 1) := by decide +kernel
theorem dX7_isTile_3 : decode cX7_isTile 3 = .ok (.getfield 7, 3) := by decide +kernel
theorem dX7_isTile_6 : decode cX7_isTile 6 = .ok (.iconst 3, 1) := by decide +kernel
theorem dX7_isTile_7 : decode cX7_isTile 7 = .ok (.iaload, 1) := by decide +kernel
theorem dX7_isTile_8 : decode cX7_isTile 8 = .ok (.iconst 1, 1) := by decide +kernel
theorem dX7_isTile_9 : decode cX7_isTile 9 = .ok (.isub, 1) := by decide +kernel
theorem dX7_isTile_10 : decode cX7_isTile 10 = .ok (.invokestatic 42, 3) := by decide +kernel
theorem dX7_isTile_13 : decode cX7_isTile 13 = .ok (.ireturn, 1) := by decide +kernel
set_option maxRecDepth 20000 in
theorem ggX7_isPlacing_X7_isTile : GoodIn wsX7_isPlacing wsX7_isTile := goodIn_r _ [5, 6, 7, 8, 4, 9, 10, 11, 12, 13, 14, 15, 16, 17, 18, 19, 20, 21, 22, 23, 24, 25] (by decide +kernel) (by decide +kernel)
set_option maxRecDepth 20000 in
theorem gX7_isPlacing_X7_isTile : GoodIn wsX7_isPlacing (wsV RX7 46 RX7 yX7_isTile wsX7_isTile) := goodIn_app (goodIn_of _ (by decide +kernel)) ggX7_isPlacing_X7_isTile
theorem dX7_isPlacing_0 : decode cX7_isPlacing 0 = .ok (.iload_n 1, 1) := by decide +kernel
theorem dX7_isPlacing_1 : decode cX7_isPlacing 1 = .ok (.ifCond .lt 18, 3) := by decide +kernel
theorem dX7_isPlacing_4 : decode cX7_isPlacing 4 = .ok (.aload_n 0, 1) := by decide +kernel
theorem dX7_isPlacing_5 : decode cX7_isPlacing 5 = .ok (.iload_n 1, 1) := by decide +kernel
theorem dX7_isPlacing_6 : decode cX7_isPlacing 6 = .ok (.bipush 8, 2) := by decide +kernel
theorem dX7_isPlacing_8 : decode cX7_isPlacing 8 = .ok (.idiv, 1) := by decide +kernel
theorem dX7_isPlacing_9 : decode cX7_isPlacing 9 = .ok (.invokevirtual 46, 3) := by decide +kernel
theorem dX7_isPlacing_12 : decode cX7_isPlacing 12 = .ok (.ifCond .eq 7, 3) := by decide +kernel
theorem dX7_isPlacing_15 : decode cX7_isPlacing 15 = .ok (.iconst 1, 1) := by decide +kernel
theorem dX7_isPlacing_16 : decode cX7_isPlacing 16 = .ok (.goto 4, 3) := by decide +kernel
theorem dX7_isPlacing_19 : decode cX7_isPlacing 19 = .ok (.iconst 0, 1) := by decide +kernel
theorem dX7_isPlacing_20 : decode cX7_isPlacing 20 = .ok (.ireturn, 1) := by decide +kernel
theorem dX7_edge_0 : decode cX7_edge 0 = .ok (.aload_n 0, 1) := by decide +kernel
theorem dX7_edge_1 : decode cX7_edge 1 = .ok (.getfield 7, 3) := by decide +kernel
theorem dX7_edge_4 : decode cX7_edge 4 = .ok (.iconst 4, 1) := by decide +kernel
theorem dX7_edge_5 : decode cX7_edge 5 = .ok (.iconst 2, 1) := by decide +kernel
theorem dX7_edge_6 : decode cX7_edge 6 = .ok (.iload_n 1, 1) := by decide +kernel
theorem dX7_edge_7 : decode cX7_edge 7 = .ok (.imul, 1) := by decide +kernel
theorem dX7_edge_8 : decode cX7_edge 8 = .ok (.iadd, 1) := by decide +kernel
theorem dX7_edge_9 : decode cX7_edge 9 = .ok (.iload_n 2, 1) := by decide +kernel
theorem dX7_edge_10 : decode cX7_edge 10 = .ok (.iadd, 1) := by decide +kernel
theorem dX7_edge_11 : decode cX7_edge 11 = .ok (.iaload, 1) := by decide +kernel
theorem dX7_edge_12 : decode cX7_edge 12 = .ok (.istore 4, 2) := by decide +kernel
theorem dX7_edge_14 : decode cX7_edge 14 = .ok (.iload_n 3, 1) := by decide +kernel
theorem dX7_edge_15 : decode cX7_edge 15 = .ok (.ifCond .ne 12, 3) := by decide +kernel
theorem dX7_edge_18 : decode cX7_edge 18 = .ok (.iload 4, 2) := by decide +kernel
theorem dX7_edge_20 : decode cX7_edge 20 = .ok (.sipush 1000, 3) := by decide +kernel
theorem dX7_edge_23 : decode cX7_edge 23 = .ok (.idiv, 1) := by decide +kernel
theorem dX7_edge_24 : decode cX7_edge 24 = .ok (.goto 40, 3) := by decide +kernel
theorem dX7_edge_27 : decode cX7_edge 27 = .ok (.iload_n 3, 1) := by decide +kernel
theorem dX7_edge_28 : decode cX7_edge 28 = .ok (.iconst 1, 1) := by decide +kernel
theorem dX7_edge_29 : decode cX7_edge 29 = .ok (.if_icmp .ne 14, 3) := by decide +kernel
theorem dX7_edge_32 : decode cX7_edge 32 = .ok (.iload 4, 2) := by decide +kernel
theorem dX7_edge_34 : decode cX7_edge 34 = .ok (.bipush 100, 2) := by decide +kernel
theorem dX7_edge_36 : decode cX7_edge 36 = .ok (.idiv, 1) := by decide +kernel
theorem dX7_edge_37 : decode cX7_edge 37 = .ok (.bipush 10, 2) := by decide +kernel
theorem dX7_edge_39 : decode cX7_edge 39 = .ok (.irem, 1) := by decide +kernel
theorem dX7_edge_40 : decode cX7_edge 40 = .ok (.goto 24, 3) := by decide +kernel
theorem dX7_edge_43 : decode cX7_edge 43 = .ok (.iload_n 3, 1) := by decide +kernel
theorem dX7_edge_44 : decode cX7_edge 44 = .ok (.iconst 2, 1) := by decide +kernel
theorem dX7_edge_45 : decode cX7_edge 45 = .ok (.if_icmp .ne 14, 3) := by decide +kernel
theorem dX7_edge_48 : decode cX7_edge 48 = .ok (.iload 4, 2) := by decide +kernel
theorem dX7_edge_50 : decode cX7_edge 50 = .ok (.bipush 10, 2) := by decide +kernel
theorem dX7_edge_52 : decode cX7_edge 52 = .ok (.idiv, 1) := by decide +kernel
theorem dX7_edge_53 : decode cX7_edge 53 = .ok (.bipush 10, 2) := by decide +kernel
theorem dX7_edge_55 : decode cX7_edge 55 = .ok (.irem, 1) := by decide +kernel
theorem dX7_edge_56 : decode cX7_edge 56 = .ok (.goto 8, 3) := by decide +kernel
theorem dX7_edge_59 : decode cX7_edge 59 = .ok (.iload 4, 2) := by decide +kernel
theorem dX7_edge_61 : decode cX7_edge 61 = .ok (.bipush 10, 2) := by decide +kernel
theorem dX7_edge_63 : decode cX7_edge 63 = .ok (.irem, 1) := by decide +kernel
theorem dX7_edge_64 : decode cX7_edge 64 = .ok (.ireturn, 1) := by decide +kernel
set_option maxRecDepth 20000 in
theorem ggX7_colorOf_X7_edge : GoodIn wsX7_colorOf wsX7_edge := goodIn_r _ [5, 6, 7, 8, 9, 10, 11, 12, 13, 14, 15, 16, 17, 18, 19, 20, 21, 22] (by decide +kernel) (by decide +kernel)
set_option maxRecDepth 20000 in
theorem gX7_colorOf_X7_edge : GoodIn wsX7_colorOf (wsV RX7 50 RX7 yX7_edge wsX7_edge) := goodIn_app (goodIn_of _ (by decide +kernel)) ggX7_colorOf_X7_edge
theorem dX7_colorOf_0 : decode cX7_colorOf 0 = .ok (.iload_n 1, 1) := by decide +kernel
theorem dX7_colorOf_1 : decode cX7_colorOf 1 = .ok (.iconst 4, 1) := by decide +kernel
theorem dX7_colorOf_2 : decode cX7_colorOf 2 = .ok (.idiv, 1) := by decide +kernel
theorem dX7_colorOf_3 : decode cX7_colorOf 3 = .ok (.iconst 2, 1) := by decide +kernel
theorem dX7_colorOf_4 : decode cX7_colorOf 4 = .ok (.irem, 1) := by decide +kernel
theorem dX7_colorOf_5 : decode cX7_colorOf 5 = .ok (.istore 4, 2) := by decide +kernel
theorem dX7_colorOf_7 : decode cX7_colorOf 7 = .ok (.iload_n 1, 1) := by decide +kernel
theorem dX7_colorOf_8 : decode cX7_colorOf 8 = .ok (.iconst 4, 1) := by decide +kernel
theorem dX7_colorOf_9 : decode cX7_colorOf 9 = .ok (.irem, 1) := by decide +kernel
theorem dX7_colorOf_10 : decode cX7_colorOf 10 = .ok (.istore 5, 2) := by decide +kernel
theorem dX7_colorOf_12 : decode cX7_colorOf 12 = .ok (.iload_n 3, 1) := by decide +kernel
theorem dX7_colorOf_13 : decode cX7_colorOf 13 = .ok (.ifCond .eq 28, 3) := by decide +kernel
theorem dX7_colorOf_16 : decode cX7_colorOf 16 = .ok (.aload_n 0, 1) := by decide +kernel
theorem dX7_colorOf_17 : decode cX7_colorOf 17 = .ok (.iload_n 1, 1) := by decide +kernel
theorem dX7_colorOf_18 : decode cX7_colorOf 18 = .ok (.bipush 8, 2) := by decide +kernel
theorem dX7_colorOf_20 : decode cX7_colorOf 20 = .ok (.idiv, 1) := by decide +kernel
theorem dX7_colorOf_21 : decode cX7_colorOf 21 = .ok (.iconst 1, 1) := by decide +kernel
theorem dX7_colorOf_22 : decode cX7_colorOf 22 = .ok (.iload 4, 2) := by decide +kernel
theorem dX7_colorOf_24 : decode cX7_colorOf 24 = .ok (.isub, 1) := by decide +kernel
theorem dX7_colorOf_25 : decode cX7_colorOf 25 = .ok (.iconst 4, 1) := by decide +kernel
theorem dX7_colorOf_26 : decode cX7_colorOf 26 = .ok (.iload_n 2, 1) := by decide +kernel
theorem dX7_colorOf_27 : decode cX7_colorOf 27 = .ok (.isub, 1) := by decide +kernel
theorem dX7_colorOf_28 : decode cX7_colorOf 28 = .ok (.iconst 4, 1) := by decide +kernel
theorem dX7_colorOf_29 : decode cX7_colorOf 29 = .ok (.irem, 1) := by decide +kernel
theorem dX7_colorOf_30 : decode cX7_colorOf 30 = .ok (.iload 5, 2) := by decide +kernel
theorem dX7_colorOf_32 : decode cX7_colorOf 32 = .ok (.iadd, 1) := by decide +kernel
theorem dX7_colorOf_33 : decode cX7_colorOf 33 = .ok (.iconst 4, 1) := by decide +kernel
theorem dX7_colorOf_34 : decode cX7_colorOf 34 = .ok (.irem, 1) := by decide +kernel
theorem dX7_colorOf_35 : decode cX7_colorOf 35 = .ok (.invokevirtual 50, 3) := by decide +kernel
theorem dX7_colorOf_38 : decode cX7_colorOf 38 = .ok (.goto 21, 3) := by decide +kernel
theorem dX7_colorOf_41 : decode cX7_colorOf 41 = .ok (.aload_n 0, 1) := by decide +kernel
theorem dX7_colorOf_42 : decode cX7_colorOf 42 = .ok (.iload_n 1, 1) := by decide +kernel
theorem dX7_colorOf_43 : decode cX7_colorOf 43 = .ok (.bipush 8, 2) := by decide +kernel
theorem dX7_colorOf_45 : decode cX7_colorOf 45 = .ok (.idiv, 1) := by decide +kernel
theorem dX7_colorOf_46 : decode cX7_colorOf 46 = .ok (.iload 4, 2) := by decide +kernel
theorem dX7_colorOf_48 : decode cX7_colorOf 48 = .ok (.iload_n 2, 1) := by decide +kernel
theorem dX7_colorOf_49 : decode cX7_colorOf 49 = .ok (.iload 5, 2) := by decide +kernel
theorem dX7_colorOf_51 : decode cX7_colorOf 51 = .ok (.isub, 1) := by decide +kernel
theorem dX7_colorOf_52 : decode cX7_colorOf 52 = .ok (.iconst 4, 1) := by decide +kernel
theorem dX7_colorOf_53 : decode cX7_colorOf 53 = .ok (.iadd, 1) := by decide +kernel
theorem dX7_colorOf_54 : decode cX7_colorOf 54 = .ok (.iconst 4, 1) := by decide +kernel
theorem dX7_colorOf_55 : decode cX7_colorOf 55 = .ok (.irem, 1) := by decide +kernel
theorem dX7_colorOf_56 : decode cX7_colorOf 56 = .ok (.invokevirtual 50, 3) := by decide +kernel
theorem dX7_colorOf_59 : decode cX7_colorOf 59 = .ok (.ireturn, 1) := by decide +kernel
theorem dX7_beyond_0 : decode cX7_beyond 0 = .ok (.iload_n 1, 1) := by decide +kernel
theorem dX7_beyond_1 : decode cX7_beyond 1 = .ok (.aload_n 0, 1) := by decide +kernel
theorem dX7_beyond_2 : decode cX7_beyond 2 = .ok (.getfield 7, 3) := by decide +kernel
theorem dX7_beyond_5 : decode cX7_beyond 5 = .ok (.iconst 1, 1) := by decide +kernel
theorem dX7_beyond_6 : decode cX7_beyond 6 = .ok (.iaload, 1) := by decide +kernel
theorem dX7_beyond_7 : decode cX7_beyond 7 = .ok (.idiv, 1) := by decide +kernel
theorem dX7_beyond_8 : decode cX7_beyond 8 = .ok (.istore_n 3, 1) := by decide +kernel
theorem dX7_beyond_9 : decode cX7_beyond 9 = .ok (.iload_n 1, 1) := by decide +kernel
theorem dX7_beyond_10 : decode cX7_beyond 10 = .ok (.aload_n 0, 1) := by decide +kernel
theorem dX7_beyond_11 : decode cX7_beyond 11 = .ok (.getfield 7, 3) := by decide +kernel
theorem dX7_beyond_14 : decode cX7_beyond 14 = .ok (.iconst 1, 1) := by decide +kernel
theorem dX7_beyond_15 : decode cX7_beyond 15 = .ok (.iaload, 1) := by decide +kernel
theorem dX7_beyond_16 : decode cX7_beyond 16 = .ok (.irem, 1) := by decide +kernel
theorem dX7_beyond_17 : decode cX7_beyond 17 = .ok (.istore 4, 2) := by decide +kernel
theorem dX7_beyond_19 : decode cX7_beyond 19 = .ok (.iload_n 2, 1) := by decide +kernel
theorem dX7_beyond_20 : decode cX7_beyond 20 = .ok (.tableswitch 91 0 2 #[28, 45, 66], 28) := by decide +kernel
theorem dX7_beyond_48 : decode cX7_beyond 48 = .ok (.iload_n 3, 1) := by decide +kernel
theorem dX7_beyond_49 : decode cX7_beyond 49 = .ok (.ifCond .ne 7, 3) := by decide +kernel
theorem dX7_beyond_52 : decode cX7_beyond 52 = .ok (.iconst (-1), 1) := by decide +kernel
theorem dX7_beyond_53 : decode cX7_beyond 53 = .ok (.goto 11, 3) := by decide +kernel
theorem dX7_beyond_56 : decode cX7_beyond 56 = .ok (.iload_n 1, 1) := by decide +kernel
theorem dX7_beyond_57 : decode cX7_beyond 57 = .ok (.aload_n 0, 1) := by decide +kernel
theorem dX7_beyond_58 : decode cX7_beyond 58 = .ok (.getfield 7, 3) := by decide +kernel
theorem dX7_beyond_61 : decode cX7_beyond 61 = .ok (.iconst 1, 1) := by decide +kernel
theorem dX7_beyond_62 : decode cX7_beyond 62 = .ok (.iaload, 1) := by decide +kernel
theorem dX7_beyond_63 : decode cX7_beyond 63 = .ok (.isub, 1) := by decide +kernel
theorem dX7_beyond_64 : decode cX7_beyond 64 = .ok (.ireturn, 1) := by decide +kernel
theorem dX7_beyond_65 : decode cX7_beyond 65 = .ok (.iload 4, 2) := by decide +kernel
theorem dX7_beyond_67 : decode cX7_beyond 67 = .ok (.aload_n 0, 1) := by decide +kernel
theorem dX7_beyond_68 : decode cX7_beyond 68 = .ok (.getfield 7, 3) := by decide +kernel
theorem dX7_beyond_71 : decode cX7_beyond 71 = .ok (.iconst 1, 1) := by decide +kernel
theorem dX7_beyond_72 : decode cX7_beyond 72 = .ok (.iaload, 1) := by decide +kernel
theorem dX7_beyond_73 : decode cX7_beyond 73 = .ok (.iconst 1, 1) := by decide +kernel
theorem dX7_beyond_74 : decode cX7_beyond 74 = .ok (.isub, 1) := by decide +kernel
theorem dX7_beyond_75 : decode cX7_beyond 75 = .ok (.if_icmp .ne 7, 3) := by decide +kernel
theorem dX7_beyond_78 : decode cX7_beyond 78 = .ok (.iconst (-1), 1) := by decide +kernel
theorem dX7_beyond_79 : decode cX7_beyond 79 = .ok (.goto 6, 3) := by decide +kernel
theorem dX7_beyond_82 : decode cX7_beyond 82 = .ok (.iload_n 1, 1) := by decide +kernel
theorem dX7_beyond_83 : decode cX7_beyond 83 = .ok (.iconst 1, 1) := by decide +kernel
theorem dX7_beyond_84 : decode cX7_beyond 84 = .ok (.iadd, 1) := by decide +kernel
theorem dX7_beyond_85 : decode cX7_beyond 85 = .ok (.ireturn, 1) := by decide +kernel
theorem dX7_beyond_86 : decode cX7_beyond 86 = .ok (.iload_n 3, 1) := by decide +kernel
theorem dX7_beyond_87 : decode cX7_beyond 87 = .ok (.aload_n 0, 1) := by decide +kernel
theorem dX7_beyond_88 : decode cX7_beyond 88 = .ok (.getfield 7, 3) := by decide +kernel
theorem dX7_beyond_91 : decode cX7_beyond 91 = .ok (.iconst 0, 1) := by decide +kernel
theorem dX7_beyond_92 : decode cX7_beyond 92 = .ok (.iaload, 1) := by decide +kernel
theorem dX7_beyond_93 : decode cX7_beyond 93 = .ok (.iconst 1, 1) := by decide +kernel
theorem dX7_beyond_94 : decode cX7_beyond 94 = .ok (.isub, 1) := by decide +kernel
theorem dX7_beyond_95 : decode cX7_beyond 95 = .ok (.if_icmp .ne 7, 3) := by decide +kernel
theorem dX7_beyond_98 : decode cX7_beyond 98 = .ok (.iconst (-1), 1) := by decide +kernel
theorem dX7_beyond_99 : decode cX7_beyond 99 = .ok (.goto 11, 3) := by decide +kernel
theorem dX7_beyond_102 : decode cX7_beyond 102 = .ok (.iload_n 1, 1) := by decide +kernel
theorem dX7_beyond_103 : decode cX7_beyond 103 = .ok (.aload_n 0, 1) := by decide +kernel
theorem dX7_beyond_104 : decode cX7_beyond 104 = .ok (.getfield 7, 3) := by decide +kernel
theorem dX7_beyond_107 : decode cX7_beyond 107 = .ok (.iconst 1, 1) := by decide +kernel
theorem dX7_beyond_108 : decode cX7_beyond 108 = .ok (.iaload, 1) := by decide +kernel
theorem dX7_beyond_109 : decode cX7_beyond 109 = .ok (.iadd, 1) := by decide +kernel
theorem dX7_beyond_110 : decode cX7_beyond 110 = .ok (.ireturn, 1) := by decide +kernel
theorem dX7_beyond_111 : decode cX7_beyond 111 = .ok (.iload 4, 2) := by decide +kernel
theorem dX7_beyond_113 : decode cX7_beyond 113 = .ok (.ifCond .ne 7, 3) := by decide +kernel
theorem dX7_beyond_116 : decode cX7_beyond 116 = .ok (.iconst (-1), 1) := by decide +kernel
theorem dX7_beyond_117 : decode cX7_beyond 117 = .ok (.goto 6, 3) := by decide +kernel
theorem dX7_beyond_120 : decode cX7_beyond 120 = .ok (.iload_n 1, 1) := by decide +kernel
theorem dX7_beyond_121 : decode cX7_beyond 121 = .ok (.iconst 1, 1) := by decide +kernel
theorem dX7_beyond_122 : decode cX7_beyond 122 = .ok (.isub, 1) := by decide +kernel
theorem dX7_beyond_123 : decode cX7_beyond 123 = .ok (.ireturn, 1) := by decide +kernel
set_option maxRecDepth 20000 in
theorem ggX7_shown_X7_beyond : GoodIn wsX7_shown wsX7_beyond := goodIn_r _ [6, 1, 15, 16, 17, 18, 19, 20, 21, 22, 23, 24, 25, 26, 27, 28, 29, 30] (by decide +kernel) (by decide +kernel)
set_option maxRecDepth 20000 in
theorem gX7_shown_X7_beyond : GoodIn wsX7_shown (wsV RX7 54 RX7 yX7_beyond wsX7_beyond) := goodIn_app (goodIn_of _ (by decide +kernel)) ggX7_shown_X7_beyond
set_option maxRecDepth 20000 in
theorem ggX7_shown_X7_colorOf : GoodIn wsX7_shown wsX7_colorOf := goodIn_r _ [10, 11, 12, 13, 5, 14, 1, 15, 16, 17, 18, 19, 20, 21, 22, 23, 24, 25, 26, 27, 28, 29, 30] (by decide +kernel) (by decide +kernel)
set_option maxRecDepth 20000 in
theorem gX7_shown_X7_colorOf : GoodIn wsX7_shown (wsV RX7 58 RX7 yX7_colorOf wsX7_colorOf) := goodIn_app (goodIn_of _ (by decide +kernel)) ggX7_shown_X7_colorOf
theorem dX7_shown_0 : decode cX7_shown 0 = .ok (.aload_n 0, 1) := by decide +kernel
theorem dX7_shown_1 : decode cX7_shown 1 = .ok (.iload_n 1, 1) := by decide +kernel
theorem dX7_shown_2 : decode cX7_shown 2 = .ok (.iload_n 2, 1) := by decide +kernel
theorem dX7_shown_3 : decode cX7_shown 3 = .ok (.invokevirtual 54, 3) := by decide +kernel
theorem dX7_shown_6 : decode cX7_shown 6 = .ok (.istore 4, 2) := by decide +kernel
theorem dX7_shown_8 : decode cX7_shown 8 = .ok (.iload 4, 2) := by decide +kernel
theorem dX7_shown_10 : decode cX7_shown 10 = .ok (.iconst (-1), 1) := by decide +kernel
theorem dX7_shown_11 : decode cX7_shown 11 = .ok (.if_icmp .eq 17, 3) := by decide +kernel
theorem dX7_shown_14 : decode cX7_shown 14 = .ok (.aload_n 0, 1) := by decide +kernel
theorem dX7_shown_15 : decode cX7_shown 15 = .ok (.getfield 7, 3) := by decide +kernel
theorem dX7_shown_18 : decode cX7_shown 18 = .ok (.bipush 28, 2) := by decide +kernel
theorem dX7_shown_20 : decode cX7_shown 20 = .ok (.iload 4, 2) := by decide +kernel
theorem dX7_shown_22 : decode cX7_shown 22 = .ok (.iadd, 1) := by decide +kernel
theorem dX7_shown_23 : decode cX7_shown 23 = .ok (.iaload, 1) := by decide +kernel
theorem dX7_shown_24 : decode cX7_shown 24 = .ok (.iconst (-1), 1) := by decide +kernel
theorem dX7_shown_25 : decode cX7_shown 25 = .ok (.if_icmp .ne 7, 3) := by decide +kernel
theorem dX7_shown_28 : decode cX7_shown 28 = .ok (.iconst (-1), 1) := by decide +kernel
theorem dX7_shown_29 : decode cX7_shown 29 = .ok (.goto 23, 3) := by decide +kernel
theorem dX7_shown_32 : decode cX7_shown 32 = .ok (.aload_n 0, 1) := by decide +kernel
theorem dX7_shown_33 : decode cX7_shown 33 = .ok (.aload_n 0, 1) := by decide +kernel
theorem dX7_shown_34 : decode cX7_shown 34 = .ok (.getfield 7, 3) := by decide +kernel
theorem dX7_shown_37 : decode cX7_shown 37 = .ok (.bipush 28, 2) := by decide +kernel
theorem dX7_shown_39 : decode cX7_shown 39 = .ok (.iload 4, 2) := by decide +kernel
theorem dX7_shown_41 : decode cX7_shown 41 = .ok (.iadd, 1) := by decide +kernel
theorem dX7_shown_42 : decode cX7_shown 42 = .ok (.iaload, 1) := by decide +kernel
theorem dX7_shown_43 : decode cX7_shown 43 = .ok (.iload_n 2, 1) := by decide +kernel
theorem dX7_shown_44 : decode cX7_shown 44 = .ok (.iconst 2, 1) := by decide +kernel
theorem dX7_shown_45 : decode cX7_shown 45 = .ok (.iadd, 1) := by decide +kernel
theorem dX7_shown_46 : decode cX7_shown 46 = .ok (.iconst 4, 1) := by decide +kernel
theorem dX7_shown_47 : decode cX7_shown 47 = .ok (.irem, 1) := by decide +kernel
theorem dX7_shown_48 : decode cX7_shown 48 = .ok (.iload_n 3, 1) := by decide +kernel
theorem dX7_shown_49 : decode cX7_shown 49 = .ok (.invokevirtual 58, 3) := by decide +kernel
theorem dX7_shown_52 : decode cX7_shown 52 = .ok (.ireturn, 1) := by decide +kernel
set_option maxRecDepth 20000 in
theorem ggX7_isBadRim_X7_colorOf : GoodIn wsX7_isBadRim wsX7_colorOf := goodIn_r _ [6, 7, 8, 9, 5, 10, 1, 15, 16, 17, 18, 19, 20, 21, 22, 23, 24, 25, 26, 27, 28, 29, 30] (by decide +kernel) (by decide +kernel)
set_option maxRecDepth 20000 in
theorem gX7_isBadRim_X7_colorOf : GoodIn wsX7_isBadRim (wsV RX7 58 RX7 yX7_colorOf wsX7_colorOf) := goodIn_app (goodIn_of _ (by decide +kernel)) ggX7_isBadRim_X7_colorOf
set_option maxRecDepth 20000 in
theorem ggX7_isBadRim_X7_beyond : GoodIn wsX7_isBadRim wsX7_beyond := goodIn_r _ [14, 1, 15, 16, 17, 18, 19, 20, 21, 22, 23, 24, 25, 26, 27, 28, 29, 30] (by decide +kernel) (by decide +kernel)
set_option maxRecDepth 20000 in
theorem gX7_isBadRim_X7_beyond : GoodIn wsX7_isBadRim (wsV RX7 54 RX7 yX7_beyond wsX7_beyond) := goodIn_app (goodIn_of _ (by decide +kernel)) ggX7_isBadRim_X7_beyond
theorem dX7_isBadRim_0 : decode cX7_isBadRim 0 = .ok (.aload_n 0, 1) := by decide +kernel
theorem dX7_isBadRim_1 : decode cX7_isBadRim 1 = .ok (.iload_n 2, 1) := by decide +kernel
theorem dX7_isBadRim_2 : decode cX7_isBadRim 2 = .ok (.iload_n 3, 1) := by decide +kernel
theorem dX7_isBadRim_3 : decode cX7_isBadRim 3 = .ok (.iconst 0, 1) := by decide +kernel
theorem dX7_isBadRim_4 : decode cX7_isBadRim 4 = .ok (.invokevirtual 58, 3) := by decide +kernel
theorem dX7_isBadRim_7 : decode cX7_isBadRim 7 = .ok (.ifCond .ne 23, 3) := by decide +kernel
theorem dX7_isBadRim_10 : decode cX7_isBadRim 10 = .ok (.aload_n 0, 1) := by decide +kernel
theorem dX7_isBadRim_11 : decode cX7_isBadRim 11 = .ok (.getfield 7, 3) := by decide +kernel
theorem dX7_isBadRim_14 : decode cX7_isBadRim 14 = .ok (.iconst 2, 1) := by decide +kernel
theorem dX7_isBadRim_15 : decode cX7_isBadRim 15 = .ok (.iaload, 1) := by decide +kernel
theorem dX7_isBadRim_16 : decode cX7_isBadRim 16 = .ok (.iconst 2, 1) := by decide +kernel
theorem dX7_isBadRim_17 : decode cX7_isBadRim 17 = .ok (.if_icmp .ne 17, 3) := by decide +kernel
theorem dX7_isBadRim_20 : decode cX7_isBadRim 20 = .ok (.aload_n 0, 1) := by decide +kernel
theorem dX7_isBadRim_21 : decode cX7_isBadRim 21 = .ok (.iload_n 2, 1) := by decide +kernel
theorem dX7_isBadRim_22 : decode cX7_isBadRim 22 = .ok (.iload_n 3, 1) := by decide +kernel
theorem dX7_isBadRim_23 : decode cX7_isBadRim 23 = .ok (.iconst 1, 1) := by decide +kernel
theorem dX7_isBadRim_24 : decode cX7_isBadRim 24 = .ok (.invokevirtual 58, 3) := by decide +kernel
theorem dX7_isBadRim_27 : decode cX7_isBadRim 27 = .ok (.ifCond .eq 7, 3) := by decide +kernel
theorem dX7_isBadRim_30 : decode cX7_isBadRim 30 = .ok (.iconst 1, 1) := by decide +kernel
theorem dX7_isBadRim_31 : decode cX7_isBadRim 31 = .ok (.goto 4, 3) := by decide +kernel
theorem dX7_isBadRim_34 : decode cX7_isBadRim 34 = .ok (.iconst 0, 1) := by decide +kernel
theorem dX7_isBadRim_35 : decode cX7_isBadRim 35 = .ok (.istore 4, 2) := by decide +kernel
theorem dX7_isBadRim_37 : decode cX7_isBadRim 37 = .ok (.aload_n 0, 1) := by decide +kernel
theorem dX7_isBadRim_38 : decode cX7_isBadRim 38 = .ok (.getfield 7, 3) := by decide +kernel
theorem dX7_isBadRim_41 : decode cX7_isBadRim 41 = .ok (.iconst 2, 1) := by decide +kernel
theorem dX7_isBadRim_42 : decode cX7_isBadRim 42 = .ok (.iaload, 1) := by decide +kernel
theorem dX7_isBadRim_43 : decode cX7_isBadRim 43 = .ok (.ifCond .le 22, 3) := by decide +kernel
theorem dX7_isBadRim_46 : decode cX7_isBadRim 46 = .ok (.aload_n 0, 1) := by decide +kernel
theorem dX7_isBadRim_47 : decode cX7_isBadRim 47 = .ok (.iload_n 1, 1) := by decide +kernel
theorem dX7_isBadRim_48 : decode cX7_isBadRim 48 = .ok (.iload_n 3, 1) := by decide +kernel
theorem dX7_isBadRim_49 : decode cX7_isBadRim 49 = .ok (.invokevirtual 54, 3) := by decide +kernel
theorem dX7_isBadRim_52 : decode cX7_isBadRim 52 = .ok (.iconst (-1), 1) := by decide +kernel
theorem dX7_isBadRim_53 : decode cX7_isBadRim 53 = .ok (.if_icmp .ne 12, 3) := by decide +kernel
theorem dX7_isBadRim_56 : decode cX7_isBadRim 56 = .ok (.iload 4, 2) := by decide +kernel
theorem dX7_isBadRim_58 : decode cX7_isBadRim 58 = .ok (.ifCond .eq 7, 3) := by decide +kernel
theorem dX7_isBadRim_61 : decode cX7_isBadRim 61 = .ok (.iconst 1, 1) := by decide +kernel
theorem dX7_isBadRim_62 : decode cX7_isBadRim 62 = .ok (.goto 4, 3) := by decide +kernel
theorem dX7_isBadRim_65 : decode cX7_isBadRim 65 = .ok (.iconst 0, 1) := by decide +kernel
theorem dX7_isBadRim_66 : decode cX7_isBadRim 66 = .ok (.ireturn, 1) := by decide +kernel
set_option maxRecDepth 20000 in
theorem ggX7_isUnlike_X7_shown : GoodIn wsX7_isUnlike wsX7_shown := goodIn_r _ [5, 6, 7, 8, 9, 4, 10, 11, 12, 13, 14, 15, 16, 17, 18, 19, 20, 21, 22, 23, 24, 25, 26, 27, 28, 29, 30, 31, 32, 33, 34] (by decide +kernel) (by decide +kernel)
set_option maxRecDepth 20000 in
theorem gX7_isUnlike_X7_shown : GoodIn wsX7_isUnlike (wsV RX7 62 RX7 yX7_shown wsX7_shown) := goodIn_app (goodIn_of _ (by decide +kernel)) ggX7_isUnlike_X7_shown
set_option maxRecDepth 20000 in
theorem ggX7_isUnlike_X7_colorOf : GoodIn wsX7_isUnlike wsX7_colorOf := goodIn_r _ [14, 15, 16, 17, 4, 18, 6, 19, 20, 21, 22, 23, 24, 25, 26, 27, 28, 29, 30, 31, 32, 33, 34] (by decide +kernel) (by decide +kernel)
set_option maxRecDepth 20000 in
theorem gX7_isUnlike_X7_colorOf : GoodIn wsX7_isUnlike (wsV RX7 58 RX7 yX7_colorOf wsX7_colorOf) := goodIn_app (goodIn_of _ (by decide +kernel)) ggX7_isUnlike_X7_colorOf
theorem dX7_isUnlike_0 : decode cX7_isUnlike 0 = .ok (.aload_n 0, 1) := by decide +kernel
theorem dX7_isUnlike_1 : decode cX7_isUnlike 1 = .ok (.iload_n 1, 1) := by decide +kernel
theorem dX7_isUnlike_2 : decode cX7_isUnlike 2 = .ok (.iload_n 3, 1) := by decide +kernel
theorem dX7_isUnlike_3 : decode cX7_isUnlike 3 = .ok (.iload 4, 2) := by decide +kernel
theorem dX7_isUnlike_5 : decode cX7_isUnlike 5 = .ok (.invokevirtual 62, 3) := by decide +kernel
theorem dX7_isUnlike_8 : decode cX7_isUnlike 8 = .ok (.istore 5, 2) := by decide +kernel
theorem dX7_isUnlike_10 : decode cX7_isUnlike 10 = .ok (.iload 5, 2) := by decide +kernel
theorem dX7_isUnlike_12 : decode cX7_isUnlike 12 = .ok (.iconst (-1), 1) := by decide +kernel
theorem dX7_isUnlike_13 : decode cX7_isUnlike 13 = .ok (.if_icmp .eq 20, 3) := by decide +kernel
theorem dX7_isUnlike_16 : decode cX7_isUnlike 16 = .ok (.iload 5, 2) := by decide +kernel
theorem dX7_isUnlike_18 : decode cX7_isUnlike 18 = .ok (.aload_n 0, 1) := by decide +kernel
theorem dX7_isUnlike_19 : decode cX7_isUnlike 19 = .ok (.iload_n 2, 1) := by decide +kernel
theorem dX7_isUnlike_20 : decode cX7_isUnlike 20 = .ok (.iload_n 3, 1) := by decide +kernel
theorem dX7_isUnlike_21 : decode cX7_isUnlike 21 = .ok (.iload 4, 2) := by decide +kernel
theorem dX7_isUnlike_23 : decode cX7_isUnlike 23 = .ok (.invokevirtual 58, 3) := by decide +kernel
theorem dX7_isUnlike_26 : decode cX7_isUnlike 26 = .ok (.if_icmp .eq 7, 3) := by decide +kernel
theorem dX7_isUnlike_29 : decode cX7_isUnlike 29 = .ok (.iconst 1, 1) := by decide +kernel
theorem dX7_isUnlike_30 : decode cX7_isUnlike 30 = .ok (.goto 4, 3) := by decide +kernel
theorem dX7_isUnlike_33 : decode cX7_isUnlike 33 = .ok (.iconst 0, 1) := by decide +kernel
theorem dX7_isUnlike_34 : decode cX7_isUnlike 34 = .ok (.ireturn, 1) := by decide +kernel
set_option maxRecDepth 20000 in
theorem ggX7_isBadZero_X7_colorOf : GoodIn wsX7_isBadZero wsX7_colorOf := goodIn_r _ [6, 7, 8, 9, 5, 10, 1, 19, 20, 21, 22, 23, 24, 25, 26, 27, 28, 29, 30, 31, 32, 33, 34] (by decide +kernel) (by decide +kernel)
set_option maxRecDepth 20000 in
theorem gX7_isBadZero_X7_colorOf : GoodIn wsX7_isBadZero (wsV RX7 58 RX7 yX7_colorOf wsX7_colorOf) := goodIn_app (goodIn_of _ (by decide +kernel)) ggX7_isBadZero_X7_colorOf
set_option maxRecDepth 20000 in
theorem ggX7_isBadZero_X7_shown : GoodIn wsX7_isBadZero wsX7_shown := goodIn_r _ [14, 1, 15, 16, 17, 5, 18, 2, 3, 4, 6, 7, 8, 9, 10, 19, 20, 21, 22, 23, 24, 25, 26, 27, 28, 29, 30, 31, 32, 33, 34] (by decide +kernel) (by decide +kernel)
set_option maxRecDepth 20000 in
theorem gX7_isBadZero_X7_shown : GoodIn wsX7_isBadZero (wsV RX7 62 RX7 yX7_shown wsX7_shown) := goodIn_app (goodIn_of _ (by decide +kernel)) ggX7_isBadZero_X7_shown
theorem dX7_isBadZero_0 : decode cX7_isBadZero 0 = .ok (.aload_n 0, 1) := by decide +kernel
theorem dX7_isBadZero_1 : decode cX7_isBadZero 1 = .ok (.iload_n 2, 1) := by decide +kernel
theorem dX7_isBadZero_2 : decode cX7_isBadZero 2 = .ok (.iload_n 3, 1) := by decide +kernel
theorem dX7_isBadZero_3 : decode cX7_isBadZero 3 = .ok (.iconst 0, 1) := by decide +kernel
theorem dX7_isBadZero_4 : decode cX7_isBadZero 4 = .ok (.invokevirtual 58, 3) := by decide +kernel
theorem dX7_isBadZero_7 : decode cX7_isBadZero 7 = .ok (.ifCond .eq 23, 3) := by decide +kernel
theorem dX7_isBadZero_10 : decode cX7_isBadZero 10 = .ok (.aload_n 0, 1) := by decide +kernel
theorem dX7_isBadZero_11 : decode cX7_isBadZero 11 = .ok (.getfield 7, 3) := by decide +kernel
theorem dX7_isBadZero_14 : decode cX7_isBadZero 14 = .ok (.iconst 2, 1) := by decide +kernel
theorem dX7_isBadZero_15 : decode cX7_isBadZero 15 = .ok (.iaload, 1) := by decide +kernel
theorem dX7_isBadZero_16 : decode cX7_isBadZero 16 = .ok (.iconst 2, 1) := by decide +kernel
theorem dX7_isBadZero_17 : decode cX7_isBadZero 17 = .ok (.if_icmp .ne 17, 3) := by decide +kernel
theorem dX7_isBadZero_20 : decode cX7_isBadZero 20 = .ok (.aload_n 0, 1) := by decide +kernel
theorem dX7_isBadZero_21 : decode cX7_isBadZero 21 = .ok (.iload_n 2, 1) := by decide +kernel
theorem dX7_isBadZero_22 : decode cX7_isBadZero 22 = .ok (.iload_n 3, 1) := by decide +kernel
theorem dX7_isBadZero_23 : decode cX7_isBadZero 23 = .ok (.iconst 1, 1) := by decide +kernel
theorem dX7_isBadZero_24 : decode cX7_isBadZero 24 = .ok (.invokevirtual 58, 3) := by decide +kernel
theorem dX7_isBadZero_27 : decode cX7_isBadZero 27 = .ok (.ifCond .ne 7, 3) := by decide +kernel
theorem dX7_isBadZero_30 : decode cX7_isBadZero 30 = .ok (.iconst 1, 1) := by decide +kernel
theorem dX7_isBadZero_31 : decode cX7_isBadZero 31 = .ok (.goto 4, 3) := by decide +kernel
theorem dX7_isBadZero_34 : decode cX7_isBadZero 34 = .ok (.iconst 0, 1) := by decide +kernel
theorem dX7_isBadZero_35 : decode cX7_isBadZero 35 = .ok (.istore 4, 2) := by decide +kernel
theorem dX7_isBadZero_37 : decode cX7_isBadZero 37 = .ok (.aload_n 0, 1) := by decide +kernel
theorem dX7_isBadZero_38 : decode cX7_isBadZero 38 = .ok (.getfield 7, 3) := by decide +kernel
theorem dX7_isBadZero_41 : decode cX7_isBadZero 41 = .ok (.iconst 2, 1) := by decide +kernel
theorem dX7_isBadZero_42 : decode cX7_isBadZero 42 = .ok (.iaload, 1) := by decide +kernel
theorem dX7_isBadZero_43 : decode cX7_isBadZero 43 = .ok (.ifCond .le 23, 3) := by decide +kernel
theorem dX7_isBadZero_46 : decode cX7_isBadZero 46 = .ok (.aload_n 0, 1) := by decide +kernel
theorem dX7_isBadZero_47 : decode cX7_isBadZero 47 = .ok (.iload_n 1, 1) := by decide +kernel
theorem dX7_isBadZero_48 : decode cX7_isBadZero 48 = .ok (.iload_n 3, 1) := by decide +kernel
theorem dX7_isBadZero_49 : decode cX7_isBadZero 49 = .ok (.iconst 0, 1) := by decide +kernel
theorem dX7_isBadZero_50 : decode cX7_isBadZero 50 = .ok (.invokevirtual 62, 3) := by decide +kernel
theorem dX7_isBadZero_53 : decode cX7_isBadZero 53 = .ok (.iconst (-1), 1) := by decide +kernel
theorem dX7_isBadZero_54 : decode cX7_isBadZero 54 = .ok (.if_icmp .eq 12, 3) := by decide +kernel
theorem dX7_isBadZero_57 : decode cX7_isBadZero 57 = .ok (.iload 4, 2) := by decide +kernel
theorem dX7_isBadZero_59 : decode cX7_isBadZero 59 = .ok (.ifCond .eq 7, 3) := by decide +kernel
theorem dX7_isBadZero_62 : decode cX7_isBadZero 62 = .ok (.iconst 1, 1) := by decide +kernel
theorem dX7_isBadZero_63 : decode cX7_isBadZero 63 = .ok (.goto 4, 3) := by decide +kernel
theorem dX7_isBadZero_66 : decode cX7_isBadZero 66 = .ok (.iconst 0, 1) := by decide +kernel
theorem dX7_isBadZero_67 : decode cX7_isBadZero 67 = .ok (.ireturn, 1) := by decide +kernel
set_option maxRecDepth 20000 in
theorem ggX7_misfit_X7_isBadRim : GoodIn wsX7_misfit wsX7_isBadRim := goodIn_r _ [5, 6, 7, 8, 9, 4, 10, 11, 12, 13, 14, 15, 16, 17, 18, 31, 32, 33, 34, 35, 36, 37, 38, 39, 40, 41, 42, 43, 44, 45, 46] (by decide +kernel) (by decide +kernel)
set_option maxRecDepth 20000 in
theorem gX7_misfit_X7_isBadRim : GoodIn wsX7_misfit (wsV RX7 65 RX7 yX7_isBadRim wsX7_isBadRim) := goodIn_app (goodIn_of _ (by decide +kernel)) ggX7_misfit_X7_isBadRim
set_option maxRecDepth 20000 in
theorem ggX7_misfit_X7_isUnlike : GoodIn wsX7_misfit wsX7_isUnlike := goodIn_r _ [22, 23, 24, 25, 4, 26, 6, 15, 16, 17, 18, 7, 8, 9, 10, 11, 12, 13, 14, 31, 32, 33, 34, 35, 36, 37, 38, 39, 40, 41, 42, 43, 44, 45, 46] (by decide +kernel) (by decide +kernel)
set_option maxRecDepth 20000 in
theorem gX7_misfit_X7_isUnlike : GoodIn wsX7_misfit (wsV RX7 68 RX7 yX7_isUnlike wsX7_isUnlike) := goodIn_app (goodIn_of _ (by decide +kernel)) ggX7_misfit_X7_isUnlike
set_option maxRecDepth 20000 in
theorem ggX7_misfit_X7_isBadZero : GoodIn wsX7_misfit wsX7_isBadZero := goodIn_r _ [30, 6, 7, 8, 9, 4, 10, 11, 12, 13, 14, 23, 24, 25, 26, 15, 16, 17, 18, 31, 32, 33, 34, 35, 36, 37, 38, 39, 40, 41, 42, 43, 44, 45, 46] (by decide +kernel) (by decide +kernel)
set_option maxRecDepth 20000 in
theorem gX7_misfit_X7_isBadZero : GoodIn wsX7_misfit (wsV RX7 72 RX7 yX7_isBadZero wsX7_isBadZero) := goodIn_app (goodIn_of _ (by decide +kernel)) ggX7_misfit_X7_isBadZero
theorem dX7_misfit_0 : decode cX7_misfit 0 = .ok (.bipush 7, 2) := by decide +kernel
theorem dX7_misfit_2 : decode cX7_misfit 2 = .ok (.istore_n 3, 1) := by decide +kernel
theorem dX7_misfit_3 : decode cX7_misfit 3 = .ok (.iconst 0, 1) := by decide +kernel
theorem dX7_misfit_4 : decode cX7_misfit 4 = .ok (.istore 4, 2) := by decide +kernel
theorem dX7_misfit_6 : decode cX7_misfit 6 = .ok (.iload 4, 2) := by decide +kernel
theorem dX7_misfit_8 : decode cX7_misfit 8 = .ok (.iconst 4, 1) := by decide +kernel
theorem dX7_misfit_9 : decode cX7_misfit 9 = .ok (.if_icmp .ge 89, 3) := by decide +kernel
theorem dX7_misfit_12 : decode cX7_misfit 12 = .ok (.aload_n 0, 1) := by decide +kernel
theorem dX7_misfit_13 : decode cX7_misfit 13 = .ok (.iload_n 1, 1) := by decide +kernel
theorem dX7_misfit_14 : decode cX7_misfit 14 = .ok (.iload_n 2, 1) := by decide +kernel
theorem dX7_misfit_15 : decode cX7_misfit 15 = .ok (.iload 4, 2) := by decide +kernel
theorem dX7_misfit_17 : decode cX7_misfit 17 = .ok (.invokevirtual 65, 3) := by decide +kernel
theorem dX7_misfit_20 : decode cX7_misfit 20 = .ok (.ifCond .eq 7, 3) := by decide +kernel
theorem dX7_misfit_23 : decode cX7_misfit 23 = .ok (.iconst 3, 1) := by decide +kernel
theorem dX7_misfit_24 : decode cX7_misfit 24 = .ok (.goto 53, 3) := by decide +kernel
theorem dX7_misfit_27 : decode cX7_misfit 27 = .ok (.aload_n 0, 1) := by decide +kernel
theorem dX7_misfit_28 : decode cX7_misfit 28 = .ok (.iload_n 1, 1) := by decide +kernel
theorem dX7_misfit_29 : decode cX7_misfit 29 = .ok (.iload_n 2, 1) := by decide +kernel
theorem dX7_misfit_30 : decode cX7_misfit 30 = .ok (.iload 4, 2) := by decide +kernel
theorem dX7_misfit_32 : decode cX7_misfit 32 = .ok (.iconst 0, 1) := by decide +kernel
theorem dX7_misfit_33 : decode cX7_misfit 33 = .ok (.invokevirtual 68, 3) := by decide +kernel
theorem dX7_misfit_36 : decode cX7_misfit 36 = .ok (.ifCond .eq 7, 3) := by decide +kernel
theorem dX7_misfit_39 : decode cX7_misfit 39 = .ok (.iconst 4, 1) := by decide +kernel
theorem dX7_misfit_40 : decode cX7_misfit 40 = .ok (.goto 37, 3) := by decide +kernel
theorem dX7_misfit_43 : decode cX7_misfit 43 = .ok (.aload_n 0, 1) := by decide +kernel
theorem dX7_misfit_44 : decode cX7_misfit 44 = .ok (.iload_n 1, 1) := by decide +kernel
theorem dX7_misfit_45 : decode cX7_misfit 45 = .ok (.iload_n 2, 1) := by decide +kernel
theorem dX7_misfit_46 : decode cX7_misfit 46 = .ok (.iload 4, 2) := by decide +kernel
theorem dX7_misfit_48 : decode cX7_misfit 48 = .ok (.iconst 1, 1) := by decide +kernel
theorem dX7_misfit_49 : decode cX7_misfit 49 = .ok (.invokevirtual 68, 3) := by decide +kernel
theorem dX7_misfit_52 : decode cX7_misfit 52 = .ok (.ifCond .eq 7, 3) := by decide +kernel
theorem dX7_misfit_55 : decode cX7_misfit 55 = .ok (.iconst 5, 1) := by decide +kernel
theorem dX7_misfit_56 : decode cX7_misfit 56 = .ok (.goto 21, 3) := by decide +kernel
theorem dX7_misfit_59 : decode cX7_misfit 59 = .ok (.aload_n 0, 1) := by decide +kernel
theorem dX7_misfit_60 : decode cX7_misfit 60 = .ok (.iload_n 1, 1) := by decide +kernel
theorem dX7_misfit_61 : decode cX7_misfit 61 = .ok (.iload_n 2, 1) := by decide +kernel
theorem dX7_misfit_62 : decode cX7_misfit 62 = .ok (.iload 4, 2) := by decide +kernel
theorem dX7_misfit_64 : decode cX7_misfit 64 = .ok (.invokevirtual 72, 3) := by decide +kernel
theorem dX7_misfit_67 : decode cX7_misfit 67 = .ok (.ifCond .eq 8, 3) := by decide +kernel
theorem dX7_misfit_70 : decode cX7_misfit 70 = .ok (.bipush 6, 2) := by decide +kernel
theorem dX7_misfit_72 : decode cX7_misfit 72 = .ok (.goto 5, 3) := by decide +kernel
theorem dX7_misfit_75 : decode cX7_misfit 75 = .ok (.bipush 7, 2) := by decide +kernel
theorem dX7_misfit_77 : decode cX7_misfit 77 = .ok (.istore 5, 2) := by decide +kernel
theorem dX7_misfit_79 : decode cX7_misfit 79 = .ok (.iload 5, 2) := by decide +kernel
theorem dX7_misfit_81 : decode cX7_misfit 81 = .ok (.iload_n 3, 1) := by decide +kernel
theorem dX7_misfit_82 : decode cX7_misfit 82 = .ok (.if_icmp .ge 8, 3) := by decide +kernel
theorem dX7_misfit_85 : decode cX7_misfit 85 = .ok (.iload 5, 2) := by decide +kernel
theorem dX7_misfit_87 : decode cX7_misfit 87 = .ok (.goto 4, 3) := by decide +kernel
theorem dX7_misfit_90 : decode cX7_misfit 90 = .ok (.iload_n 3, 1) := by decide +kernel
theorem dX7_misfit_91 : decode cX7_misfit 91 = .ok (.istore_n 3, 1) := by decide +kernel
theorem dX7_misfit_92 : decode cX7_misfit 92 = .ok (.iinc 4 1, 3) := by decide +kernel
theorem dX7_misfit_95 : decode cX7_misfit 95 = .ok (.goto (-89), 3) := by decide +kernel
theorem dX7_misfit_98 : decode cX7_misfit 98 = .ok (.iload_n 3, 1) := by decide +kernel
theorem dX7_misfit_99 : decode cX7_misfit 99 = .ok (.bipush 7, 2) := by decide +kernel
theorem dX7_misfit_101 : decode cX7_misfit 101 = .ok (.if_icmp .ne 7, 3) := by decide +kernel
theorem dX7_misfit_104 : decode cX7_misfit 104 = .ok (.iconst 0, 1) := by decide +kernel
theorem dX7_misfit_105 : decode cX7_misfit 105 = .ok (.goto 4, 3) := by decide +kernel
theorem dX7_misfit_108 : decode cX7_misfit 108 = .ok (.iload_n 3, 1) := by decide +kernel
theorem dX7_misfit_109 : decode cX7_misfit 109 = .ok (.ireturn, 1) := by decide +kernel
set_option maxRecDepth 20000 in
theorem ggX7_cellOf_X7_cells : GoodIn wsX7_cellOf wsX7_cells := goodIn_r _ [6, 1, 7, 8, 9, 10, 11, 12, 13, 14, 15, 16, 17, 18, 19, 20, 21, 22] (by decide +kernel) (by decide +kernel)
set_option maxRecDepth 20000 in
theorem gX7_cellOf_X7_cells : GoodIn wsX7_cellOf (wsV RX7 38 RX7 yX7_cells wsX7_cells) := goodIn_app (goodIn_of _ (by decide +kernel)) ggX7_cellOf_X7_cells
theorem dX7_cellOf_0 : decode cX7_cellOf 0 = .ok (.iconst (-1), 1) := by decide +kernel
theorem dX7_cellOf_1 : decode cX7_cellOf 1 = .ok (.istore_n 2, 1) := by decide +kernel
theorem dX7_cellOf_2 : decode cX7_cellOf 2 = .ok (.iconst 0, 1) := by decide +kernel
theorem dX7_cellOf_3 : decode cX7_cellOf 3 = .ok (.istore_n 3, 1) := by decide +kernel
theorem dX7_cellOf_4 : decode cX7_cellOf 4 = .ok (.iload_n 3, 1) := by decide +kernel
theorem dX7_cellOf_5 : decode cX7_cellOf 5 = .ok (.aload_n 0, 1) := by decide +kernel
theorem dX7_cellOf_6 : decode cX7_cellOf 6 = .ok (.invokevirtual 38, 3) := by decide +kernel
theorem dX7_cellOf_9 : decode cX7_cellOf 9 = .ok (.if_icmp .ge 44, 3) := by decide +kernel
theorem dX7_cellOf_12 : decode cX7_cellOf 12 = .ok (.aload_n 0, 1) := by decide +kernel
theorem dX7_cellOf_13 : decode cX7_cellOf 13 = .ok (.getfield 7, 3) := by decide +kernel
theorem dX7_cellOf_16 : decode cX7_cellOf 16 = .ok (.bipush 28, 2) := by decide +kernel
theorem dX7_cellOf_18 : decode cX7_cellOf 18 = .ok (.iload_n 3, 1) := by decide +kernel
theorem dX7_cellOf_19 : decode cX7_cellOf 19 = .ok (.iadd, 1) := by decide +kernel
theorem dX7_cellOf_20 : decode cX7_cellOf 20 = .ok (.iaload, 1) := by decide +kernel
theorem dX7_cellOf_21 : decode cX7_cellOf 21 = .ok (.iconst (-1), 1) := by decide +kernel
theorem dX7_cellOf_22 : decode cX7_cellOf 22 = .ok (.if_icmp .eq 23, 3) := by decide +kernel
theorem dX7_cellOf_25 : decode cX7_cellOf 25 = .ok (.aload_n 0, 1) := by decide +kernel
theorem dX7_cellOf_26 : decode cX7_cellOf 26 = .ok (.getfield 7, 3) := by decide +kernel
theorem dX7_cellOf_29 : decode cX7_cellOf 29 = .ok (.bipush 28, 2) := by decide +kernel
theorem dX7_cellOf_31 : decode cX7_cellOf 31 = .ok (.iload_n 3, 1) := by decide +kernel
theorem dX7_cellOf_32 : decode cX7_cellOf 32 = .ok (.iadd, 1) := by decide +kernel
theorem dX7_cellOf_33 : decode cX7_cellOf 33 = .ok (.iaload, 1) := by decide +kernel
theorem dX7_cellOf_34 : decode cX7_cellOf 34 = .ok (.bipush 8, 2) := by decide +kernel
theorem dX7_cellOf_36 : decode cX7_cellOf 36 = .ok (.idiv, 1) := by decide +kernel
theorem dX7_cellOf_37 : decode cX7_cellOf 37 = .ok (.iload_n 1, 1) := by decide +kernel
theorem dX7_cellOf_38 : decode cX7_cellOf 38 = .ok (.if_icmp .ne 7, 3) := by decide +kernel
theorem dX7_cellOf_41 : decode cX7_cellOf 41 = .ok (.iload_n 3, 1) := by decide +kernel
theorem dX7_cellOf_42 : decode cX7_cellOf 42 = .ok (.goto 4, 3) := by decide +kernel
theorem dX7_cellOf_45 : decode cX7_cellOf 45 = .ok (.iload_n 2, 1) := by decide +kernel
theorem dX7_cellOf_46 : decode cX7_cellOf 46 = .ok (.istore_n 2, 1) := by decide +kernel
theorem dX7_cellOf_47 : decode cX7_cellOf 47 = .ok (.iinc 3 1, 3) := by decide +kernel
theorem dX7_cellOf_50 : decode cX7_cellOf 50 = .ok (.goto (-46), 3) := by decide +kernel
theorem dX7_cellOf_53 : decode cX7_cellOf 53 = .ok (.iload_n 2, 1) := by decide +kernel
theorem dX7_cellOf_54 : decode cX7_cellOf 54 = .ok (.ireturn, 1) := by decide +kernel
set_option maxRecDepth 20000 in
theorem ggX7_whyNot_X7_cellOf : GoodIn wsX7_whyNot wsX7_cellOf := goodIn_r _ [6, 1, 7, 8, 9, 5, 10, 43, 44, 45, 46, 47, 48, 49, 50, 51, 52, 53, 54, 55, 56, 57, 58] (by decide +kernel) (by decide +kernel)
set_option maxRecDepth 20000 in
theorem gX7_whyNot_X7_cellOf : GoodIn wsX7_whyNot (wsV RX7 75 RX7 yX7_cellOf wsX7_cellOf) := goodIn_app (goodIn_of _ (by decide +kernel)) ggX7_whyNot_X7_cellOf
set_option maxRecDepth 20000 in
theorem ggX7_whyNot_X7_misfit : GoodIn wsX7_whyNot wsX7_misfit := goodIn_r _ [14, 15, 16, 17, 5, 18, 1, 19, 20, 21, 22, 23, 24, 25, 26, 27, 28, 29, 30, 31, 32, 33, 34, 35, 36, 37, 38, 39, 40, 41, 42, 43, 44, 45, 46, 47, 48, 49, 50, 51, 52, 53, 54, 55, 56, 57, 58] (by decide +kernel) (by decide +kernel)
set_option maxRecDepth 20000 in
theorem gX7_whyNot_X7_misfit : GoodIn wsX7_whyNot (wsV RX7 79 RX7 yX7_misfit wsX7_misfit) := goodIn_app (goodIn_of _ (by decide +kernel)) ggX7_whyNot_X7_misfit
theorem dX7_whyNot_0 : decode cX7_whyNot 0 = .ok (.aload_n 0, 1) := by decide +kernel
theorem dX7_whyNot_1 : decode cX7_whyNot 1 = .ok (.getfield 7, 3) := by decide +kernel
theorem dX7_whyNot_4 : decode cX7_whyNot 4 = .ok (.bipush 28, 2) := by decide +kernel
theorem dX7_whyNot_6 : decode cX7_whyNot 6 = .ok (.iload_n 1, 1) := by decide +kernel
theorem dX7_whyNot_7 : decode cX7_whyNot 7 = .ok (.iadd, 1) := by decide +kernel
theorem dX7_whyNot_8 : decode cX7_whyNot 8 = .ok (.iaload, 1) := by decide +kernel
theorem dX7_whyNot_9 : decode cX7_whyNot 9 = .ok (.iconst (-1), 1) := by decide +kernel
theorem dX7_whyNot_10 : decode cX7_whyNot 10 = .ok (.if_icmp .eq 7, 3) := by decide +kernel
theorem dX7_whyNot_13 : decode cX7_whyNot 13 = .ok (.iconst 1, 1) := by decide +kernel
theorem dX7_whyNot_14 : decode cX7_whyNot 14 = .ok (.goto 25, 3) := by decide +kernel
theorem dX7_whyNot_17 : decode cX7_whyNot 17 = .ok (.aload_n 0, 1) := by decide +kernel
theorem dX7_whyNot_18 : decode cX7_whyNot 18 = .ok (.iload_n 2, 1) := by decide +kernel
theorem dX7_whyNot_19 : decode cX7_whyNot 19 = .ok (.bipush 8, 2) := by decide +kernel
theorem dX7_whyNot_21 : decode cX7_whyNot 21 = .ok (.idiv, 1) := by decide +kernel
theorem dX7_whyNot_22 : decode cX7_whyNot 22 = .ok (.invokevirtual 75, 3) := by decide +kernel
theorem dX7_whyNot_25 : decode cX7_whyNot 25 = .ok (.iconst (-1), 1) := by decide +kernel
theorem dX7_whyNot_26 : decode cX7_whyNot 26 = .ok (.if_icmp .eq 7, 3) := by decide +kernel
theorem dX7_whyNot_29 : decode cX7_whyNot 29 = .ok (.iconst 2, 1) := by decide +kernel
theorem dX7_whyNot_30 : decode cX7_whyNot 30 = .ok (.goto 9, 3) := by decide +kernel
theorem dX7_whyNot_33 : decode cX7_whyNot 33 = .ok (.aload_n 0, 1) := by decide +kernel
theorem dX7_whyNot_34 : decode cX7_whyNot 34 = .ok (.iload_n 1, 1) := by decide +kernel
theorem dX7_whyNot_35 : decode cX7_whyNot 35 = .ok (.iload_n 2, 1) := by decide +kernel
theorem dX7_whyNot_36 : decode cX7_whyNot 36 = .ok (.invokevirtual 79, 3) := by decide +kernel
theorem dX7_whyNot_39 : decode cX7_whyNot 39 = .ok (.ireturn, 1) := by decide +kernel
set_option maxRecDepth 20000 in
theorem ggX7_possibleFrom_X7_whyNot : GoodIn wsX7_possibleFrom wsX7_whyNot := goodIn_r _ [6, 1, 7, 8, 9, 5, 10, 11, 12, 13, 14, 15, 16, 17, 18, 19, 20, 21, 22, 23, 24, 25, 26, 27, 28, 29, 30, 31, 32, 33, 34, 35, 36, 37, 38, 39, 40, 41, 42, 43, 44, 45, 46, 47, 48, 49, 50, 51, 52, 53, 54, 55, 56, 57, 58, 59, 60, 61, 62] (by decide +kernel) (by decide +kernel)
set_option maxRecDepth 20000 in
theorem gX7_possibleFrom_X7_whyNot : GoodIn wsX7_possibleFrom (wsV RX7 82 RX7 yX7_whyNot wsX7_whyNot) := goodIn_app (goodIn_of _ (by decide +kernel)) ggX7_possibleFrom_X7_whyNot
theorem dX7_possibleFrom_0 : decode cX7_possibleFrom 0 = .ok (.iload_n 2, 1) := by decide +kernel
theorem dX7_possibleFrom_1 : decode cX7_possibleFrom 1 = .ok (.istore_n 3, 1) := by decide +kernel
theorem dX7_possibleFrom_2 : decode cX7_possibleFrom 2 = .ok (.iload_n 3, 1) := by decide +kernel
theorem dX7_possibleFrom_3 : decode cX7_possibleFrom 3 = .ok (.bipush 8, 2) := by decide +kernel
theorem dX7_possibleFrom_5 : decode cX7_possibleFrom 5 = .ok (.aload_n 0, 1) := by decide +kernel
theorem dX7_possibleFrom_6 : decode cX7_possibleFrom 6 = .ok (.getfield 7, 3) := by decide +kernel
theorem dX7_possibleFrom_9 : decode cX7_possibleFrom 9 = .ok (.iconst 3, 1) := by decide +kernel
theorem dX7_possibleFrom_10 : decode cX7_possibleFrom 10 = .ok (.iaload, 1) := by decide +kernel
theorem dX7_possibleFrom_11 : decode cX7_possibleFrom 11 = .ok (.imul, 1) := by decide +kernel
theorem dX7_possibleFrom_12 : decode cX7_possibleFrom 12 = .ok (.if_icmp .ge 20, 3) := by decide +kernel
theorem dX7_possibleFrom_15 : decode cX7_possibleFrom 15 = .ok (.aload_n 0, 1) := by decide +kernel
theorem dX7_possibleFrom_16 : decode cX7_possibleFrom 16 = .ok (.iload_n 1, 1) := by decide +kernel
theorem dX7_possibleFrom_17 : decode cX7_possibleFrom 17 = .ok (.iload_n 3, 1) := by decide +kernel
theorem dX7_possibleFrom_18 : decode cX7_possibleFrom 18 = .ok (.invokevirtual 82, 3) := by decide +kernel
theorem dX7_possibleFrom_21 : decode cX7_possibleFrom 21 = .ok (.ifCond .ne 5, 3) := by decide +kernel
theorem dX7_possibleFrom_24 : decode cX7_possibleFrom 24 = .ok (.iload_n 3, 1) := by decide +kernel
theorem dX7_possibleFrom_25 : decode cX7_possibleFrom 25 = .ok (.ireturn, 1) := by decide +kernel
theorem dX7_possibleFrom_26 : decode cX7_possibleFrom 26 = .ok (.iinc 3 1, 3) := by decide +kernel
theorem dX7_possibleFrom_29 : decode cX7_possibleFrom 29 = .ok (.goto (-27), 3) := by decide +kernel
theorem dX7_possibleFrom_32 : decode cX7_possibleFrom 32 = .ok (.iconst (-1), 1) := by decide +kernel
theorem dX7_possibleFrom_33 : decode cX7_possibleFrom 33 = .ok (.ireturn, 1) := by decide +kernel
set_option maxRecDepth 20000 in
theorem ggX7_possibleMany_X7_whyNot : GoodIn wsX7_possibleMany wsX7_whyNot := goodIn_r _ [6, 1, 7, 8, 9, 5, 10, 11, 12, 13, 14, 15, 16, 17, 18, 19, 20, 21, 22, 23, 24, 25, 26, 27, 28, 29, 30, 31, 32, 33, 34, 35, 36, 37, 38, 39, 40, 41, 42, 43, 44, 45, 46, 47, 48, 49, 50, 51, 52, 53, 54, 55, 56, 57, 58, 59, 60, 61, 62] (by decide +kernel) (by decide +kernel)
set_option maxRecDepth 20000 in
theorem gX7_possibleMany_X7_whyNot : GoodIn wsX7_possibleMany (wsV RX7 82 RX7 yX7_whyNot wsX7_whyNot) := goodIn_app (goodIn_of _ (by decide +kernel)) ggX7_possibleMany_X7_whyNot
theorem dX7_possibleMany_0 : decode cX7_possibleMany 0 = .ok (.iconst 0, 1) := by decide +kernel
theorem dX7_possibleMany_1 : decode cX7_possibleMany 1 = .ok (.istore_n 2, 1) := by decide +kernel
theorem dX7_possibleMany_2 : decode cX7_possibleMany 2 = .ok (.iconst 0, 1) := by decide +kernel
theorem dX7_possibleMany_3 : decode cX7_possibleMany 3 = .ok (.istore_n 3, 1) := by decide +kernel
theorem dX7_possibleMany_4 : decode cX7_possibleMany 4 = .ok (.iload_n 3, 1) := by decide +kernel
theorem dX7_possibleMany_5 : decode cX7_possibleMany 5 = .ok (.bipush 8, 2) := by decide +kernel
theorem dX7_possibleMany_7 : decode cX7_possibleMany 7 = .ok (.aload_n 0, 1) := by decide +kernel
theorem dX7_possibleMany_8 : decode cX7_possibleMany 8 = .ok (.getfield 7, 3) := by decide +kernel
theorem dX7_possibleMany_11 : decode cX7_possibleMany 11 = .ok (.iconst 3, 1) := by decide +kernel
theorem dX7_possibleMany_12 : decode cX7_possibleMany 12 = .ok (.iaload, 1) := by decide +kernel
theorem dX7_possibleMany_13 : decode cX7_possibleMany 13 = .ok (.imul, 1) := by decide +kernel
theorem dX7_possibleMany_14 : decode cX7_possibleMany 14 = .ok (.if_icmp .ge 26, 3) := by decide +kernel
theorem dX7_possibleMany_17 : decode cX7_possibleMany 17 = .ok (.iload_n 2, 1) := by decide +kernel
theorem dX7_possibleMany_18 : decode cX7_possibleMany 18 = .ok (.aload_n 0, 1) := by decide +kernel
theorem dX7_possibleMany_19 : decode cX7_possibleMany 19 = .ok (.iload_n 1, 1) := by decide +kernel
theorem dX7_possibleMany_20 : decode cX7_possibleMany 20 = .ok (.iload_n 3, 1) := by decide +kernel
theorem dX7_possibleMany_21 : decode cX7_possibleMany 21 = .ok (.invokevirtual 82, 3) := by decide +kernel
theorem dX7_possibleMany_24 : decode cX7_possibleMany 24 = .ok (.ifCond .ne 7, 3) := by decide +kernel
theorem dX7_possibleMany_27 : decode cX7_possibleMany 27 = .ok (.iconst 1, 1) := by decide +kernel
theorem dX7_possibleMany_28 : decode cX7_possibleMany 28 = .ok (.goto 4, 3) := by decide +kernel
theorem dX7_possibleMany_31 : decode cX7_possibleMany 31 = .ok (.iconst 0, 1) := by decide +kernel
theorem dX7_possibleMany_32 : decode cX7_possibleMany 32 = .ok (.iadd, 1) := by decide +kernel
theorem dX7_possibleMany_33 : decode cX7_possibleMany 33 = .ok (.istore_n 2, 1) := by decide +kernel
theorem dX7_possibleMany_34 : decode cX7_possibleMany 34 = .ok (.iinc 3 1, 3) := by decide +kernel
theorem dX7_possibleMany_37 : decode cX7_possibleMany 37 = .ok (.goto (-33), 3) := by decide +kernel
theorem dX7_possibleMany_40 : decode cX7_possibleMany 40 = .ok (.iload_n 2, 1) := by decide +kernel
theorem dX7_possibleMany_41 : decode cX7_possibleMany 41 = .ok (.ireturn, 1) := by decide +kernel
set_option maxRecDepth 20000 in
theorem ggX7_search_X7_cells : GoodIn wsX7_search wsX7_cells := goodIn_r _ [10, 1, 55, 56, 57, 58, 59, 60, 61, 62, 63, 64, 65, 66, 67, 68, 69, 70] (by decide +kernel) (by decide +kernel)
set_option maxRecDepth 20000 in
theorem gX7_search_X7_cells : GoodIn wsX7_search (wsV RX7 38 RX7 yX7_cells wsX7_cells) := goodIn_app (goodIn_of _ (by decide +kernel)) ggX7_search_X7_cells
set_option maxRecDepth 20000 in
theorem ggX7_search_X7_possibleFrom : GoodIn wsX7_search wsX7_possibleFrom := goodIn_r _ [14, 1, 15, 16, 17, 9, 18, 19, 20, 21, 22, 6, 7, 8, 10, 23, 24, 25, 26, 27, 28, 29, 30, 31, 32, 33, 34, 35, 36, 37, 38, 39, 40, 41, 42, 43, 44, 45, 46, 47, 48, 49, 50, 51, 52, 53, 54, 55, 56, 57, 58, 59, 60, 61, 62, 63, 64, 65, 66, 67, 68, 69, 70] (by decide +kernel) (by decide +kernel)
set_option maxRecDepth 20000 in
theorem gX7_search_X7_possibleFrom : GoodIn wsX7_search (wsV RX7 95 RX7 yX7_possibleFrom wsX7_possibleFrom) := goodIn_app (goodIn_of _ (by decide +kernel)) ggX7_search_X7_possibleFrom
theorem dX7_search_0 : decode cX7_search 0 = .ok (.iconst 0, 1) := by decide +kernel
theorem dX7_search_1 : decode cX7_search 1 = .ok (.istore_n 3, 1) := by decide +kernel
theorem dX7_search_2 : decode cX7_search 2 = .ok (.iconst 0, 1) := by decide +kernel
theorem dX7_search_3 : decode cX7_search 3 = .ok (.istore 4, 2) := by decide +kernel
theorem dX7_search_5 : decode cX7_search 5 = .ok (.iload 4, 2) := by decide +kernel
theorem dX7_search_7 : decode cX7_search 7 = .ok (.aload_n 0, 1) := by decide +kernel
theorem dX7_search_8 : decode cX7_search 8 = .ok (.invokevirtual 38, 3) := by decide +kernel
theorem dX7_search_11 : decode cX7_search 11 = .ok (.if_icmp .ge 34, 3) := by decide +kernel
theorem dX7_search_14 : decode cX7_search 14 = .ok (.aload_n 0, 1) := by decide +kernel
theorem dX7_search_15 : decode cX7_search 15 = .ok (.getfield 7, 3) := by decide +kernel
theorem dX7_search_18 : decode cX7_search 18 = .ok (.bipush 28, 2) := by decide +kernel
theorem dX7_search_20 : decode cX7_search 20 = .ok (.iload 4, 2) := by decide +kernel
theorem dX7_search_22 : decode cX7_search 22 = .ok (.iadd, 1) := by decide +kernel
theorem dX7_search_23 : decode cX7_search 23 = .ok (.iaload, 1) := by decide +kernel
theorem dX7_search_24 : decode cX7_search 24 = .ok (.iconst (-1), 1) := by decide +kernel
theorem dX7_search_25 : decode cX7_search 25 = .ok (.if_icmp .ne 14, 3) := by decide +kernel
theorem dX7_search_28 : decode cX7_search 28 = .ok (.aload_n 0, 1) := by decide +kernel
theorem dX7_search_29 : decode cX7_search 29 = .ok (.getfield 19, 3) := by decide +kernel
theorem dX7_search_32 : decode cX7_search 32 = .ok (.iload_n 3, 1) := by decide +kernel
theorem dX7_search_33 : decode cX7_search 33 = .ok (.iload 4, 2) := by decide +kernel
theorem dX7_search_35 : decode cX7_search 35 = .ok (.iastore, 1) := by decide +kernel
theorem dX7_search_36 : decode cX7_search 36 = .ok (.iinc 3 1, 3) := by decide +kernel
theorem dX7_search_39 : decode cX7_search 39 = .ok (.iinc 4 1, 3) := by decide +kernel
theorem dX7_search_42 : decode cX7_search 42 = .ok (.goto (-37), 3) := by decide +kernel
theorem dX7_search_45 : decode cX7_search 45 = .ok (.aload_n 0, 1) := by decide +kernel
theorem dX7_search_46 : decode cX7_search 46 = .ok (.iload_n 3, 1) := by decide +kernel
theorem dX7_search_47 : decode cX7_search 47 = .ok (.ifCond .ne 7, 3) := by decide +kernel
theorem dX7_search_50 : decode cX7_search 50 = .ok (.iconst 1, 1) := by decide +kernel
theorem dX7_search_51 : decode cX7_search 51 = .ok (.goto 4, 3) := by decide +kernel
theorem dX7_search_54 : decode cX7_search 54 = .ok (.iconst 0, 1) := by decide +kernel
theorem dX7_search_55 : decode cX7_search 55 = .ok (.putfield 85, 3) := by decide +kernel
theorem dX7_search_58 : decode cX7_search 58 = .ok (.aload_n 0, 1) := by decide +kernel
theorem dX7_search_59 : decode cX7_search 59 = .ok (.iconst 0, 1) := by decide +kernel
theorem dX7_search_60 : decode cX7_search 60 = .ok (.putfield 88, 3) := by decide +kernel
theorem dX7_search_63 : decode cX7_search 63 = .ok (.aload_n 0, 1) := by decide +kernel
theorem dX7_search_64 : decode cX7_search 64 = .ok (.iconst 0, 1) := by decide +kernel
theorem dX7_search_65 : decode cX7_search 65 = .ok (.putfield 91, 3) := by decide +kernel
theorem dX7_search_68 : decode cX7_search 68 = .ok (.iconst 0, 1) := by decide +kernel
theorem dX7_search_69 : decode cX7_search 69 = .ok (.istore 4, 2) := by decide +kernel
theorem dX7_search_71 : decode cX7_search 71 = .ok (.iconst 0, 1) := by decide +kernel
theorem dX7_search_72 : decode cX7_search 72 = .ok (.istore 5, 2) := by decide +kernel
theorem dX7_search_74 : decode cX7_search 74 = .ok (.iload_n 3, 1) := by decide +kernel
theorem dX7_search_75 : decode cX7_search 75 = .ok (.ifCond .le 7, 3) := by decide +kernel
theorem dX7_search_78 : decode cX7_search 78 = .ok (.iconst 1, 1) := by decide +kernel
theorem dX7_search_79 : decode cX7_search 79 = .ok (.goto 4, 3) := by decide +kernel
theorem dX7_search_82 : decode cX7_search 82 = .ok (.iconst 0, 1) := by decide +kernel
theorem dX7_search_83 : decode cX7_search 83 = .ok (.istore 6, 2) := by decide +kernel
theorem dX7_search_85 : decode cX7_search 85 = .ok (.iload 6, 2) := by decide +kernel
theorem dX7_search_87 : decode cX7_search 87 = .ok (.ifCond .eq 200, 3) := by decide +kernel
theorem dX7_search_90 : decode cX7_search 90 = .ok (.aload_n 0, 1) := by decide +kernel
theorem dX7_search_91 : decode cX7_search 91 = .ok (.aload_n 0, 1) := by decide +kernel
theorem dX7_search_92 : decode cX7_search 92 = .ok (.getfield 19, 3) := by decide +kernel
theorem dX7_search_95 : decode cX7_search 95 = .ok (.iload 4, 2) := by decide +kernel
theorem dX7_search_97 : decode cX7_search 97 = .ok (.iaload, 1) := by decide +kernel
theorem dX7_search_98 : decode cX7_search 98 = .ok (.iload 5, 2) := by decide +kernel
theorem dX7_search_100 : decode cX7_search 100 = .ok (.invokevirtual 95, 3) := by decide +kernel
theorem dX7_search_103 : decode cX7_search 103 = .ok (.istore 7, 2) := by decide +kernel
theorem dX7_search_105 : decode cX7_search 105 = .ok (.iload 7, 2) := by decide +kernel
theorem dX7_search_107 : decode cX7_search 107 = .ok (.iconst (-1), 1) := by decide +kernel
theorem dX7_search_108 : decode cX7_search 108 = .ok (.if_icmp .ne 61, 3) := by decide +kernel
theorem dX7_search_111 : decode cX7_search 111 = .ok (.iinc 4 (-1), 3) := by decide +kernel
theorem dX7_search_114 : decode cX7_search 114 = .ok (.iload 4, 2) := by decide +kernel
theorem dX7_search_116 : decode cX7_search 116 = .ok (.ifCond .lt 7, 3) := by decide +kernel
theorem dX7_search_119 : decode cX7_search 119 = .ok (.iconst 1, 1) := by decide +kernel
theorem dX7_search_120 : decode cX7_search 120 = .ok (.goto 4, 3) := by decide +kernel
theorem dX7_search_123 : decode cX7_search 123 = .ok (.iconst 0, 1) := by decide +kernel
theorem dX7_search_124 : decode cX7_search 124 = .ok (.istore 6, 2) := by decide +kernel
theorem dX7_search_126 : decode cX7_search 126 = .ok (.iload 6, 2) := by decide +kernel
theorem dX7_search_128 : decode cX7_search 128 = .ok (.ifCond .eq 156, 3) := by decide +kernel
theorem dX7_search_131 : decode cX7_search 131 = .ok (.aload_n 0, 1) := by decide +kernel
theorem dX7_search_132 : decode cX7_search 132 = .ok (.getfield 7, 3) := by decide +kernel
theorem dX7_search_135 : decode cX7_search 135 = .ok (.bipush 28, 2) := by decide +kernel
theorem dX7_search_137 : decode cX7_search 137 = .ok (.aload_n 0, 1) := by decide +kernel
theorem dX7_search_138 : decode cX7_search 138 = .ok (.getfield 19, 3) := by decide +kernel
theorem dX7_search_141 : decode cX7_search 141 = .ok (.iload 4, 2) := by decide +kernel
theorem dX7_search_143 : decode cX7_search 143 = .ok (.iaload, 1) := by decide +kernel
theorem dX7_search_144 : decode cX7_search 144 = .ok (.iadd, 1) := by decide +kernel
theorem dX7_search_145 : decode cX7_search 145 = .ok (.iaload, 1) := by decide +kernel
theorem dX7_search_146 : decode cX7_search 146 = .ok (.iconst 1, 1) := by decide +kernel
theorem dX7_search_147 : decode cX7_search 147 = .ok (.iadd, 1) := by decide +kernel
theorem dX7_search_148 : decode cX7_search 148 = .ok (.istore 5, 2) := by decide +kernel
theorem dX7_search_150 : decode cX7_search 150 = .ok (.aload_n 0, 1) := by decide +kernel
theorem dX7_search_151 : decode cX7_search 151 = .ok (.getfield 7, 3) := by decide +kernel
theorem dX7_search_154 : decode cX7_search 154 = .ok (.bipush 28, 2) := by decide +kernel
theorem dX7_search_156 : decode cX7_search 156 = .ok (.aload_n 0, 1) := by decide +kernel
theorem dX7_search_157 : decode cX7_search 157 = .ok (.getfield 19, 3) := by decide +kernel
theorem dX7_search_160 : decode cX7_search 160 = .ok (.iload 4, 2) := by decide +kernel
theorem dX7_search_162 : decode cX7_search 162 = .ok (.iaload, 1) := by decide +kernel
theorem dX7_search_163 : decode cX7_search 163 = .ok (.iadd, 1) := by decide +kernel
theorem dX7_search_164 : decode cX7_search 164 = .ok (.iconst (-1), 1) := by decide +kernel
theorem dX7_search_165 : decode cX7_search 165 = .ok (.iastore, 1) := by decide +kernel
theorem dX7_search_166 : decode cX7_search 166 = .ok (.goto 118, 3) := by decide +kernel
theorem dX7_search_169 : decode cX7_search 169 = .ok (.aload_n 0, 1) := by decide +kernel
theorem dX7_search_170 : decode cX7_search 170 = .ok (.getfield 88, 3) := by decide +kernel
theorem dX7_search_173 : decode cX7_search 173 = .ok (.sipush 600, 3) := by decide +kernel
theorem dX7_search_176 : decode cX7_search 176 = .ok (.if_icmp .ne 14, 3) := by decide +kernel
theorem dX7_search_179 : decode cX7_search 179 = .ok (.aload_n 0, 1) := by decide +kernel
theorem dX7_search_180 : decode cX7_search 180 = .ok (.iconst 1, 1) := by decide +kernel
theorem dX7_search_181 : decode cX7_search 181 = .ok (.putfield 91, 3) := by decide +kernel
theorem dX7_search_184 : decode cX7_search 184 = .ok (.iconst 0, 1) := by decide +kernel
theorem dX7_search_185 : decode cX7_search 185 = .ok (.istore 6, 2) := by decide +kernel
theorem dX7_search_187 : decode cX7_search 187 = .ok (.goto 97, 3) := by decide +kernel
theorem dX7_search_190 : decode cX7_search 190 = .ok (.aload_n 0, 1) := by decide +kernel
theorem dX7_search_191 : decode cX7_search 191 = .ok (.dup, 1) := by decide +kernel
theorem dX7_search_192 : decode cX7_search 192 = .ok (.getfield 88, 3) := by decide +kernel
theorem dX7_search_195 : decode cX7_search 195 = .ok (.iconst 1, 1) := by decide +kernel
theorem dX7_search_196 : decode cX7_search 196 = .ok (.iadd, 1) := by decide +kernel
theorem dX7_search_197 : decode cX7_search 197 = .ok (.putfield 88, 3) := by decide +kernel
theorem dX7_search_200 : decode cX7_search 200 = .ok (.aload_n 0, 1) := by decide +kernel
theorem dX7_search_201 : decode cX7_search 201 = .ok (.getfield 7, 3) := by decide +kernel
theorem dX7_search_204 : decode cX7_search 204 = .ok (.bipush 28, 2) := by decide +kernel
theorem dX7_search_206 : decode cX7_search 206 = .ok (.aload_n 0, 1) := by decide +kernel
theorem dX7_search_207 : decode cX7_search 207 = .ok (.getfield 19, 3) := by decide +kernel
theorem dX7_search_210 : decode cX7_search 210 = .ok (.iload 4, 2) := by decide +kernel
theorem dX7_search_212 : decode cX7_search 212 = .ok (.iaload, 1) := by decide +kernel
theorem dX7_search_213 : decode cX7_search 213 = .ok (.iadd, 1) := by decide +kernel
theorem dX7_search_214 : decode cX7_search 214 = .ok (.iload 7, 2) := by decide +kernel
theorem dX7_search_216 : decode cX7_search 216 = .ok (.iastore, 1) := by decide +kernel
theorem dX7_search_217 : decode cX7_search 217 = .ok (.iinc 4 1, 3) := by decide +kernel
theorem dX7_search_220 : decode cX7_search 220 = .ok (.iconst 0, 1) := by decide +kernel
theorem dX7_search_221 : decode cX7_search 221 = .ok (.istore 5, 2) := by decide +kernel
theorem dX7_search_223 : decode cX7_search 223 = .ok (.iload 4, 2) := by decide +kernel
theorem dX7_search_225 : decode cX7_search 225 = .ok (.iload_n 3, 1) := by decide +kernel
theorem dX7_search_226 : decode cX7_search 226 = .ok (.if_icmp .ne 58, 3) := by decide +kernel
theorem dX7_search_229 : decode cX7_search 229 = .ok (.aload_n 0, 1) := by decide +kernel
theorem dX7_search_230 : decode cX7_search 230 = .ok (.dup, 1) := by decide +kernel
theorem dX7_search_231 : decode cX7_search 231 = .ok (.getfield 85, 3) := by decide +kernel
theorem dX7_search_234 : decode cX7_search 234 = .ok (.iconst 1, 1) := by decide +kernel
theorem dX7_search_235 : decode cX7_search 235 = .ok (.iadd, 1) := by decide +kernel
theorem dX7_search_236 : decode cX7_search 236 = .ok (.putfield 85, 3) := by decide +kernel
theorem dX7_search_239 : decode cX7_search 239 = .ok (.aload_n 0, 1) := by decide +kernel
theorem dX7_search_240 : decode cX7_search 240 = .ok (.getfield 85, 3) := by decide +kernel
theorem dX7_search_243 : decode cX7_search 243 = .ok (.iload_n 1, 1) := by decide +kernel
theorem dX7_search_244 : decode cX7_search 244 = .ok (.if_icmp .ge 7, 3) := by decide +kernel
theorem dX7_search_247 : decode cX7_search 247 = .ok (.iconst 1, 1) := by decide +kernel
theorem dX7_search_248 : decode cX7_search 248 = .ok (.goto 4, 3) := by decide +kernel
theorem dX7_search_251 : decode cX7_search 251 = .ok (.iconst 0, 1) := by decide +kernel
theorem dX7_search_252 : decode cX7_search 252 = .ok (.istore 6, 2) := by decide +kernel
theorem dX7_search_254 : decode cX7_search 254 = .ok (.iinc 4 (-1), 3) := by decide +kernel
theorem dX7_search_257 : decode cX7_search 257 = .ok (.iload 6, 2) := by decide +kernel
theorem dX7_search_259 : decode cX7_search 259 = .ok (.ifCond .eq 25, 3) := by decide +kernel
theorem dX7_search_262 : decode cX7_search 262 = .ok (.iload 7, 2) := by decide +kernel
theorem dX7_search_264 : decode cX7_search 264 = .ok (.iconst 1, 1) := by decide +kernel
theorem dX7_search_265 : decode cX7_search 265 = .ok (.iadd, 1) := by decide +kernel
theorem dX7_search_266 : decode cX7_search 266 = .ok (.istore 5, 2) := by decide +kernel
theorem dX7_search_268 : decode cX7_search 268 = .ok (.aload_n 0, 1) := by decide +kernel
theorem dX7_search_269 : decode cX7_search 269 = .ok (.getfield 7, 3) := by decide +kernel
theorem dX7_search_272 : decode cX7_search 272 = .ok (.bipush 28, 2) := by decide +kernel
theorem dX7_search_274 : decode cX7_search 274 = .ok (.aload_n 0, 1) := by decide +kernel
theorem dX7_search_275 : decode cX7_search 275 = .ok (.getfield 19, 3) := by decide +kernel
theorem dX7_search_278 : decode cX7_search 278 = .ok (.iload 4, 2) := by decide +kernel
theorem dX7_search_280 : decode cX7_search 280 = .ok (.iaload, 1) := by decide +kernel
theorem dX7_search_281 : decode cX7_search 281 = .ok (.iadd, 1) := by decide +kernel
theorem dX7_search_282 : decode cX7_search 282 = .ok (.iconst (-1), 1) := by decide +kernel
theorem dX7_search_283 : decode cX7_search 283 = .ok (.iastore, 1) := by decide +kernel
theorem dX7_search_284 : decode cX7_search 284 = .ok (.goto (-199), 3) := by decide +kernel
theorem dX7_search_287 : decode cX7_search 287 = .ok (.iconst 0, 1) := by decide +kernel
theorem dX7_search_288 : decode cX7_search 288 = .ok (.istore 7, 2) := by decide +kernel
theorem dX7_search_290 : decode cX7_search 290 = .ok (.iload 7, 2) := by decide +kernel
theorem dX7_search_292 : decode cX7_search 292 = .ok (.iload_n 3, 1) := by decide +kernel
theorem dX7_search_293 : decode cX7_search 293 = .ok (.if_icmp .ge 37, 3) := by decide +kernel
theorem dX7_search_296 : decode cX7_search 296 = .ok (.iload_n 2, 1) := by decide +kernel
theorem dX7_search_297 : decode cX7_search 297 = .ok (.ifCond .eq 11, 3) := by decide +kernel
theorem dX7_search_300 : decode cX7_search 300 = .ok (.aload_n 0, 1) := by decide +kernel
theorem dX7_search_301 : decode cX7_search 301 = .ok (.getfield 85, 3) := by decide +kernel
theorem dX7_search_304 : decode cX7_search 304 = .ok (.iload_n 1, 1) := by decide +kernel
theorem dX7_search_305 : decode cX7_search 305 = .ok (.if_icmp .eq 25, 3) := by decide +kernel
theorem dX7_search_308 : decode cX7_search 308 = .ok (.aload_n 0, 1) := by decide +kernel
theorem dX7_search_309 : decode cX7_search 309 = .ok (.getfield 7, 3) := by decide +kernel
theorem dX7_search_312 : decode cX7_search 312 = .ok (.bipush 28, 2) := by decide +kernel
theorem dX7_search_314 : decode cX7_search 314 = .ok (.aload_n 0, 1) := by decide +kernel
theorem dX7_search_315 : decode cX7_search 315 = .ok (.getfield 19, 3) := by decide +kernel
theorem dX7_search_318 : decode cX7_search 318 = .ok (.iload 7, 2) := by decide +kernel
theorem dX7_search_320 : decode cX7_search 320 = .ok (.iaload, 1) := by decide +kernel
theorem dX7_search_321 : decode cX7_search 321 = .ok (.iadd, 1) := by decide +kernel
theorem dX7_search_322 : decode cX7_search 322 = .ok (.iconst (-1), 1) := by decide +kernel
theorem dX7_search_323 : decode cX7_search 323 = .ok (.iastore, 1) := by decide +kernel
theorem dX7_search_324 : decode cX7_search 324 = .ok (.iinc 7 1, 3) := by decide +kernel
theorem dX7_search_327 : decode cX7_search 327 = .ok (.goto (-37), 3) := by decide +kernel
theorem dX7_search_330 : decode cX7_search 330 = .ok (.return_, 1) := by decide +kernel
theorem dX7_save_0 : decode cX7_save 0 = .ok (.aload_n 0, 1) := by decide +kernel
theorem dX7_save_1 : decode cX7_save 1 = .ok (.getfield 98, 3) := by decide +kernel
theorem dX7_save_4 : decode cX7_save 4 = .ok (.bipush 8, 2) := by decide +kernel
theorem dX7_save_6 : decode cX7_save 6 = .ok (.if_icmp .ne 44, 3) := by decide +kernel
theorem dX7_save_9 : decode cX7_save 9 = .ok (.bipush 52, 2) := by decide +kernel
theorem dX7_save_11 : decode cX7_save 11 = .ok (.istore_n 1, 1) := by decide +kernel
theorem dX7_save_12 : decode cX7_save 12 = .ok (.iload_n 1, 1) := by decide +kernel
theorem dX7_save_13 : decode cX7_save 13 = .ok (.sipush 416, 3) := by decide +kernel
theorem dX7_save_16 : decode cX7_save 16 = .ok (.if_icmp .ge 24, 3) := by decide +kernel
theorem dX7_save_19 : decode cX7_save 19 = .ok (.aload_n 0, 1) := by decide +kernel
theorem dX7_save_20 : decode cX7_save 20 = .ok (.getfield 13, 3) := by decide +kernel
theorem dX7_save_23 : decode cX7_save 23 = .ok (.iload_n 1, 1) := by decide +kernel
theorem dX7_save_24 : decode cX7_save 24 = .ok (.bipush 52, 2) := by decide +kernel
theorem dX7_save_26 : decode cX7_save 26 = .ok (.isub, 1) := by decide +kernel
theorem dX7_save_27 : decode cX7_save 27 = .ok (.aload_n 0, 1) := by decide +kernel
theorem dX7_save_28 : decode cX7_save 28 = .ok (.getfield 13, 3) := by decide +kernel
theorem dX7_save_31 : decode cX7_save 31 = .ok (.iload_n 1, 1) := by decide +kernel
theorem dX7_save_32 : decode cX7_save 32 = .ok (.iaload, 1) := by decide +kernel
theorem dX7_save_33 : decode cX7_save 33 = .ok (.iastore, 1) := by decide +kernel
theorem dX7_save_34 : decode cX7_save 34 = .ok (.iinc 1 1, 3) := by decide +kernel
theorem dX7_save_37 : decode cX7_save 37 = .ok (.goto (-25), 3) := by decide +kernel
theorem dX7_save_40 : decode cX7_save 40 = .ok (.aload_n 0, 1) := by decide +kernel
theorem dX7_save_41 : decode cX7_save 41 = .ok (.dup, 1) := by decide +kernel
theorem dX7_save_42 : decode cX7_save 42 = .ok (.getfield 98, 3) := by decide +kernel
theorem dX7_save_45 : decode cX7_save 45 = .ok (.iconst 1, 1) := by decide +kernel
theorem dX7_save_46 : decode cX7_save 46 = .ok (.isub, 1) := by decide +kernel
theorem dX7_save_47 : decode cX7_save 47 = .ok (.putfield 98, 3) := by decide +kernel
theorem dX7_save_50 : decode cX7_save 50 = .ok (.iconst 0, 1) := by decide +kernel
theorem dX7_save_51 : decode cX7_save 51 = .ok (.istore_n 1, 1) := by decide +kernel
theorem dX7_save_52 : decode cX7_save 52 = .ok (.iload_n 1, 1) := by decide +kernel
theorem dX7_save_53 : decode cX7_save 53 = .ok (.bipush 52, 2) := by decide +kernel
theorem dX7_save_55 : decode cX7_save 55 = .ok (.if_icmp .ge 29, 3) := by decide +kernel
theorem dX7_save_58 : decode cX7_save 58 = .ok (.aload_n 0, 1) := by decide +kernel
theorem dX7_save_59 : decode cX7_save 59 = .ok (.getfield 13, 3) := by decide +kernel
theorem dX7_save_62 : decode cX7_save 62 = .ok (.bipush 52, 2) := by decide +kernel
theorem dX7_save_64 : decode cX7_save 64 = .ok (.aload_n 0, 1) := by decide +kernel
theorem dX7_save_65 : decode cX7_save 65 = .ok (.getfield 98, 3) := by decide +kernel
theorem dX7_save_68 : decode cX7_save 68 = .ok (.imul, 1) := by decide +kernel
theorem dX7_save_69 : decode cX7_save 69 = .ok (.iload_n 1, 1) := by decide +kernel
theorem dX7_save_70 : decode cX7_save 70 = .ok (.iadd, 1) := by decide +kernel
theorem dX7_save_71 : decode cX7_save 71 = .ok (.aload_n 0, 1) := by decide +kernel
theorem dX7_save_72 : decode cX7_save 72 = .ok (.getfield 7, 3) := by decide +kernel
theorem dX7_save_75 : decode cX7_save 75 = .ok (.iload_n 1, 1) := by decide +kernel
theorem dX7_save_76 : decode cX7_save 76 = .ok (.iaload, 1) := by decide +kernel
theorem dX7_save_77 : decode cX7_save 77 = .ok (.iastore, 1) := by decide +kernel
theorem dX7_save_78 : decode cX7_save 78 = .ok (.iinc 1 1, 3) := by decide +kernel
theorem dX7_save_81 : decode cX7_save 81 = .ok (.goto (-29), 3) := by decide +kernel
theorem dX7_save_84 : decode cX7_save 84 = .ok (.aload_n 0, 1) := by decide +kernel
theorem dX7_save_85 : decode cX7_save 85 = .ok (.dup, 1) := by decide +kernel
theorem dX7_save_86 : decode cX7_save 86 = .ok (.getfield 98, 3) := by decide +kernel
theorem dX7_save_89 : decode cX7_save 89 = .ok (.iconst 1, 1) := by decide +kernel
theorem dX7_save_90 : decode cX7_save 90 = .ok (.iadd, 1) := by decide +kernel
theorem dX7_save_91 : decode cX7_save 91 = .ok (.putfield 98, 3) := by decide +kernel
theorem dX7_save_94 : decode cX7_save 94 = .ok (.return_, 1) := by decide +kernel
theorem dX7_restore_0 : decode cX7_restore 0 = .ok (.aload_n 0, 1) := by decide +kernel
theorem dX7_restore_1 : decode cX7_restore 1 = .ok (.dup, 1) := by decide +kernel
theorem dX7_restore_2 : decode cX7_restore 2 = .ok (.getfield 98, 3) := by decide +kernel
theorem dX7_restore_5 : decode cX7_restore 5 = .ok (.iconst 1, 1) := by decide +kernel
theorem dX7_restore_6 : decode cX7_restore 6 = .ok (.isub, 1) := by decide +kernel
theorem dX7_restore_7 : decode cX7_restore 7 = .ok (.putfield 98, 3) := by decide +kernel
theorem dX7_restore_10 : decode cX7_restore 10 = .ok (.iconst 0, 1) := by decide +kernel
theorem dX7_restore_11 : decode cX7_restore 11 = .ok (.istore_n 1, 1) := by decide +kernel
theorem dX7_restore_12 : decode cX7_restore 12 = .ok (.iload_n 1, 1) := by decide +kernel
theorem dX7_restore_13 : decode cX7_restore 13 = .ok (.bipush 52, 2) := by decide +kernel
theorem dX7_restore_15 : decode cX7_restore 15 = .ok (.if_icmp .ge 29, 3) := by decide +kernel
theorem dX7_restore_18 : decode cX7_restore 18 = .ok (.aload_n 0, 1) := by decide +kernel
theorem dX7_restore_19 : decode cX7_restore 19 = .ok (.getfield 7, 3) := by decide +kernel
theorem dX7_restore_22 : decode cX7_restore 22 = .ok (.iload_n 1, 1) := by decide +kernel
theorem dX7_restore_23 : decode cX7_restore 23 = .ok (.aload_n 0, 1) := by decide +kernel
theorem dX7_restore_24 : decode cX7_restore 24 = .ok (.getfield 13, 3) := by decide +kernel
theorem dX7_restore_27 : decode cX7_restore 27 = .ok (.bipush 52, 2) := by decide +kernel
theorem dX7_restore_29 : decode cX7_restore 29 = .ok (.aload_n 0, 1) := by decide +kernel
theorem dX7_restore_30 : decode cX7_restore 30 = .ok (.getfield 98, 3) := by decide +kernel
theorem dX7_restore_33 : decode cX7_restore 33 = .ok (.imul, 1) := by decide +kernel
theorem dX7_restore_34 : decode cX7_restore 34 = .ok (.iload_n 1, 1) := by decide +kernel
theorem dX7_restore_35 : decode cX7_restore 35 = .ok (.iadd, 1) := by decide +kernel
theorem dX7_restore_36 : decode cX7_restore 36 = .ok (.iaload, 1) := by decide +kernel
theorem dX7_restore_37 : decode cX7_restore 37 = .ok (.iastore, 1) := by decide +kernel
theorem dX7_restore_38 : decode cX7_restore 38 = .ok (.iinc 1 1, 3) := by decide +kernel
theorem dX7_restore_41 : decode cX7_restore 41 = .ok (.goto (-29), 3) := by decide +kernel
theorem dX7_restore_44 : decode cX7_restore 44 = .ok (.return_, 1) := by decide +kernel
set_option maxRecDepth 20000 in
theorem ggX7_undo_X7_restore : GoodIn wsX7_undo wsX7_restore := goodIn_r _ [7, 1, 8, 9, 10, 11, 12, 13, 14, 15, 16, 17, 18, 19, 20, 21, 22, 23, 24, 25] (by decide +kernel) (by decide +kernel)
set_option maxRecDepth 20000 in
theorem gX7_undo_X7_restore : GoodIn wsX7_undo (wsV RX7 101 RX7 yX7_restore wsX7_restore) := goodIn_app (goodIn_of _ (by decide +kernel)) ggX7_undo_X7_restore
theorem dX7_undo_0 : decode cX7_undo 0 = .ok (.aload_n 0, 1) := by decide +kernel
theorem dX7_undo_1 : decode cX7_undo 1 = .ok (.aload_n 0, 1) := by decide +kernel
theorem dX7_undo_2 : decode cX7_undo 2 = .ok (.getfield 98, 3) := by decide +kernel
theorem dX7_undo_5 : decode cX7_undo 5 = .ok (.ifCond .le 7, 3) := by decide +kernel
theorem dX7_undo_8 : decode cX7_undo 8 = .ok (.iconst 0, 1) := by decide +kernel
theorem dX7_undo_9 : decode cX7_undo 9 = .ok (.goto 4, 3) := by decide +kernel
theorem dX7_undo_12 : decode cX7_undo 12 = .ok (.iconst 1, 1) := by decide +kernel
theorem dX7_undo_13 : decode cX7_undo 13 = .ok (.putfield 34, 3) := by decide +kernel
theorem dX7_undo_16 : decode cX7_undo 16 = .ok (.aload_n 0, 1) := by decide +kernel
theorem dX7_undo_17 : decode cX7_undo 17 = .ok (.getfield 34, 3) := by decide +kernel
theorem dX7_undo_20 : decode cX7_undo 20 = .ok (.ifCond .le 5, 3) := by decide +kernel
theorem dX7_undo_23 : decode cX7_undo 23 = .ok (.iconst 0, 1) := by decide +kernel
theorem dX7_undo_24 : decode cX7_undo 24 = .ok (.ireturn, 1) := by decide +kernel
theorem dX7_undo_25 : decode cX7_undo 25 = .ok (.aload_n 0, 1) := by decide +kernel
theorem dX7_undo_26 : decode cX7_undo 26 = .ok (.invokevirtual 101, 3) := by decide +kernel
theorem dX7_undo_29 : decode cX7_undo 29 = .ok (.aload_n 0, 1) := by decide +kernel
theorem dX7_undo_30 : decode cX7_undo 30 = .ok (.getfield 98, 3) := by decide +kernel
theorem dX7_undo_33 : decode cX7_undo 33 = .ok (.ireturn, 1) := by decide +kernel
set_option maxRecDepth 20000 in
theorem ggX7_begin_X7_within : GoodIn wsX7_begin wsX7_within := goodIn_r _ [6] (by decide +kernel) (by decide +kernel)
set_option maxRecDepth 20000 in
theorem gX7_begin_X7_within : GoodIn wsX7_begin (va_wsS RX7 42 yX7_within wsX7_within) := goodIn_app (goodIn_of _ (by decide +kernel)) ggX7_begin_X7_within
set_option maxRecDepth 20000 in
theorem ggX7_begin_X7_save : GoodIn wsX7_begin wsX7_save := goodIn_r _ [10, 11, 12, 2, 21, 22, 23, 24, 25, 26, 27, 28, 29, 30, 31, 32, 33, 34, 35, 36] (by decide +kernel) (by decide +kernel)
set_option maxRecDepth 20000 in
theorem gX7_begin_X7_save : GoodIn wsX7_begin (wsV RX7 104 RX7 yX7_save wsX7_save) := goodIn_app (goodIn_of _ (by decide +kernel)) ggX7_begin_X7_save
set_option maxRecDepth 20000 in
theorem ggX7_begin_X7_emptyBoard : GoodIn wsX7_begin wsX7_emptyBoard := goodIn_r _ [16, 2, 21, 22, 23, 24, 25, 26, 27, 28, 29, 30, 31, 32, 33, 34, 35, 36] (by decide +kernel) (by decide +kernel)
set_option maxRecDepth 20000 in
theorem gX7_begin_X7_emptyBoard : GoodIn wsX7_begin (wsV RX7 31 RX7 yX7_emptyBoard wsX7_emptyBoard) := goodIn_app (goodIn_of _ (by decide +kernel)) ggX7_begin_X7_emptyBoard
set_option maxRecDepth 20000 in
theorem ggX7_begin_X7_cells : GoodIn wsX7_begin wsX7_cells := goodIn_r _ [20, 2, 21, 22, 23, 24, 25, 26, 27, 28, 29, 30, 31, 32, 33, 34, 35, 36] (by decide +kernel) (by decide +kernel)
set_option maxRecDepth 20000 in
theorem gX7_begin_X7_cells : GoodIn wsX7_begin (wsV RX7 38 RX7 yX7_cells wsX7_cells) := goodIn_app (goodIn_of _ (by decide +kernel)) ggX7_begin_X7_cells
theorem dX7_begin_0 : decode cX7_begin 0 = .ok (.aload_n 0, 1) := by decide +kernel
theorem dX7_begin_1 : decode cX7_begin 1 = .ok (.iload_n 1, 1) := by decide +kernel
theorem dX7_begin_2 : decode cX7_begin 2 = .ok (.iconst 1, 1) := by decide +kernel
theorem dX7_begin_3 : decode cX7_begin 3 = .ok (.iconst 3, 1) := by decide +kernel
theorem dX7_begin_4 : decode cX7_begin 4 = .ok (.invokestatic 42, 3) := by decide +kernel
theorem dX7_begin_7 : decode cX7_begin 7 = .ok (.ifCond .eq 16, 3) := by decide +kernel
theorem dX7_begin_10 : decode cX7_begin 10 = .ok (.iload_n 2, 1) := by decide +kernel
theorem dX7_begin_11 : decode cX7_begin 11 = .ok (.iconst 1, 1) := by decide +kernel
theorem dX7_begin_12 : decode cX7_begin 12 = .ok (.iconst 4, 1) := by decide +kernel
theorem dX7_begin_13 : decode cX7_begin 13 = .ok (.invokestatic 42, 3) := by decide +kernel
theorem dX7_begin_16 : decode cX7_begin 16 = .ok (.ifCond .eq 7, 3) := by decide +kernel
theorem dX7_begin_19 : decode cX7_begin 19 = .ok (.iconst 0, 1) := by decide +kernel
theorem dX7_begin_20 : decode cX7_begin 20 = .ok (.goto 4, 3) := by decide +kernel
theorem dX7_begin_23 : decode cX7_begin 23 = .ok (.iconst 1, 1) := by decide +kernel
theorem dX7_begin_24 : decode cX7_begin 24 = .ok (.putfield 34, 3) := by decide +kernel
theorem dX7_begin_27 : decode cX7_begin 27 = .ok (.aload_n 0, 1) := by decide +kernel
theorem dX7_begin_28 : decode cX7_begin 28 = .ok (.getfield 34, 3) := by decide +kernel
theorem dX7_begin_31 : decode cX7_begin 31 = .ok (.ifCond .le 5, 3) := by decide +kernel
theorem dX7_begin_34 : decode cX7_begin 34 = .ok (.iconst 0, 1) := by decide +kernel
theorem dX7_begin_35 : decode cX7_begin 35 = .ok (.ireturn, 1) := by decide +kernel
theorem dX7_begin_36 : decode cX7_begin 36 = .ok (.aload_n 0, 1) := by decide +kernel
theorem dX7_begin_37 : decode cX7_begin 37 = .ok (.invokevirtual 104, 3) := by decide +kernel
theorem dX7_begin_40 : decode cX7_begin 40 = .ok (.aload_n 0, 1) := by decide +kernel
theorem dX7_begin_41 : decode cX7_begin 41 = .ok (.getfield 7, 3) := by decide +kernel
theorem dX7_begin_44 : decode cX7_begin 44 = .ok (.iconst 0, 1) := by decide +kernel
theorem dX7_begin_45 : decode cX7_begin 45 = .ok (.iload_n 1, 1) := by decide +kernel
theorem dX7_begin_46 : decode cX7_begin 46 = .ok (.iastore, 1) := by decide +kernel
theorem dX7_begin_47 : decode cX7_begin 47 = .ok (.aload_n 0, 1) := by decide +kernel
theorem dX7_begin_48 : decode cX7_begin 48 = .ok (.getfield 7, 3) := by decide +kernel
theorem dX7_begin_51 : decode cX7_begin 51 = .ok (.iconst 1, 1) := by decide +kernel
theorem dX7_begin_52 : decode cX7_begin 52 = .ok (.iload_n 2, 1) := by decide +kernel
theorem dX7_begin_53 : decode cX7_begin 53 = .ok (.iastore, 1) := by decide +kernel
theorem dX7_begin_54 : decode cX7_begin 54 = .ok (.aload_n 0, 1) := by decide +kernel
theorem dX7_begin_55 : decode cX7_begin 55 = .ok (.invokevirtual 31, 3) := by decide +kernel
theorem dX7_begin_58 : decode cX7_begin 58 = .ok (.aload_n 0, 1) := by decide +kernel
theorem dX7_begin_59 : decode cX7_begin 59 = .ok (.invokevirtual 38, 3) := by decide +kernel
theorem dX7_begin_62 : decode cX7_begin 62 = .ok (.ireturn, 1) := by decide +kernel
theorem dX7_bring_0 : decode cX7_bring 0 = .ok (.aload_n 0, 1) := by decide +kernel
theorem dX7_bring_1 : decode cX7_bring 1 = .ok (.getfield 7, 3) := by decide +kernel
theorem dX7_bring_4 : decode cX7_bring 4 = .ok (.iconst 4, 1) := by decide +kernel
theorem dX7_bring_5 : decode cX7_bring 5 = .ok (.iconst 2, 1) := by decide +kernel
theorem dX7_bring_6 : decode cX7_bring 6 = .ok (.aload_n 0, 1) := by decide +kernel
theorem dX7_bring_7 : decode cX7_bring 7 = .ok (.getfield 7, 3) := by decide +kernel
theorem dX7_bring_10 : decode cX7_bring 10 = .ok (.iconst 3, 1) := by decide +kernel
theorem dX7_bring_11 : decode cX7_bring 11 = .ok (.iaload, 1) := by decide +kernel
theorem dX7_bring_12 : decode cX7_bring 12 = .ok (.imul, 1) := by decide +kernel
theorem dX7_bring_13 : decode cX7_bring 13 = .ok (.iadd, 1) := by decide +kernel
theorem dX7_bring_14 : decode cX7_bring 14 = .ok (.iload_n 1, 1) := by decide +kernel
theorem dX7_bring_15 : decode cX7_bring 15 = .ok (.iastore, 1) := by decide +kernel
theorem dX7_bring_16 : decode cX7_bring 16 = .ok (.aload_n 0, 1) := by decide +kernel
theorem dX7_bring_17 : decode cX7_bring 17 = .ok (.getfield 7, 3) := by decide +kernel
theorem dX7_bring_20 : decode cX7_bring 20 = .ok (.iconst 4, 1) := by decide +kernel
theorem dX7_bring_21 : decode cX7_bring 21 = .ok (.iconst 2, 1) := by decide +kernel
theorem dX7_bring_22 : decode cX7_bring 22 = .ok (.aload_n 0, 1) := by decide +kernel
theorem dX7_bring_23 : decode cX7_bring 23 = .ok (.getfield 7, 3) := by decide +kernel
theorem dX7_bring_26 : decode cX7_bring 26 = .ok (.iconst 3, 1) := by decide +kernel
theorem dX7_bring_27 : decode cX7_bring 27 = .ok (.iaload, 1) := by decide +kernel
theorem dX7_bring_28 : decode cX7_bring 28 = .ok (.imul, 1) := by decide +kernel
theorem dX7_bring_29 : decode cX7_bring 29 = .ok (.iadd, 1) := by decide +kernel
theorem dX7_bring_30 : decode cX7_bring 30 = .ok (.iconst 1, 1) := by decide +kernel
theorem dX7_bring_31 : decode cX7_bring 31 = .ok (.iadd, 1) := by decide +kernel
theorem dX7_bring_32 : decode cX7_bring 32 = .ok (.iload_n 2, 1) := by decide +kernel
theorem dX7_bring_33 : decode cX7_bring 33 = .ok (.iastore, 1) := by decide +kernel
theorem dX7_bring_34 : decode cX7_bring 34 = .ok (.aload_n 0, 1) := by decide +kernel
theorem dX7_bring_35 : decode cX7_bring 35 = .ok (.getfield 7, 3) := by decide +kernel
theorem dX7_bring_38 : decode cX7_bring 38 = .ok (.iconst 3, 1) := by decide +kernel
theorem dX7_bring_39 : decode cX7_bring 39 = .ok (.dup2, 1) := by decide +kernel
theorem dX7_bring_40 : decode cX7_bring 40 = .ok (.iaload, 1) := by decide +kernel
theorem dX7_bring_41 : decode cX7_bring 41 = .ok (.iconst 1, 1) := by decide +kernel
theorem dX7_bring_42 : decode cX7_bring 42 = .ok (.iadd, 1) := by decide +kernel
theorem dX7_bring_43 : decode cX7_bring 43 = .ok (.iastore, 1) := by decide +kernel
theorem dX7_bring_44 : decode cX7_bring 44 = .ok (.return_, 1) := by decide +kernel
set_option maxRecDepth 20000 in
theorem ggX7_addTile_X7_within : GoodIn wsX7_addTile wsX7_within := goodIn_r _ [6] (by decide +kernel) (by decide +kernel)
set_option maxRecDepth 20000 in
theorem gX7_addTile_X7_within : GoodIn wsX7_addTile (va_wsS RX7 42 yX7_within wsX7_within) := goodIn_app (goodIn_of _ (by decide +kernel)) ggX7_addTile_X7_within
set_option maxRecDepth 20000 in
theorem ggX7_addTile_X7_save : GoodIn wsX7_addTile wsX7_save := goodIn_r _ [10, 11, 12, 1, 17, 18, 19, 20, 21, 22, 23, 24, 25, 26, 27, 28, 29, 30, 31, 32] (by decide +kernel) (by decide +kernel)
set_option maxRecDepth 20000 in
theorem gX7_addTile_X7_save : GoodIn wsX7_addTile (wsV RX7 104 RX7 yX7_save wsX7_save) := goodIn_app (goodIn_of _ (by decide +kernel)) ggX7_addTile_X7_save
set_option maxRecDepth 20000 in
theorem ggX7_addTile_X7_bring : GoodIn wsX7_addTile wsX7_bring := goodIn_r _ [16, 1, 17, 18, 19, 20, 21, 22, 23, 24, 25, 26, 27, 28, 29, 30, 31, 32] (by decide +kernel) (by decide +kernel)
set_option maxRecDepth 20000 in
theorem gX7_addTile_X7_bring : GoodIn wsX7_addTile (wsV RX7 107 RX7 yX7_bring wsX7_bring) := goodIn_app (goodIn_of _ (by decide +kernel)) ggX7_addTile_X7_bring
theorem dX7_addTile_0 : decode cX7_addTile 0 = .ok (.iload_n 1, 1) := by decide +kernel
theorem dX7_addTile_1 : decode cX7_addTile 1 = .ok (.iconst 0, 1) := by decide +kernel
theorem dX7_addTile_2 : decode cX7_addTile 2 = .ok (.sipush 9999, 3) := by decide +kernel
theorem dX7_addTile_5 : decode cX7_addTile 5 = .ok (.invokestatic 42, 3) := by decide +kernel
theorem dX7_addTile_8 : decode cX7_addTile 8 = .ok (.ifCond .eq 18, 3) := by decide +kernel
theorem dX7_addTile_11 : decode cX7_addTile 11 = .ok (.iload_n 2, 1) := by decide +kernel
theorem dX7_addTile_12 : decode cX7_addTile 12 = .ok (.iconst 0, 1) := by decide +kernel
theorem dX7_addTile_13 : decode cX7_addTile 13 = .ok (.sipush 9999, 3) := by decide +kernel
theorem dX7_addTile_16 : decode cX7_addTile 16 = .ok (.invokestatic 42, 3) := by decide +kernel
theorem dX7_addTile_19 : decode cX7_addTile 19 = .ok (.ifCond .eq 7, 3) := by decide +kernel
theorem dX7_addTile_22 : decode cX7_addTile 22 = .ok (.iconst 1, 1) := by decide +kernel
theorem dX7_addTile_23 : decode cX7_addTile 23 = .ok (.goto 4, 3) := by decide +kernel
theorem dX7_addTile_26 : decode cX7_addTile 26 = .ok (.iconst 0, 1) := by decide +kernel
theorem dX7_addTile_27 : decode cX7_addTile 27 = .ok (.istore_n 3, 1) := by decide +kernel
theorem dX7_addTile_28 : decode cX7_addTile 28 = .ok (.aload_n 0, 1) := by decide +kernel
theorem dX7_addTile_29 : decode cX7_addTile 29 = .ok (.iload_n 3, 1) := by decide +kernel
theorem dX7_addTile_30 : decode cX7_addTile 30 = .ok (.ifCond .ne 7, 3) := by decide +kernel
theorem dX7_addTile_33 : decode cX7_addTile 33 = .ok (.iconst 1, 1) := by decide +kernel
theorem dX7_addTile_34 : decode cX7_addTile 34 = .ok (.goto 19, 3) := by decide +kernel
theorem dX7_addTile_37 : decode cX7_addTile 37 = .ok (.aload_n 0, 1) := by decide +kernel
theorem dX7_addTile_38 : decode cX7_addTile 38 = .ok (.getfield 7, 3) := by decide +kernel
theorem dX7_addTile_41 : decode cX7_addTile 41 = .ok (.iconst 3, 1) := by decide +kernel
theorem dX7_addTile_42 : decode cX7_addTile 42 = .ok (.iaload, 1) := by decide +kernel
theorem dX7_addTile_43 : decode cX7_addTile 43 = .ok (.bipush 12, 2) := by decide +kernel
theorem dX7_addTile_45 : decode cX7_addTile 45 = .ok (.if_icmp .ne 7, 3) := by decide +kernel
theorem dX7_addTile_48 : decode cX7_addTile 48 = .ok (.iconst 2, 1) := by decide +kernel
theorem dX7_addTile_49 : decode cX7_addTile 49 = .ok (.goto 4, 3) := by decide +kernel
theorem dX7_addTile_52 : decode cX7_addTile 52 = .ok (.iconst 0, 1) := by decide +kernel
theorem dX7_addTile_53 : decode cX7_addTile 53 = .ok (.putfield 34, 3) := by decide +kernel
theorem dX7_addTile_56 : decode cX7_addTile 56 = .ok (.aload_n 0, 1) := by decide +kernel
theorem dX7_addTile_57 : decode cX7_addTile 57 = .ok (.getfield 34, 3) := by decide +kernel
theorem dX7_addTile_60 : decode cX7_addTile 60 = .ok (.ifCond .le 5, 3) := by decide +kernel
theorem dX7_addTile_63 : decode cX7_addTile 63 = .ok (.iconst 0, 1) := by decide +kernel
theorem dX7_addTile_64 : decode cX7_addTile 64 = .ok (.ireturn, 1) := by decide +kernel
theorem dX7_addTile_65 : decode cX7_addTile 65 = .ok (.aload_n 0, 1) := by decide +kernel
theorem dX7_addTile_66 : decode cX7_addTile 66 = .ok (.invokevirtual 104, 3) := by decide +kernel
theorem dX7_addTile_69 : decode cX7_addTile 69 = .ok (.aload_n 0, 1) := by decide +kernel
theorem dX7_addTile_70 : decode cX7_addTile 70 = .ok (.iload_n 1, 1) := by decide +kernel
theorem dX7_addTile_71 : decode cX7_addTile 71 = .ok (.iload_n 2, 1) := by decide +kernel
theorem dX7_addTile_72 : decode cX7_addTile 72 = .ok (.invokevirtual 107, 3) := by decide +kernel
theorem dX7_addTile_75 : decode cX7_addTile 75 = .ok (.aload_n 0, 1) := by decide +kernel
theorem dX7_addTile_76 : decode cX7_addTile 76 = .ok (.getfield 7, 3) := by decide +kernel
theorem dX7_addTile_79 : decode cX7_addTile 79 = .ok (.iconst 3, 1) := by decide +kernel
theorem dX7_addTile_80 : decode cX7_addTile 80 = .ok (.iaload, 1) := by decide +kernel
theorem dX7_addTile_81 : decode cX7_addTile 81 = .ok (.iconst 1, 1) := by decide +kernel
theorem dX7_addTile_82 : decode cX7_addTile 82 = .ok (.isub, 1) := by decide +kernel
theorem dX7_addTile_83 : decode cX7_addTile 83 = .ok (.ireturn, 1) := by decide +kernel
set_option maxRecDepth 20000 in
theorem ggX7_dropTile_X7_cellOf : GoodIn wsX7_dropTile wsX7_cellOf := goodIn_r _ [7, 1, 8, 9, 10, 6, 11, 18, 19, 20, 21, 22, 23, 24, 25, 26, 27, 28, 29, 30, 31, 32, 33] (by decide +kernel) (by decide +kernel)
set_option maxRecDepth 20000 in
theorem gX7_dropTile_X7_cellOf : GoodIn wsX7_dropTile (wsV RX7 75 RX7 yX7_cellOf wsX7_cellOf) := goodIn_app (goodIn_of _ (by decide +kernel)) ggX7_dropTile_X7_cellOf
set_option maxRecDepth 20000 in
theorem ggX7_dropTile_X7_save : GoodIn wsX7_dropTile wsX7_save := goodIn_r _ [15, 16, 17, 1, 18, 19, 20, 21, 22, 23, 24, 25, 26, 27, 28, 29, 30, 31, 32, 33] (by decide +kernel) (by decide +kernel)
