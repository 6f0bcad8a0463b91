theorem dX0_isAlike_0 : decode cX0_isAlike 0 = .ok (.aload_n 0, 1) := by decide +kernel
theorem dX0_isAlike_1 : decode cX0_isAlike 1 = .ok (.iload_n 1, 1) := by decide +kernel
theorem dX0_isAlike_2 : decode cX0_isAlike 2 = .ok (.iload_n 2, 1) := by decide +kernel
theorem dX0_isAlike_3 : decode cX0_isAlike 3 = .ok (.invokevirtual 80, 3) := by decide +kernel
theorem dX0_isAlike_6 : decode cX0_isAlike 6 = .ok (.istore 4, 2) := by decide +kernel
theorem dX0_isAlike_8 : decode cX0_isAlike 8 = .ok (.iload 4, 2) := by decide +kernel
theorem dX0_isAlike_10 : decode cX0_isAlike 10 = .ok (.iconst (-1), 1) := by decide +kernel
theorem dX0_isAlike_11 : decode cX0_isAlike 11 = .ok (.if_icmp .eq 20, 3) := by decide +kernel
theorem dX0_isAlike_14 : decode cX0_isAlike 14 = .ok (.aload_n 0, 1) := by decide +kernel
theorem dX0_isAlike_15 : decode cX0_isAlike 15 = .ok (.iload_n 1, 1) := by decide +kernel
theorem dX0_isAlike_16 : decode cX0_isAlike 16 = .ok (.invokevirtual 47, 3) := by decide +kernel
theorem dX0_isAlike_19 : decode cX0_isAlike 19 = .ok (.ifCond .ne 12, 3) := by decide +kernel
theorem dX0_isAlike_22 : decode cX0_isAlike 22 = .ok (.aload_n 0, 1) := by decide +kernel
theorem dX0_isAlike_23 : decode cX0_isAlike 23 = .ok (.iload 4, 2) := by decide +kernel
theorem dX0_isAlike_25 : decode cX0_isAlike 25 = .ok (.invokevirtual 47, 3) := by decide +kernel
theorem dX0_isAlike_28 : decode cX0_isAlike 28 = .ok (.ifCond .eq 5, 3) := by decide +kernel
theorem dX0_isAlike_31 : decode cX0_isAlike 31 = .ok (.iconst 0, 1) := by decide +kernel
theorem dX0_isAlike_32 : decode cX0_isAlike 32 = .ok (.ireturn, 1) := by decide +kernel
theorem dX0_isAlike_33 : decode cX0_isAlike 33 = .ok (.aload_n 0, 1) := by decide +kernel
theorem dX0_isAlike_34 : decode cX0_isAlike 34 = .ok (.iload_n 1, 1) := by decide +kernel
theorem dX0_isAlike_35 : decode cX0_isAlike 35 = .ok (.invokevirtual 98, 3) := by decide +kernel
theorem dX0_isAlike_38 : decode cX0_isAlike 38 = .ok (.iload_n 2, 1) := by decide +kernel
theorem dX0_isAlike_39 : decode cX0_isAlike 39 = .ok (.invokestatic 91, 3) := by decide +kernel
theorem dX0_isAlike_42 : decode cX0_isAlike 42 = .ok (.istore 5, 2) := by decide +kernel
theorem dX0_isAlike_44 : decode cX0_isAlike 44 = .ok (.aload_n 0, 1) := by decide +kernel
theorem dX0_isAlike_45 : decode cX0_isAlike 45 = .ok (.iload 4, 2) := by decide +kernel
theorem dX0_isAlike_47 : decode cX0_isAlike 47 = .ok (.invokevirtual 98, 3) := by decide +kernel
theorem dX0_isAlike_50 : decode cX0_isAlike 50 = .ok (.iload_n 2, 1) := by decide +kernel
theorem dX0_isAlike_51 : decode cX0_isAlike 51 = .ok (.invokestatic 88, 3) := by decide +kernel
theorem dX0_isAlike_54 : decode cX0_isAlike 54 = .ok (.invokestatic 91, 3) := by decide +kernel
theorem dX0_isAlike_57 : decode cX0_isAlike 57 = .ok (.istore 6, 2) := by decide +kernel
theorem dX0_isAlike_59 : decode cX0_isAlike 59 = .ok (.iload 5, 2) := by decide +kernel
theorem dX0_isAlike_61 : decode cX0_isAlike 61 = .ok (.iload 6, 2) := by decide +kernel
theorem dX0_isAlike_63 : decode cX0_isAlike 63 = .ok (.ixor, 1) := by decide +kernel
theorem dX0_isAlike_64 : decode cX0_isAlike 64 = .ok (.iload_n 3, 1) := by decide +kernel
theorem dX0_isAlike_65 : decode cX0_isAlike 65 = .ok (.iand, 1) := by decide +kernel
theorem dX0_isAlike_66 : decode cX0_isAlike 66 = .ok (.ifCond .ne 7, 3) := by decide +kernel
theorem dX0_isAlike_69 : decode cX0_isAlike 69 = .ok (.iconst 1, 1) := by decide +kernel
theorem dX0_isAlike_70 : decode cX0_isAlike 70 = .ok (.goto 4, 3) := by decide +kernel
theorem dX0_isAlike_73 : decode cX0_isAlike 73 = .ok (.iconst 0, 1) := by decide +kernel
theorem dX0_isAlike_74 : decode cX0_isAlike 74 = .ok (.ireturn, 1) := by decide +kernel
theorem dX1_init_0 : decode cX1_init 0 = .ok (.aload_n 0, 1) := by decide +kernel
theorem dX1_init_1 : decode cX1_init 1 = .ok (.invokespecial 1, 3) := by decide +kernel
theorem dX1_init_4 : decode cX1_init 4 = .ok (.aload_n 0, 1) := by decide +kernel
theorem dX1_init_5 : decode cX1_init 5 = .ok (.iconst 1, 1) := by decide +kernel
theorem dX1_init_6 : decode cX1_init 6 = .ok (.putfield 7, 3) := by decide +kernel
theorem dX1_init_9 : decode cX1_init 9 = .ok (.aload_n 0, 1) := by decide +kernel
theorem dX1_init_10 : decode cX1_init 10 = .ok (.iconst 1, 1) := by decide +kernel
theorem dX1_init_11 : decode cX1_init 11 = .ok (.putfield 13, 3) := by decide +kernel
theorem dX1_init_14 : decode cX1_init 14 = .ok (.aload_n 0, 1) := by decide +kernel
theorem dX1_init_15 : decode cX1_init 15 = .ok (.iconst 1, 1) := by decide +kernel
theorem dX1_init_16 : decode cX1_init 16 = .ok (.putfield 16, 3) := by decide +kernel
theorem dX1_init_19 : decode cX1_init 19 = .ok (.return_, 1) := by decide +kernel
theorem dX1_start_0 : decode cX1_start 0 = .ok (.aload_n 0, 1) := by decide +kernel
theorem dX1_start_1 : decode cX1_start 1 = .ok (.iload_n 1, 1) := by decide +kernel
theorem dX1_start_2 : decode cX1_start 2 = .ok (.putfield 7, 3) := by decide +kernel
theorem dX1_start_5 : decode cX1_start 5 = .ok (.aload_n 0, 1) := by decide +kernel
theorem dX1_start_6 : decode cX1_start 6 = .ok (.iload_n 2, 1) := by decide +kernel
theorem dX1_start_7 : decode cX1_start 7 = .ok (.iconst 1, 1) := by decide +kernel
theorem dX1_start_8 : decode cX1_start 8 = .ok (.if_icmp .ge 7, 3) := by decide +kernel
theorem dX1_start_11 : decode cX1_start 11 = .ok (.iconst 1, 1) := by decide +kernel
theorem dX1_start_12 : decode cX1_start 12 = .ok (.goto 4, 3) := by decide +kernel
theorem dX1_start_15 : decode cX1_start 15 = .ok (.iload_n 2, 1) := by decide +kernel
theorem dX1_start_16 : decode cX1_start 16 = .ok (.putfield 13, 3) := by decide +kernel
theorem dX1_start_19 : decode cX1_start 19 = .ok (.aload_n 0, 1) := by decide +kernel
theorem dX1_start_20 : decode cX1_start 20 = .ok (.iload_n 1, 1) := by decide +kernel
theorem dX1_start_21 : decode cX1_start 21 = .ok (.putfield 16, 3) := by decide +kernel
theorem dX1_start_24 : decode cX1_start 24 = .ok (.return_, 1) := by decide +kernel
theorem dX1_next_0 : decode cX1_next 0 = .ok (.iconst 1, 1) := by decide +kernel
theorem dX1_next_1 : decode cX1_next 1 = .ok (.aload_n 0, 1) := by decide +kernel
theorem dX1_next_2 : decode cX1_next 2 = .ok (.getfield 16, 3) := by decide +kernel
theorem dX1_next_5 : decode cX1_next 5 = .ok (.bipush 10, 2) := by decide +kernel
theorem dX1_next_7 : decode cX1_next 7 = .ok (.irem, 1) := by decide +kernel
theorem dX1_next_8 : decode cX1_next 8 = .ok (.aload_n 0, 1) := by decide +kernel
theorem dX1_next_9 : decode cX1_next 9 = .ok (.getfield 13, 3) := by decide +kernel
theorem dX1_next_12 : decode cX1_next 12 = .ok (.irem, 1) := by decide +kernel
theorem dX1_next_13 : decode cX1_next 13 = .ok (.iadd, 1) := by decide +kernel
theorem dX1_next_14 : decode cX1_next 14 = .ok (.istore_n 1, 1) := by decide +kernel
theorem dX1_next_15 : decode cX1_next 15 = .ok (.aload_n 0, 1) := by decide +kernel
theorem dX1_next_16 : decode cX1_next 16 = .ok (.aload_n 0, 1) := by decide +kernel
theorem dX1_next_17 : decode cX1_next 17 = .ok (.getfield 16, 3) := by decide +kernel
theorem dX1_next_20 : decode cX1_next 20 = .ok (.bipush 10, 2) := by decide +kernel
theorem dX1_next_22 : decode cX1_next 22 = .ok (.idiv, 1) := by decide +kernel
theorem dX1_next_23 : decode cX1_next 23 = .ok (.putfield 16, 3) := by decide +kernel
theorem dX1_next_26 : decode cX1_next 26 = .ok (.aload_n 0, 1) := by decide +kernel
theorem dX1_next_27 : decode cX1_next 27 = .ok (.getfield 16, 3) := by decide +kernel
theorem dX1_next_30 : decode cX1_next 30 = .ok (.ifCond .ne 11, 3) := by decide +kernel
theorem dX1_next_33 : decode cX1_next 33 = .ok (.aload_n 0, 1) := by decide +kernel
theorem dX1_next_34 : decode cX1_next 34 = .ok (.aload_n 0, 1) := by decide +kernel
theorem dX1_next_35 : decode cX1_next 35 = .ok (.getfield 7, 3) := by decide +kernel
theorem dX1_next_38 : decode cX1_next 38 = .ok (.putfield 16, 3) := by decide +kernel
theorem dX1_next_41 : decode cX1_next 41 = .ok (.iload_n 1, 1) := by decide +kernel
theorem dX1_next_42 : decode cX1_next 42 = .ok (.ireturn, 1) := by decide +kernel
set_option maxRecDepth 20000 in
theorem ggX2_init_X0_init : GoodIn wsX2_init wsX0_init := goodIn_r _ [11, 12, 2, 3, 13, 14, 15, 16, 17, 18, 19, 20, 21, 25, 26, 27, 28, 29, 30, 31, 32] (by decide +kernel) (by decide +kernel)
set_option maxRecDepth 20000 in
theorem gX2_init_X0_init_n24 : GoodIn wsX2_init (wsX0_init) := ggX2_init_X0_init
theorem dX2_init_0 : decode cX2_init 0 = .ok (.aload_n 0, 1) := by decide +kernel
theorem dX2_init_1 : decode cX2_init 1 = .ok (.invokespecial 3, 3) := by decide +kernel
theorem dX2_init_4 : decode cX2_init 4 = .ok (.aload_n 0, 1) := by decide +kernel
theorem dX2_init_5 : decode cX2_init 5 = .ok (.bipush 8, 2) := by decide +kernel
theorem dX2_init_7 : decode cX2_init 7 = .ok (.anewarray 9, 3) := by decide +kernel
theorem dX2_init_10 : decode cX2_init 10 = .ok (.putfield 11, 3) := by decide +kernel
theorem dX2_init_13 : decode cX2_init 13 = .ok (.aload_n 0, 1) := by decide +kernel
theorem dX2_init_14 : decode cX2_init 14 = .ok (.iconst 0, 1) := by decide +kernel
theorem dX2_init_15 : decode cX2_init 15 = .ok (.putfield 17, 3) := by decide +kernel
theorem dX2_init_18 : decode cX2_init 18 = .ok (.aload_n 0, 1) := by decide +kernel
theorem dX2_init_19 : decode cX2_init 19 = .ok (.iconst 0, 1) := by decide +kernel
theorem dX2_init_20 : decode cX2_init 20 = .ok (.putfield 21, 3) := by decide +kernel
theorem dX2_init_23 : decode cX2_init 23 = .ok (.iconst 0, 1) := by decide +kernel
theorem dX2_init_24 : decode cX2_init 24 = .ok (.istore_n 1, 1) := by decide +kernel
theorem dX2_init_25 : decode cX2_init 25 = .ok (.iload_n 1, 1) := by decide +kernel
theorem dX2_init_26 : decode cX2_init 26 = .ok (.bipush 8, 2) := by decide +kernel
theorem dX2_init_28 : decode cX2_init 28 = .ok (.if_icmp .ge 22, 3) := by decide +kernel
theorem dX2_init_31 : decode cX2_init 31 = .ok (.aload_n 0, 1) := by decide +kernel
theorem dX2_init_32 : decode cX2_init 32 = .ok (.getfield 11, 3) := by decide +kernel
theorem dX2_init_35 : decode cX2_init 35 = .ok (.iload_n 1, 1) := by decide +kernel
theorem dX2_init_36 : decode cX2_init 36 = .ok (.new 9, 3) := by decide +kernel
theorem dX2_init_39 : decode cX2_init 39 = .ok (.dup, 1) := by decide +kernel
theorem dX2_init_40 : decode cX2_init 40 = .ok (.invokespecial 24, 3) := by decide +kernel
theorem dX2_init_43 : decode cX2_init 43 = .ok (.aastore, 1) := by decide +kernel
theorem dX2_init_44 : decode cX2_init 44 = .ok (.iinc 1 1, 3) := by decide +kernel
theorem dX2_init_47 : decode cX2_init 47 = .ok (.goto (-22), 3) := by decide +kernel
theorem dX2_init_50 : decode cX2_init 50 = .ok (.return_, 1) := by decide +kernel
set_option maxRecDepth 20000 in
theorem ggX2_save_X0_copyFrom : GoodIn wsX2_save wsX0_copyFrom := goodIn_r _ [8, 9, 10, 11, 12, 13, 14, 15, 16, 17, 18, 19, 20, 24, 25, 26, 27, 28, 29, 30, 31] (by decide +kernel) (by decide +kernel)
set_option maxRecDepth 20000 in
theorem gX2_save_X0_copyFrom : GoodIn wsX2_save (wsV RX2 25 RX0 yX0_copyFrom wsX0_copyFrom) := goodIn_app (goodIn_of _ (by decide +kernel)) ggX2_save_X0_copyFrom
theorem dX2_save_0 : decode cX2_save 0 = .ok (.aload_n 0, 1) := by decide +kernel
theorem dX2_save_1 : decode cX2_save 1 = .ok (.getfield 21, 3) := by decide +kernel
theorem dX2_save_4 : decode cX2_save 4 = .ok (.bipush 8, 2) := by decide +kernel
theorem dX2_save_6 : decode cX2_save 6 = .ok (.if_icmp .lt 26, 3) := by decide +kernel
theorem dX2_save_9 : decode cX2_save 9 = .ok (.aload_n 0, 1) := by decide +kernel
theorem dX2_save_10 : decode cX2_save 10 = .ok (.aload_n 0, 1) := by decide +kernel
theorem dX2_save_11 : decode cX2_save 11 = .ok (.getfield 17, 3) := by decide +kernel
theorem dX2_save_14 : decode cX2_save 14 = .ok (.iconst 1, 1) := by decide +kernel
theorem dX2_save_15 : decode cX2_save 15 = .ok (.iadd, 1) := by decide +kernel
theorem dX2_save_16 : decode cX2_save 16 = .ok (.bipush 8, 2) := by decide +kernel
theorem dX2_save_18 : decode cX2_save 18 = .ok (.irem, 1) := by decide +kernel
theorem dX2_save_19 : decode cX2_save 19 = .ok (.putfield 17, 3) := by decide +kernel
theorem dX2_save_22 : decode cX2_save 22 = .ok (.aload_n 0, 1) := by decide +kernel
theorem dX2_save_23 : decode cX2_save 23 = .ok (.dup, 1) := by decide +kernel
theorem dX2_save_24 : decode cX2_save 24 = .ok (.getfield 21, 3) := by decide +kernel
theorem dX2_save_27 : decode cX2_save 27 = .ok (.iconst 1, 1) := by decide +kernel
theorem dX2_save_28 : decode cX2_save 28 = .ok (.isub, 1) := by decide +kernel
theorem dX2_save_29 : decode cX2_save 29 = .ok (.putfield 21, 3) := by decide +kernel
theorem dX2_save_32 : decode cX2_save 32 = .ok (.aload_n 0, 1) := by decide +kernel
theorem dX2_save_33 : decode cX2_save 33 = .ok (.getfield 11, 3) := by decide +kernel
theorem dX2_save_36 : decode cX2_save 36 = .ok (.aload_n 0, 1) := by decide +kernel
theorem dX2_save_37 : decode cX2_save 37 = .ok (.getfield 17, 3) := by decide +kernel
theorem dX2_save_40 : decode cX2_save 40 = .ok (.aload_n 0, 1) := by decide +kernel
theorem dX2_save_41 : decode cX2_save 41 = .ok (.getfield 21, 3) := by decide +kernel
theorem dX2_save_44 : decode cX2_save 44 = .ok (.iadd, 1) := by decide +kernel
theorem dX2_save_45 : decode cX2_save 45 = .ok (.bipush 8, 2) := by decide +kernel
theorem dX2_save_47 : decode cX2_save 47 = .ok (.irem, 1) := by decide +kernel
theorem dX2_save_48 : decode cX2_save 48 = .ok (.aaload, 1) := by decide +kernel
theorem dX2_save_49 : decode cX2_save 49 = .ok (.aload_n 1, 1) := by decide +kernel
theorem dX2_save_50 : decode cX2_save 50 = .ok (.invokevirtual 25, 3) := by decide +kernel
theorem dX2_save_53 : decode cX2_save 53 = .ok (.aload_n 0, 1) := by decide +kernel
theorem dX2_save_54 : decode cX2_save 54 = .ok (.dup, 1) := by decide +kernel
theorem dX2_save_55 : decode cX2_save 55 = .ok (.getfield 21, 3) := by decide +kernel
theorem dX2_save_58 : decode cX2_save 58 = .ok (.iconst 1, 1) := by decide +kernel
theorem dX2_save_59 : decode cX2_save 59 = .ok (.iadd, 1) := by decide +kernel
theorem dX2_save_60 : decode cX2_save 60 = .ok (.putfield 21, 3) := by decide +kernel
theorem dX2_save_63 : decode cX2_save 63 = .ok (.return_, 1) := by decide +kernel
set_option maxRecDepth 20000 in
theorem ggX2_restore_X0_copyFrom : GoodIn wsX2_restore wsX0_copyFrom := goodIn_r _ [8, 9, 10, 11, 12, 13, 14, 15, 16, 17, 18, 19, 20, 24, 25, 26, 27, 28, 29, 30, 31] (by decide +kernel) (by decide +kernel)
set_option maxRecDepth 20000 in
theorem gX2_restore_X0_copyFrom : GoodIn wsX2_restore (wsV RX2 25 RX0 yX0_copyFrom wsX0_copyFrom) := goodIn_app (goodIn_of _ (by decide +kernel)) ggX2_restore_X0_copyFrom
theorem dX2_restore_0 : decode cX2_restore 0 = .ok (.aload_n 0, 1) := by decide +kernel
theorem dX2_restore_1 : decode cX2_restore 1 = .ok (.dup, 1) := by decide +kernel
theorem dX2_restore_2 : decode cX2_restore 2 = .ok (.getfield 21, 3) := by decide +kernel
theorem dX2_restore_5 : decode cX2_restore 5 = .ok (.iconst 1, 1) := by decide +kernel
theorem dX2_restore_6 : decode cX2_restore 6 = .ok (.isub, 1) := by decide +kernel
theorem dX2_restore_7 : decode cX2_restore 7 = .ok (.putfield 21, 3) := by decide +kernel
theorem dX2_restore_10 : decode cX2_restore 10 = .ok (.aload_n 1, 1) := by decide +kernel
theorem dX2_restore_11 : decode cX2_restore 11 = .ok (.aload_n 0, 1) := by decide +kernel
theorem dX2_restore_12 : decode cX2_restore 12 = .ok (.getfield 11, 3) := by decide +kernel
theorem dX2_restore_15 : decode cX2_restore 15 = .ok (.aload_n 0, 1) := by decide +kernel
theorem dX2_restore_16 : decode cX2_restore 16 = .ok (.getfield 17, 3) := by decide +kernel
theorem dX2_restore_19 : decode cX2_restore 19 = .ok (.aload_n 0, 1) := by decide +kernel
theorem dX2_restore_20 : decode cX2_restore 20 = .ok (.getfield 21, 3) := by decide +kernel
theorem dX2_restore_23 : decode cX2_restore 23 = .ok (.iadd, 1) := by decide +kernel
theorem dX2_restore_24 : decode cX2_restore 24 = .ok (.bipush 8, 2) := by decide +kernel
theorem dX2_restore_26 : decode cX2_restore 26 = .ok (.irem, 1) := by decide +kernel
theorem dX2_restore_27 : decode cX2_restore 27 = .ok (.aaload, 1) := by decide +kernel
theorem dX2_restore_28 : decode cX2_restore 28 = .ok (.invokevirtual 25, 3) := by decide +kernel
theorem dX2_restore_31 : decode cX2_restore 31 = .ok (.return_, 1) := by decide +kernel
theorem dX3_init_0 : decode cX3_init 0 = .ok (.aload_n 0, 1) := by decide +kernel
theorem dX3_init_1 : decode cX3_init 1 = .ok (.invokespecial 3, 3) := by decide +kernel
theorem dX3_init_4 : decode cX3_init 4 = .ok (.aload_n 0, 1) := by decide +kernel
theorem dX3_init_5 : decode cX3_init 5 = .ok (.iconst 0, 1) := by decide +kernel
theorem dX3_init_6 : decode cX3_init 6 = .ok (.putfield 9, 3) := by decide +kernel
theorem dX3_init_9 : decode cX3_init 9 = .ok (.aload_n 0, 1) := by decide +kernel
theorem dX3_init_10 : decode cX3_init 10 = .ok (.iconst 0, 1) := by decide +kernel
theorem dX3_init_11 : decode cX3_init 11 = .ok (.putfield 15, 3) := by decide +kernel
theorem dX3_init_14 : decode cX3_init 14 = .ok (.aload_n 0, 1) := by decide +kernel
theorem dX3_init_15 : decode cX3_init 15 = .ok (.iconst 0, 1) := by decide +kernel
theorem dX3_init_16 : decode cX3_init 16 = .ok (.putfield 18, 3) := by decide +kernel
theorem dX3_init_19 : decode cX3_init 19 = .ok (.aload_n 0, 1) := by decide +kernel
theorem dX3_init_20 : decode cX3_init 20 = .ok (.iconst 0, 1) := by decide +kernel
theorem dX3_init_21 : decode cX3_init 21 = .ok (.putfield 21, 3) := by decide +kernel
theorem dX3_init_24 : decode cX3_init 24 = .ok (.return_, 1) := by decide +kernel
set_option maxRecDepth 20000 in
theorem ggX3_read_X3_ruledColors : GoodIn wsX3_read wsX3_ruledColors := goodIn_r _ [9, 10] (by decide +kernel) (by decide +kernel)
set_option maxRecDepth 20000 in
theorem gX3_read_X3_ruledColors : GoodIn wsX3_read (va_wsS RX3 30 yX3_ruledColors wsX3_ruledColors) := goodIn_app (goodIn_of _ (by decide +kernel)) ggX3_read_X3_ruledColors
set_option maxRecDepth 20000 in
theorem ggX3_read_X0_neighbor : GoodIn wsX3_read wsX0_neighbor := goodIn_r _ [15, 16, 17, 18, 19, 14, 20, 21, 47, 48, 49, 50, 51, 52, 53, 54] (by decide +kernel) (by decide +kernel)
set_option maxRecDepth 20000 in
theorem gX3_read_X0_neighbor : GoodIn wsX3_read (wsV RX3 34 RX0 yX0_neighbor wsX0_neighbor) := goodIn_app (goodIn_of _ (by decide +kernel)) ggX3_read_X0_neighbor
set_option maxRecDepth 20000 in
theorem ggX3_read_X0_isEmpty : GoodIn wsX3_read wsX0_isEmpty := goodIn_r _ [25, 26, 47, 48, 49, 50, 51, 52, 53, 54] (by decide +kernel) (by decide +kernel)
set_option maxRecDepth 20000 in
theorem gX3_read_X0_isEmpty : GoodIn wsX3_read (wsV RX3 38 RX0 yX0_isEmpty wsX0_isEmpty) := goodIn_app (goodIn_of _ (by decide +kernel)) ggX3_read_X0_isEmpty
set_option maxRecDepth 20000 in
theorem ggX3_read_X0_lookIn : GoodIn wsX3_read wsX0_lookIn := goodIn_r _ [30, 31, 26, 47, 48, 49, 50, 51, 52, 53, 54] (by decide +kernel) (by decide +kernel)
set_option maxRecDepth 20000 in
theorem gX3_read_X0_lookIn : GoodIn wsX3_read (wsV RX3 42 RX0 yX0_lookIn wsX0_lookIn) := goodIn_app (goodIn_of _ (by decide +kernel)) ggX3_read_X0_lookIn
set_option maxRecDepth 20000 in
theorem ggX3_read_X6_opposite : GoodIn wsX3_read wsX6_opposite := goodIn_r _ [34] (by decide +kernel) (by decide +kernel)
set_option maxRecDepth 20000 in
theorem gX3_read_X6_opposite_n45 : GoodIn wsX3_read (wsX6_opposite) := ggX3_read_X6_opposite
set_option maxRecDepth 20000 in
theorem ggX3_read_X6_colorsAt : GoodIn wsX3_read wsX6_colorsAt := goodIn_r _ [36, 37] (by decide +kernel) (by decide +kernel)
set_option maxRecDepth 20000 in
theorem gX3_read_X6_colorsAt_n48 : GoodIn wsX3_read (wsX6_colorsAt) := ggX3_read_X6_colorsAt
set_option maxRecDepth 20000 in
theorem ggX3_read_X3_readNeighbor : GoodIn wsX3_read wsX3_readNeighbor := goodIn_r _ [41, 2, 10, 3, 4, 42, 43, 44, 45, 46] (by decide +kernel) (by decide +kernel)
set_option maxRecDepth 20000 in
theorem gX3_read_X3_readNeighbor : GoodIn wsX3_read (wsV RX3 51 RX3 yX3_readNeighbor wsX3_readNeighbor) := goodIn_app (goodIn_of _ (by decide +kernel)) ggX3_read_X3_readNeighbor
theorem dX3_read_0 : decode cX3_read 0 = .ok (.aload_n 0, 1) := by decide +kernel
theorem dX3_read_1 : decode cX3_read 1 = .ok (.iconst 0, 1) := by decide +kernel
theorem dX3_read_2 : decode cX3_read 2 = .ok (.putfield 9, 3) := by decide +kernel
theorem dX3_read_5 : decode cX3_read 5 = .ok (.aload_n 0, 1) := by decide +kernel
theorem dX3_read_6 : decode cX3_read 6 = .ok (.iconst 0, 1) := by decide +kernel
theorem dX3_read_7 : decode cX3_read 7 = .ok (.putfield 15, 3) := by decide +kernel
theorem dX3_read_10 : decode cX3_read 10 = .ok (.aload_n 0, 1) := by decide +kernel
theorem dX3_read_11 : decode cX3_read 11 = .ok (.iconst 0, 1) := by decide +kernel
theorem dX3_read_12 : decode cX3_read 12 = .ok (.putfield 18, 3) := by decide +kernel
theorem dX3_read_15 : decode cX3_read 15 = .ok (.aload_n 0, 1) := by decide +kernel
theorem dX3_read_16 : decode cX3_read 16 = .ok (.iconst 0, 1) := by decide +kernel
theorem dX3_read_17 : decode cX3_read 17 = .ok (.putfield 21, 3) := by decide +kernel
theorem dX3_read_20 : decode cX3_read 20 = .ok (.aload_n 1, 1) := by decide +kernel
theorem dX3_read_21 : decode cX3_read 21 = .ok (.getfield 25, 3) := by decide +kernel
theorem dX3_read_24 : decode cX3_read 24 = .ok (.invokestatic 30, 3) := by decide +kernel
theorem dX3_read_27 : decode cX3_read 27 = .ok (.istore_n 3, 1) := by decide +kernel
theorem dX3_read_28 : decode cX3_read 28 = .ok (.iconst 0, 1) := by decide +kernel
theorem dX3_read_29 : decode cX3_read 29 = .ok (.istore 4, 2) := by decide +kernel
theorem dX3_read_31 : decode cX3_read 31 = .ok (.iload 4, 2) := by decide +kernel
theorem dX3_read_33 : decode cX3_read 33 = .ok (.iconst 4, 1) := by decide +kernel
theorem dX3_read_34 : decode cX3_read 34 = .ok (.if_icmp .ge 72, 3) := by decide +kernel
theorem dX3_read_37 : decode cX3_read 37 = .ok (.aload_n 1, 1) := by decide +kernel
theorem dX3_read_38 : decode cX3_read 38 = .ok (.iload_n 2, 1) := by decide +kernel
theorem dX3_read_39 : decode cX3_read 39 = .ok (.iload 4, 2) := by decide +kernel
theorem dX3_read_41 : decode cX3_read 41 = .ok (.invokevirtual 34, 3) := by decide +kernel
theorem dX3_read_44 : decode cX3_read 44 = .ok (.istore 5, 2) := by decide +kernel
theorem dX3_read_46 : decode cX3_read 46 = .ok (.iload 5, 2) := by decide +kernel
theorem dX3_read_48 : decode cX3_read 48 = .ok (.iconst (-1), 1) := by decide +kernel
theorem dX3_read_49 : decode cX3_read 49 = .ok (.if_icmp .ne 21, 3) := by decide +kernel
theorem dX3_read_52 : decode cX3_read 52 = .ok (.aload_n 0, 1) := by decide +kernel
theorem dX3_read_53 : decode cX3_read 53 = .ok (.dup, 1) := by decide +kernel
theorem dX3_read_54 : decode cX3_read 54 = .ok (.getfield 9, 3) := by decide +kernel
theorem dX3_read_57 : decode cX3_read 57 = .ok (.iload_n 3, 1) := by decide +kernel
theorem dX3_read_58 : decode cX3_read 58 = .ok (.iconst 4, 1) := by decide +kernel
theorem dX3_read_59 : decode cX3_read 59 = .ok (.iload 4, 2) := by decide +kernel
theorem dX3_read_61 : decode cX3_read 61 = .ok (.imul, 1) := by decide +kernel
theorem dX3_read_62 : decode cX3_read 62 = .ok (.ishl, 1) := by decide +kernel
theorem dX3_read_63 : decode cX3_read 63 = .ok (.ior, 1) := by decide +kernel
theorem dX3_read_64 : decode cX3_read 64 = .ok (.putfield 9, 3) := by decide +kernel
theorem dX3_read_67 : decode cX3_read 67 = .ok (.goto 33, 3) := by decide +kernel
theorem dX3_read_70 : decode cX3_read 70 = .ok (.aload_n 1, 1) := by decide +kernel
theorem dX3_read_71 : decode cX3_read 71 = .ok (.iload 5, 2) := by decide +kernel
theorem dX3_read_73 : decode cX3_read 73 = .ok (.invokevirtual 38, 3) := by decide +kernel
theorem dX3_read_76 : decode cX3_read 76 = .ok (.ifCond .ne 24, 3) := by decide +kernel
theorem dX3_read_79 : decode cX3_read 79 = .ok (.aload_n 0, 1) := by decide +kernel
theorem dX3_read_80 : decode cX3_read 80 = .ok (.aload_n 1, 1) := by decide +kernel
theorem dX3_read_81 : decode cX3_read 81 = .ok (.iload 5, 2) := by decide +kernel
theorem dX3_read_83 : decode cX3_read 83 = .ok (.invokevirtual 42, 3) := by decide +kernel
theorem dX3_read_86 : decode cX3_read 86 = .ok (.iload 4, 2) := by decide +kernel
theorem dX3_read_88 : decode cX3_read 88 = .ok (.invokestatic 45, 3) := by decide +kernel
theorem dX3_read_91 : decode cX3_read 91 = .ok (.invokestatic 48, 3) := by decide +kernel
theorem dX3_read_94 : decode cX3_read 94 = .ok (.iload 4, 2) := by decide +kernel
theorem dX3_read_96 : decode cX3_read 96 = .ok (.iload_n 3, 1) := by decide +kernel
theorem dX3_read_97 : decode cX3_read 97 = .ok (.invokevirtual 51, 3) := by decide +kernel
theorem dX3_read_100 : decode cX3_read 100 = .ok (.iinc 4 1, 3) := by decide +kernel
theorem dX3_read_103 : decode cX3_read 103 = .ok (.goto (-72), 3) := by decide +kernel
theorem dX3_read_106 : decode cX3_read 106 = .ok (.return_, 1) := by decide +kernel
theorem dX3_readNeighbor_0 : decode cX3_readNeighbor 0 = .ok (.aload_n 0, 1) := by decide +kernel
theorem dX3_readNeighbor_1 : decode cX3_readNeighbor 1 = .ok (.dup, 1) := by decide +kernel
theorem dX3_readNeighbor_2 : decode cX3_readNeighbor 2 = .ok (.getfield 15, 3) := by decide +kernel
theorem dX3_readNeighbor_5 : decode cX3_readNeighbor 5 = .ok (.ldc 55, 2) := by decide +kernel
theorem dX3_readNeighbor_7 : decode cX3_readNeighbor 7 = .ok (.iconst 4, 1) := by decide +kernel
theorem dX3_readNeighbor_8 : decode cX3_readNeighbor 8 = .ok (.iload_n 2, 1) := by decide +kernel
theorem dX3_readNeighbor_9 : decode cX3_readNeighbor 9 = .ok (.imul, 1) := by decide +kernel
theorem dX3_readNeighbor_10 : decode cX3_readNeighbor 10 = .ok (.ishl, 1) := by decide +kernel
theorem dX3_readNeighbor_11 : decode cX3_readNeighbor 11 = .ok (.ior, 1) := by decide +kernel
theorem dX3_readNeighbor_12 : decode cX3_readNeighbor 12 = .ok (.putfield 15, 3) := by decide +kernel
theorem dX3_readNeighbor_15 : decode cX3_readNeighbor 15 = .ok (.aload_n 0, 1) := by decide +kernel
theorem dX3_readNeighbor_16 : decode cX3_readNeighbor 16 = .ok (.dup, 1) := by decide +kernel
theorem dX3_readNeighbor_17 : decode cX3_readNeighbor 17 = .ok (.getfield 18, 3) := by decide +kernel
theorem dX3_readNeighbor_20 : decode cX3_readNeighbor 20 = .ok (.iload_n 1, 1) := by decide +kernel
theorem dX3_readNeighbor_21 : decode cX3_readNeighbor 21 = .ok (.iconst 4, 1) := by decide +kernel
theorem dX3_readNeighbor_22 : decode cX3_readNeighbor 22 = .ok (.iload_n 2, 1) := by decide +kernel
theorem dX3_readNeighbor_23 : decode cX3_readNeighbor 23 = .ok (.imul, 1) := by decide +kernel
theorem dX3_readNeighbor_24 : decode cX3_readNeighbor 24 = .ok (.ishl, 1) := by decide +kernel
theorem dX3_readNeighbor_25 : decode cX3_readNeighbor 25 = .ok (.ior, 1) := by decide +kernel
theorem dX3_readNeighbor_26 : decode cX3_readNeighbor 26 = .ok (.putfield 18, 3) := by decide +kernel
theorem dX3_readNeighbor_29 : decode cX3_readNeighbor 29 = .ok (.iload_n 3, 1) := by decide +kernel
theorem dX3_readNeighbor_30 : decode cX3_readNeighbor 30 = .ok (.bipush 15, 2) := by decide +kernel
theorem dX3_readNeighbor_32 : decode cX3_readNeighbor 32 = .ok (.iand, 1) := by decide +kernel
theorem dX3_readNeighbor_33 : decode cX3_readNeighbor 33 = .ok (.ifCond .eq 15, 3) := by decide +kernel
theorem dX3_readNeighbor_36 : decode cX3_readNeighbor 36 = .ok (.iload_n 1, 1) := by decide +kernel
theorem dX3_readNeighbor_37 : decode cX3_readNeighbor 37 = .ok (.bipush 15, 2) := by decide +kernel
theorem dX3_readNeighbor_39 : decode cX3_readNeighbor 39 = .ok (.iand, 1) := by decide +kernel
theorem dX3_readNeighbor_40 : decode cX3_readNeighbor 40 = .ok (.ifCond .ne 8, 3) := by decide +kernel
theorem dX3_readNeighbor_43 : decode cX3_readNeighbor 43 = .ok (.aload_n 0, 1) := by decide +kernel
theorem dX3_readNeighbor_44 : decode cX3_readNeighbor 44 = .ok (.iconst 1, 1) := by decide +kernel
theorem dX3_readNeighbor_45 : decode cX3_readNeighbor 45 = .ok (.putfield 21, 3) := by decide +kernel
theorem dX3_readNeighbor_48 : decode cX3_readNeighbor 48 = .ok (.iload_n 3, 1) := by decide +kernel
theorem dX3_readNeighbor_49 : decode cX3_readNeighbor 49 = .ok (.ldc 56, 2) := by decide +kernel
theorem dX3_readNeighbor_51 : decode cX3_readNeighbor 51 = .ok (.iand, 1) := by decide +kernel
theorem dX3_readNeighbor_52 : decode cX3_readNeighbor 52 = .ok (.ifCond .eq 15, 3) := by decide +kernel
theorem dX3_readNeighbor_55 : decode cX3_readNeighbor 55 = .ok (.iload_n 1, 1) := by decide +kernel
theorem dX3_readNeighbor_56 : decode cX3_readNeighbor 56 = .ok (.ldc 56, 2) := by decide +kernel
theorem dX3_readNeighbor_58 : decode cX3_readNeighbor 58 = .ok (.iand, 1) := by decide +kernel
theorem dX3_readNeighbor_59 : decode cX3_readNeighbor 59 = .ok (.ifCond .ne 8, 3) := by decide +kernel
theorem dX3_readNeighbor_62 : decode cX3_readNeighbor 62 = .ok (.aload_n 0, 1) := by decide +kernel
theorem dX3_readNeighbor_63 : decode cX3_readNeighbor 63 = .ok (.iconst 1, 1) := by decide +kernel
theorem dX3_readNeighbor_64 : decode cX3_readNeighbor 64 = .ok (.putfield 21, 3) := by decide +kernel
theorem dX3_readNeighbor_67 : decode cX3_readNeighbor 67 = .ok (.return_, 1) := by decide +kernel
theorem dX3_ruledColors_0 : decode cX3_ruledColors 0 = .ok (.iload_n 0, 1) := by decide +kernel
theorem dX3_ruledColors_1 : decode cX3_ruledColors 1 = .ok (.ifCond .ne 5, 3) := by decide +kernel
theorem dX3_ruledColors_4 : decode cX3_ruledColors 4 = .ok (.iconst 0, 1) := by decide +kernel
theorem dX3_ruledColors_5 : decode cX3_ruledColors 5 = .ok (.ireturn, 1) := by decide +kernel
theorem dX3_ruledColors_6 : decode cX3_ruledColors 6 = .ok (.iload_n 0, 1) := by decide +kernel
theorem dX3_ruledColors_7 : decode cX3_ruledColors 7 = .ok (.iconst 1, 1) := by decide +kernel
theorem dX3_ruledColors_8 : decode cX3_ruledColors 8 = .ok (.if_icmp .ne 8, 3) := by decide +kernel
theorem dX3_ruledColors_11 : decode cX3_ruledColors 11 = .ok (.bipush 15, 2) := by decide +kernel
theorem dX3_ruledColors_13 : decode cX3_ruledColors 13 = .ok (.goto 5, 3) := by decide +kernel
theorem dX3_ruledColors_16 : decode cX3_ruledColors 16 = .ok (.ldc 55, 2) := by decide +kernel
theorem dX3_ruledColors_18 : decode cX3_ruledColors 18 = .ok (.ireturn, 1) := by decide +kernel
theorem dX3_reasonAgainst_0 : decode cX3_reasonAgainst 0 = .ok (.iload_n 1, 1) := by decide +kernel
theorem dX3_reasonAgainst_1 : decode cX3_reasonAgainst 1 = .ok (.aload_n 0, 1) := by decide +kernel
theorem dX3_reasonAgainst_2 : decode cX3_reasonAgainst 2 = .ok (.getfield 9, 3) := by decide +kernel
theorem dX3_reasonAgainst_5 : decode cX3_reasonAgainst 5 = .ok (.iand, 1) := by decide +kernel
theorem dX3_reasonAgainst_6 : decode cX3_reasonAgainst 6 = .ok (.ifCond .eq 5, 3) := by decide +kernel
theorem dX3_reasonAgainst_9 : decode cX3_reasonAgainst 9 = .ok (.iconst 3, 1) := by decide +kernel
theorem dX3_reasonAgainst_10 : decode cX3_reasonAgainst 10 = .ok (.ireturn, 1) := by decide +kernel
theorem dX3_reasonAgainst_11 : decode cX3_reasonAgainst 11 = .ok (.iload_n 1, 1) := by decide +kernel
theorem dX3_reasonAgainst_12 : decode cX3_reasonAgainst 12 = .ok (.aload_n 0, 1) := by decide +kernel
theorem dX3_reasonAgainst_13 : decode cX3_reasonAgainst 13 = .ok (.getfield 18, 3) := by decide +kernel
theorem dX3_reasonAgainst_16 : decode cX3_reasonAgainst 16 = .ok (.ixor, 1) := by decide +kernel
theorem dX3_reasonAgainst_17 : decode cX3_reasonAgainst 17 = .ok (.aload_n 0, 1) := by decide +kernel
theorem dX3_reasonAgainst_18 : decode cX3_reasonAgainst 18 = .ok (.getfield 15, 3) := by decide +kernel
theorem dX3_reasonAgainst_21 : decode cX3_reasonAgainst 21 = .ok (.iand, 1) := by decide +kernel
theorem dX3_reasonAgainst_22 : decode cX3_reasonAgainst 22 = .ok (.istore_n 2, 1) := by decide +kernel
theorem dX3_reasonAgainst_23 : decode cX3_reasonAgainst 23 = .ok (.iload_n 2, 1) := by decide +kernel
theorem dX3_reasonAgainst_24 : decode cX3_reasonAgainst 24 = .ok (.ldc 57, 2) := by decide +kernel
theorem dX3_reasonAgainst_26 : decode cX3_reasonAgainst 26 = .ok (.iand, 1) := by decide +kernel
theorem dX3_reasonAgainst_27 : decode cX3_reasonAgainst 27 = .ok (.ifCond .eq 5, 3) := by decide +kernel
theorem dX3_reasonAgainst_30 : decode cX3_reasonAgainst 30 = .ok (.iconst 4, 1) := by decide +kernel
theorem dX3_reasonAgainst_31 : decode cX3_reasonAgainst 31 = .ok (.ireturn, 1) := by decide +kernel
theorem dX3_reasonAgainst_32 : decode cX3_reasonAgainst 32 = .ok (.iload_n 2, 1) := by decide +kernel
theorem dX3_reasonAgainst_33 : decode cX3_reasonAgainst 33 = .ok (.ifCond .eq 5, 3) := by decide +kernel
theorem dX3_reasonAgainst_36 : decode cX3_reasonAgainst 36 = .ok (.iconst 5, 1) := by decide +kernel
theorem dX3_reasonAgainst_37 : decode cX3_reasonAgainst 37 = .ok (.ireturn, 1) := by decide +kernel
theorem dX3_reasonAgainst_38 : decode cX3_reasonAgainst 38 = .ok (.aload_n 0, 1) := by decide +kernel
theorem dX3_reasonAgainst_39 : decode cX3_reasonAgainst 39 = .ok (.getfield 21, 3) := by decide +kernel
theorem dX3_reasonAgainst_42 : decode cX3_reasonAgainst 42 = .ok (.ifCond .eq 8, 3) := by decide +kernel
theorem dX3_reasonAgainst_45 : decode cX3_reasonAgainst 45 = .ok (.bipush 6, 2) := by decide +kernel
theorem dX3_reasonAgainst_47 : decode cX3_reasonAgainst 47 = .ok (.goto 4, 3) := by decide +kernel
theorem dX3_reasonAgainst_50 : decode cX3_reasonAgainst 50 = .ok (.iconst 0, 1) := by decide +kernel
theorem dX3_reasonAgainst_51 : decode cX3_reasonAgainst 51 = .ok (.ireturn, 1) := by decide +kernel
set_option maxRecDepth 20000 in
theorem ggX4_init_X0_init : GoodIn wsX4_init wsX0_init := goodIn_r _ [18, 19, 2, 3, 20, 21, 22, 23, 24, 25, 26, 27, 28, 36, 37, 38, 39, 40, 41, 42, 43] (by decide +kernel) (by decide +kernel)
set_option maxRecDepth 20000 in
theorem gX4_init_X0_init_n11 : GoodIn wsX4_init (wsX0_init) := ggX4_init_X0_init
set_option maxRecDepth 20000 in
theorem ggX4_init_X3_init : GoodIn wsX4_init wsX3_init := goodIn_r _ [30, 31, 2, 3, 32, 33, 34, 35, 51, 52, 53, 54] (by decide +kernel) (by decide +kernel)
set_option maxRecDepth 20000 in
theorem gX4_init_X3_init_n41 : GoodIn wsX4_init (wsX3_init) := ggX4_init_X3_init
theorem dX4_init_0 : decode cX4_init 0 = .ok (.aload_n 0, 1) := by decide +kernel
theorem dX4_init_1 : decode cX4_init 1 = .ok (.invokespecial 3, 3) := by decide +kernel
theorem dX4_init_4 : decode cX4_init 4 = .ok (.aload_n 0, 1) := by decide +kernel
theorem dX4_init_5 : decode cX4_init 5 = .ok (.new 9, 3) := by decide +kernel
theorem dX4_init_8 : decode cX4_init 8 = .ok (.dup, 1) := by decide +kernel
theorem dX4_init_9 : decode cX4_init 9 = .ok (.invokespecial 11, 3) := by decide +kernel
theorem dX4_init_12 : decode cX4_init 12 = .ok (.putfield 12, 3) := by decide +kernel
theorem dX4_init_15 : decode cX4_init 15 = .ok (.aload_n 0, 1) := by decide +kernel
theorem dX4_init_16 : decode cX4_init 16 = .ok (.iconst 0, 1) := by decide +kernel
theorem dX4_init_17 : decode cX4_init 17 = .ok (.putfield 18, 3) := by decide +kernel
theorem dX4_init_20 : decode cX4_init 20 = .ok (.aload_n 0, 1) := by decide +kernel
theorem dX4_init_21 : decode cX4_init 21 = .ok (.bipush 12, 2) := by decide +kernel
theorem dX4_init_23 : decode cX4_init 23 = .ok (.anewarray 22, 3) := by decide +kernel
theorem dX4_init_26 : decode cX4_init 26 = .ok (.putfield 24, 3) := by decide +kernel
theorem dX4_init_29 : decode cX4_init 29 = .ok (.aload_n 0, 1) := by decide +kernel
theorem dX4_init_30 : decode cX4_init 30 = .ok (.iconst 0, 1) := by decide +kernel
theorem dX4_init_31 : decode cX4_init 31 = .ok (.putfield 28, 3) := by decide +kernel
theorem dX4_init_34 : decode cX4_init 34 = .ok (.aload_n 0, 1) := by decide +kernel
theorem dX4_init_35 : decode cX4_init 35 = .ok (.iconst 0, 1) := by decide +kernel
theorem dX4_init_36 : decode cX4_init 36 = .ok (.putfield 31, 3) := by decide +kernel
theorem dX4_init_39 : decode cX4_init 39 = .ok (.aload_n 0, 1) := by decide +kernel
theorem dX4_init_40 : decode cX4_init 40 = .ok (.iconst 0, 1) := by decide +kernel
theorem dX4_init_41 : decode cX4_init 41 = .ok (.putfield 34, 3) := by decide +kernel
theorem dX4_init_44 : decode cX4_init 44 = .ok (.aload_n 0, 1) := by decide +kernel
theorem dX4_init_45 : decode cX4_init 45 = .ok (.iconst 0, 1) := by decide +kernel
theorem dX4_init_46 : decode cX4_init 46 = .ok (.putfield 38, 3) := by decide +kernel
theorem dX4_init_49 : decode cX4_init 49 = .ok (.iconst 0, 1) := by decide +kernel
theorem dX4_init_50 : decode cX4_init 50 = .ok (.istore_n 1, 1) := by decide +kernel
theorem dX4_init_51 : decode cX4_init 51 = .ok (.iload_n 1, 1) := by decide +kernel
theorem dX4_init_52 : decode cX4_init 52 = .ok (.bipush 12, 2) := by decide +kernel
theorem dX4_init_54 : decode cX4_init 54 = .ok (.if_icmp .ge 22, 3) := by decide +kernel
theorem dX4_init_57 : decode cX4_init 57 = .ok (.aload_n 0, 1) := by decide +kernel
theorem dX4_init_58 : decode cX4_init 58 = .ok (.getfield 24, 3) := by decide +kernel
theorem dX4_init_61 : decode cX4_init 61 = .ok (.iload_n 1, 1) := by decide +kernel
theorem dX4_init_62 : decode cX4_init 62 = .ok (.new 22, 3) := by decide +kernel
theorem dX4_init_65 : decode cX4_init 65 = .ok (.dup, 1) := by decide +kernel
theorem dX4_init_66 : decode cX4_init 66 = .ok (.invokespecial 41, 3) := by decide +kernel
theorem dX4_init_69 : decode cX4_init 69 = .ok (.aastore, 1) := by decide +kernel
theorem dX4_init_70 : decode cX4_init 70 = .ok (.iinc 1 1, 3) := by decide +kernel
theorem dX4_init_73 : decode cX4_init 73 = .ok (.goto (-22), 3) := by decide +kernel
theorem dX4_init_76 : decode cX4_init 76 = .ok (.return_, 1) := by decide +kernel
set_option maxRecDepth 20000 in
theorem ggX4_run_X0_copyFrom : GoodIn wsX4_run wsX0_copyFrom := goodIn_r _ [6, 7, 8, 9, 10, 11, 12, 13, 14, 15, 16, 17, 18, 107, 108, 109, 110, 111, 112, 113, 114] (by decide +kernel) (by decide +kernel)
set_option maxRecDepth 20000 in
theorem gX4_run_X0_copyFrom : GoodIn wsX4_run (wsV RX4 42 RX0 yX0_copyFrom wsX0_copyFrom) := goodIn_app (goodIn_of _ (by decide +kernel)) ggX4_run_X0_copyFrom
set_option maxRecDepth 20000 in
theorem ggX4_run_X4_runTrial : GoodIn wsX4_run wsX4_runTrial := goodIn_r _ [23, 24, 25, 26, 27, 28, 29, 30, 31, 22, 32, 1, 33, 34, 35, 36, 37, 38, 5, 39, 7, 8, 40, 41, 42, 43, 12, 44, 45, 46, 47, 48, 49, 50, 51, 52, 53, 54, 55, 56, 57, 58, 59, 60, 61, 62, 63, 64, 65, 66, 67, 18, 68, 69, 70, 71, 72, 73, 74, 75, 76, 77, 78, 79, 80, 81, 82, 17, 83, 84, 85, 86, 87, 88, 89, 90, 91, 92, 93, 94, 95, 96, 97, 98, 99, 100, 101, 102, 103, 104, 105, 106, 107, 108, 109, 110, 111, 112, 113, 114, 115, 116, 117, 118] (by decide +kernel) (by decide +kernel)
set_option maxRecDepth 20000 in
theorem gX4_run_X4_runTrial : GoodIn wsX4_run (wsV RX4 46 RX4 yX4_runTrial wsX4_runTrial) := goodIn_app (goodIn_of _ (by decide +kernel)) ggX4_run_X4_runTrial
theorem dX4_run_0 : decode cX4_run 0 = .ok (.aload_n 0, 1) := by decide +kernel
theorem dX4_run_1 : decode cX4_run 1 = .ok (.getfield 12, 3) := by decide +kernel
theorem dX4_run_4 : decode cX4_run 4 = .ok (.aload_n 1, 1) := by decide +kernel
theorem dX4_run_5 : decode cX4_run 5 = .ok (.invokevirtual 42, 3) := by decide +kernel
theorem dX4_run_8 : decode cX4_run 8 = .ok (.aload_n 0, 1) := by decide +kernel
theorem dX4_run_9 : decode cX4_run 9 = .ok (.iload_n 2, 1) := by decide +kernel
theorem dX4_run_10 : decode cX4_run 10 = .ok (.invokevirtual 46, 3) := by decide +kernel
theorem dX4_run_13 : decode cX4_run 13 = .ok (.return_, 1) := by decide +kernel
set_option maxRecDepth 20000 in
theorem ggX4_isSure_X0_copyFrom : GoodIn wsX4_isSure wsX0_copyFrom := goodIn_r _ [8, 9, 10, 11, 12, 13, 14, 15, 16, 17, 18, 19, 20, 113, 114, 115, 116, 117, 118, 119, 120] (by decide +kernel) (by decide +kernel)
set_option maxRecDepth 20000 in
theorem gX4_isSure_X0_copyFrom : GoodIn wsX4_isSure (wsV RX4 42 RX0 yX0_copyFrom wsX0_copyFrom) := goodIn_app (goodIn_of _ (by decide +kernel)) ggX4_isSure_X0_copyFrom
set_option maxRecDepth 20000 in
theorem ggX4_isSure_X0_removeAllBut : GoodIn wsX4_isSure wsX0_removeAllBut := goodIn_r _ [24, 25, 26, 27, 7, 28, 9, 10, 29, 30, 31, 32, 14, 33, 34, 35, 36, 19, 113, 114, 115, 116, 117, 118, 119, 120] (by decide +kernel) (by decide +kernel)
set_option maxRecDepth 20000 in
theorem gX4_isSure_X0_removeAllBut : GoodIn wsX4_isSure (wsV RX4 50 RX0 yX0_removeAllBut wsX0_removeAllBut) := goodIn_app (goodIn_of _ (by decide +kernel)) ggX4_isSure_X0_removeAllBut
set_option maxRecDepth 20000 in
theorem ggX4_isSure_X4_runTrial : GoodIn wsX4_isSure wsX4_runTrial := goodIn_r _ [41, 42, 2, 43, 3, 44, 45, 46, 47, 40, 48, 1, 49, 50, 51, 52, 26, 27, 7, 28, 9, 10, 53, 30, 31, 32, 14, 54, 55, 56, 57, 58, 59, 60, 61, 62, 63, 64, 65, 66, 67, 68, 69, 70, 71, 25, 72, 73, 74, 75, 76, 20, 77, 78, 79, 80, 81, 82, 83, 84, 85, 86, 87, 88, 89, 90, 91, 19, 92, 93, 94, 95, 96, 97, 98, 99, 100, 101, 102, 103, 104, 105, 34, 35, 36, 106, 107, 108, 109, 110, 111, 112, 113, 114, 115, 116, 117, 118, 119, 120, 121, 122, 123, 124] (by decide +kernel) (by decide +kernel)
set_option maxRecDepth 20000 in
theorem gX4_isSure_X4_runTrial : GoodIn wsX4_isSure (wsV RX4 46 RX4 yX4_runTrial wsX4_runTrial) := goodIn_app (goodIn_of _ (by decide +kernel)) ggX4_isSure_X4_runTrial
theorem dX4_isSure_0 : decode cX4_isSure 0 = .ok (.aload_n 0, 1) := by decide +kernel
theorem dX4_isSure_1 : decode cX4_isSure 1 = .ok (.getfield 12, 3) := by decide +kernel
theorem dX4_isSure_4 : decode cX4_isSure 4 = .ok (.aload_n 1, 1) := by decide +kernel
theorem dX4_isSure_5 : decode cX4_isSure 5 = .ok (.invokevirtual 42, 3) := by decide +kernel
theorem dX4_isSure_8 : decode cX4_isSure 8 = .ok (.aload_n 0, 1) := by decide +kernel
theorem dX4_isSure_9 : decode cX4_isSure 9 = .ok (.getfield 12, 3) := by decide +kernel
theorem dX4_isSure_12 : decode cX4_isSure 12 = .ok (.iload_n 2, 1) := by decide +kernel
theorem dX4_isSure_13 : decode cX4_isSure 13 = .ok (.invokevirtual 50, 3) := by decide +kernel
theorem dX4_isSure_16 : decode cX4_isSure 16 = .ok (.pop, 1) := by decide +kernel
theorem dX4_isSure_17 : decode cX4_isSure 17 = .ok (.aload_n 0, 1) := by decide +kernel
theorem dX4_isSure_18 : decode cX4_isSure 18 = .ok (.iconst 2, 1) := by decide +kernel
theorem dX4_isSure_19 : decode cX4_isSure 19 = .ok (.invokevirtual 46, 3) := by decide +kernel
theorem dX4_isSure_22 : decode cX4_isSure 22 = .ok (.aload_n 0, 1) := by decide +kernel
theorem dX4_isSure_23 : decode cX4_isSure 23 = .ok (.getfield 18, 3) := by decide +kernel
theorem dX4_isSure_26 : decode cX4_isSure 26 = .ok (.iconst 1, 1) := by decide +kernel
theorem dX4_isSure_27 : decode cX4_isSure 27 = .ok (.if_icmp .ne 14, 3) := by decide +kernel
theorem dX4_isSure_30 : decode cX4_isSure 30 = .ok (.aload_n 0, 1) := by decide +kernel
theorem dX4_isSure_31 : decode cX4_isSure 31 = .ok (.getfield 34, 3) := by decide +kernel
theorem dX4_isSure_34 : decode cX4_isSure 34 = .ok (.ifCond .ne 7, 3) := by decide +kernel
theorem dX4_isSure_37 : decode cX4_isSure 37 = .ok (.iconst 1, 1) := by decide +kernel
theorem dX4_isSure_38 : decode cX4_isSure 38 = .ok (.goto 4, 3) := by decide +kernel
theorem dX4_isSure_41 : decode cX4_isSure 41 = .ok (.iconst 0, 1) := by decide +kernel
theorem dX4_isSure_42 : decode cX4_isSure 42 = .ok (.ireturn, 1) := by decide +kernel
theorem dX4_result_0 : decode cX4_result 0 = .ok (.iload_n 1, 1) := by decide +kernel
theorem dX4_result_1 : decode cX4_result 1 = .ok (.lookupswitch 37 #[(0, 27), (1, 32)], 27) := by decide +kernel
theorem dX4_result_28 : decode cX4_result 28 = .ok (.aload_n 0, 1) := by decide +kernel
theorem dX4_result_29 : decode cX4_result 29 = .ok (.getfield 18, 3) := by decide +kernel
theorem dX4_result_32 : decode cX4_result 32 = .ok (.ireturn, 1) := by decide +kernel
theorem dX4_result_33 : decode cX4_result 33 = .ok (.aload_n 0, 1) := by decide +kernel
theorem dX4_result_34 : decode cX4_result 34 = .ok (.getfield 31, 3) := by decide +kernel
theorem dX4_result_37 : decode cX4_result 37 = .ok (.ireturn, 1) := by decide +kernel
theorem dX4_result_38 : decode cX4_result 38 = .ok (.aload_n 0, 1) := by decide +kernel
theorem dX4_result_39 : decode cX4_result 39 = .ok (.getfield 34, 3) := by decide +kernel
theorem dX4_result_42 : decode cX4_result 42 = .ok (.ifCond .eq 7, 3) := by decide +kernel
theorem dX4_result_45 : decode cX4_result 45 = .ok (.iconst 1, 1) := by decide +kernel
theorem dX4_result_46 : decode cX4_result 46 = .ok (.goto 4, 3) := by decide +kernel
theorem dX4_result_49 : decode cX4_result 49 = .ok (.iconst 0, 1) := by decide +kernel
theorem dX4_result_50 : decode cX4_result 50 = .ok (.ireturn, 1) := by decide +kernel
set_option maxRecDepth 20000 in
theorem ggX4_runTrial_X4_fillFrom : GoodIn wsX4_runTrial wsX4_fillFrom := goodIn_r _ [10, 11, 2, 1, 5, 12, 13, 14, 15, 16, 17, 18, 19, 20, 21, 22, 23, 24, 25, 26, 27, 28, 29, 30, 31, 32, 33, 34, 35, 36, 37, 38, 39, 40, 41, 42, 43, 44, 45, 46, 47, 48, 49, 50, 51, 52, 53, 54, 55, 56, 57, 58, 59, 60, 61, 62, 63, 64, 65, 66, 67, 68, 69, 70, 71, 72, 73, 74, 75, 9, 76, 3, 4, 77, 78, 79, 80, 6, 7, 8, 81, 82, 83, 84, 85, 86, 87, 88, 89, 90, 91, 92, 93, 94, 95, 96, 97, 98, 99, 100, 101, 102, 103] (by decide +kernel) (by decide +kernel)
set_option maxRecDepth 20000 in
theorem gX4_runTrial_X4_fillFrom : GoodIn wsX4_runTrial (wsV RX4 54 RX4 yX4_fillFrom wsX4_fillFrom) := goodIn_app (goodIn_of _ (by decide +kernel)) ggX4_runTrial_X4_fillFrom
theorem dX4_runTrial_0 : decode cX4_runTrial 0 = .ok (.aload_n 0, 1) := by decide +kernel
theorem dX4_runTrial_1 : decode cX4_runTrial 1 = .ok (.iload_n 1, 1) := by decide +kernel
theorem dX4_runTrial_2 : decode cX4_runTrial 2 = .ok (.putfield 28, 3) := by decide +kernel
theorem dX4_runTrial_5 : decode cX4_runTrial 5 = .ok (.aload_n 0, 1) := by decide +kernel
theorem dX4_runTrial_6 : decode cX4_runTrial 6 = .ok (.iconst 0, 1) := by decide +kernel
theorem dX4_runTrial_7 : decode cX4_runTrial 7 = .ok (.putfield 18, 3) := by decide +kernel
theorem dX4_runTrial_10 : decode cX4_runTrial 10 = .ok (.aload_n 0, 1) := by decide +kernel
theorem dX4_runTrial_11 : decode cX4_runTrial 11 = .ok (.iconst 0, 1) := by decide +kernel
theorem dX4_runTrial_12 : decode cX4_runTrial 12 = .ok (.putfield 31, 3) := by decide +kernel
theorem dX4_runTrial_15 : decode cX4_runTrial 15 = .ok (.aload_n 0, 1) := by decide +kernel
theorem dX4_runTrial_16 : decode cX4_runTrial 16 = .ok (.iconst 0, 1) := by decide +kernel
theorem dX4_runTrial_17 : decode cX4_runTrial 17 = .ok (.putfield 34, 3) := by decide +kernel
theorem dX4_runTrial_20 : decode cX4_runTrial 20 = .ok (.aload_n 0, 1) := by decide +kernel
theorem dX4_runTrial_21 : decode cX4_runTrial 21 = .ok (.iconst 0, 1) := by decide +kernel
theorem dX4_runTrial_22 : decode cX4_runTrial 22 = .ok (.putfield 38, 3) := by decide +kernel
theorem dX4_runTrial_25 : decode cX4_runTrial 25 = .ok (.aload_n 0, 1) := by decide +kernel
theorem dX4_runTrial_26 : decode cX4_runTrial 26 = .ok (.iconst 0, 1) := by decide +kernel
theorem dX4_runTrial_27 : decode cX4_runTrial 27 = .ok (.invokevirtual 54, 3) := by decide +kernel
theorem dX4_runTrial_30 : decode cX4_runTrial 30 = .ok (.return_, 1) := by decide +kernel
set_option maxRecDepth 20000 in
theorem ggX4_fillFrom_X0_cells : GoodIn wsX4_fillFrom wsX0_cells := goodIn_r _ [12, 13, 14, 91, 92, 93, 94, 95, 96, 97, 98] (by decide +kernel) (by decide +kernel)
set_option maxRecDepth 20000 in
theorem gX4_fillFrom_X0_cells : GoodIn wsX4_fillFrom (wsV RX4 57 RX0 yX0_cells wsX0_cells) := goodIn_app (goodIn_of _ (by decide +kernel)) ggX4_fillFrom_X0_cells
set_option maxRecDepth 20000 in
theorem ggX4_fillFrom_X0_isEmpty : GoodIn wsX4_fillFrom wsX0_isEmpty := goodIn_r _ [18, 19, 91, 92, 93, 94, 95, 96, 97, 98] (by decide +kernel) (by decide +kernel)
set_option maxRecDepth 20000 in
theorem gX4_fillFrom_X0_isEmpty : GoodIn wsX4_fillFrom (wsV RX4 61 RX0 yX0_isEmpty wsX0_isEmpty) := goodIn_app (goodIn_of _ (by decide +kernel)) ggX4_fillFrom_X0_isEmpty
set_option maxRecDepth 20000 in
theorem ggX4_fillFrom_X3_read : GoodIn wsX4_fillFrom wsX3_read := goodIn_r _ [24, 25, 26, 27, 28, 29, 30, 31, 23, 32, 33, 34, 35, 36, 11, 37, 14, 38, 9, 10, 12, 13, 39, 16, 17, 18, 19, 40, 41, 42, 43, 44, 45, 46, 47, 48, 49, 50, 51, 52, 53, 54, 55, 99, 100, 101, 102, 91, 92, 93, 94, 95, 96, 97, 98] (by decide +kernel) (by decide +kernel)
set_option maxRecDepth 20000 in
theorem gX4_fillFrom_X3_read : GoodIn wsX4_fillFrom (wsV RX4 65 RX3 yX3_read wsX3_read) := goodIn_app (goodIn_of _ (by decide +kernel)) ggX4_fillFrom_X3_read
set_option maxRecDepth 20000 in
theorem ggX4_fillFrom_X0_isLaid : GoodIn wsX4_fillFrom wsX0_isLaid := goodIn_r _ [59, 60, 91, 92, 93, 94, 95, 96, 97, 98] (by decide +kernel) (by decide +kernel)
set_option maxRecDepth 20000 in
theorem gX4_fillFrom_X0_isLaid : GoodIn wsX4_fillFrom (wsV RX4 72 RX0 yX0_isLaid wsX0_isLaid) := goodIn_app (goodIn_of _ (by decide +kernel)) ggX4_fillFrom_X0_isLaid
set_option maxRecDepth 20000 in
theorem ggX4_fillFrom_X3_reasonAgainst : GoodIn wsX4_fillFrom wsX3_reasonAgainst := goodIn_r _ [64, 25, 27, 26, 65, 28, 99, 100, 101, 102] (by decide +kernel) (by decide +kernel)
set_option maxRecDepth 20000 in
theorem gX4_fillFrom_X3_reasonAgainst : GoodIn wsX4_fillFrom (wsV RX4 79 RX3 yX3_reasonAgainst wsX3_reasonAgainst) := goodIn_app (goodIn_of _ (by decide +kernel)) ggX4_fillFrom_X3_reasonAgainst
set_option maxRecDepth 20000 in
theorem ggX4_fillFrom_X4_tryPlacing : GoodIn wsX4_fillFrom wsX4_tryPlacing := goodIn_r _ [70, 71, 72, 4, 1, 73, 74, 75, 11, 76, 19, 60, 77, 78, 79, 69, 80, 81, 82, 83, 0, 2, 3, 5, 6, 7, 8, 9, 10, 12, 13, 14, 15, 16, 17, 18, 20, 21, 22, 23, 24, 25, 26, 27, 28, 29, 30, 31, 32, 33, 34, 35, 36, 37, 38, 39, 40, 41, 42, 43, 44, 45, 46, 47, 48, 49, 50, 51, 52, 53, 54, 55, 56, 57, 58, 59, 61, 62, 63, 64, 65, 66, 67, 68, 84, 85, 86, 87, 88, 89, 90, 91, 92, 93, 94, 95, 96, 97, 98, 99, 100, 101, 102] (by decide +kernel) (by decide +kernel)
set_option maxRecDepth 20000 in
theorem gX4_fillFrom_X4_tryPlacing : GoodIn wsX4_fillFrom (wsV RX4 82 RX4 yX4_tryPlacing wsX4_tryPlacing) := goodIn_app (goodIn_of _ (by decide +kernel)) ggX4_fillFrom_X4_tryPlacing
theorem dX4_fillFrom_0 : decode cX4_fillFrom 0 = .ok (.iload_n 1, 1) := by decide +kernel
theorem dX4_fillFrom_1 : decode cX4_fillFrom 1 = .ok (.istore_n 2, 1) := by decide +kernel
theorem dX4_fillFrom_2 : decode cX4_fillFrom 2 = .ok (.iload_n 2, 1) := by decide +kernel
theorem dX4_fillFrom_3 : decode cX4_fillFrom 3 = .ok (.aload_n 0, 1) := by decide +kernel
theorem dX4_fillFrom_4 : decode cX4_fillFrom 4 = .ok (.getfield 12, 3) := by decide +kernel
theorem dX4_fillFrom_7 : decode cX4_fillFrom 7 = .ok (.invokevirtual 57, 3) := by decide +kernel
theorem dX4_fillFrom_10 : decode cX4_fillFrom 10 = .ok (.if_icmp .ge 20, 3) := by decide +kernel
theorem dX4_fillFrom_13 : decode cX4_fillFrom 13 = .ok (.aload_n 0, 1) := by decide +kernel
theorem dX4_fillFrom_14 : decode cX4_fillFrom 14 = .ok (.getfield 12, 3) := by decide +kernel
theorem dX4_fillFrom_17 : decode cX4_fillFrom 17 = .ok (.iload_n 2, 1) := by decide +kernel
theorem dX4_fillFrom_18 : decode cX4_fillFrom 18 = .ok (.invokevirtual 61, 3) := by decide +kernel
theorem dX4_fillFrom_21 : decode cX4_fillFrom 21 = .ok (.ifCond .ne 9, 3) := by decide +kernel
theorem dX4_fillFrom_24 : decode cX4_fillFrom 24 = .ok (.iinc 2 1, 3) := by decide +kernel
theorem dX4_fillFrom_27 : decode cX4_fillFrom 27 = .ok (.goto (-25), 3) := by decide +kernel
theorem dX4_fillFrom_30 : decode cX4_fillFrom 30 = .ok (.iload_n 2, 1) := by decide +kernel
theorem dX4_fillFrom_31 : decode cX4_fillFrom 31 = .ok (.aload_n 0, 1) := by decide +kernel
theorem dX4_fillFrom_32 : decode cX4_fillFrom 32 = .ok (.getfield 12, 3) := by decide +kernel
theorem dX4_fillFrom_35 : decode cX4_fillFrom 35 = .ok (.invokevirtual 57, 3) := by decide +kernel
theorem dX4_fillFrom_38 : decode cX4_fillFrom 38 = .ok (.if_icmp .lt 34, 3) := by decide +kernel
theorem dX4_fillFrom_41 : decode cX4_fillFrom 41 = .ok (.aload_n 0, 1) := by decide +kernel
theorem dX4_fillFrom_42 : decode cX4_fillFrom 42 = .ok (.dup, 1) := by decide +kernel
theorem dX4_fillFrom_43 : decode cX4_fillFrom 43 = .ok (.getfield 18, 3) := by decide +kernel
theorem dX4_fillFrom_46 : decode cX4_fillFrom 46 = .ok (.iconst 1, 1) := by decide +kernel
theorem dX4_fillFrom_47 : decode cX4_fillFrom 47 = .ok (.iadd, 1) := by decide +kernel
theorem dX4_fillFrom_48 : decode cX4_fillFrom 48 = .ok (.putfield 18, 3) := by decide +kernel
theorem dX4_fillFrom_51 : decode cX4_fillFrom 51 = .ok (.aload_n 0, 1) := by decide +kernel
theorem dX4_fillFrom_52 : decode cX4_fillFrom 52 = .ok (.aload_n 0, 1) := by decide +kernel
theorem dX4_fillFrom_53 : decode cX4_fillFrom 53 = .ok (.getfield 18, 3) := by decide +kernel
theorem dX4_fillFrom_56 : decode cX4_fillFrom 56 = .ok (.aload_n 0, 1) := by decide +kernel
theorem dX4_fillFrom_57 : decode cX4_fillFrom 57 = .ok (.getfield 28, 3) := by decide +kernel
theorem dX4_fillFrom_60 : decode cX4_fillFrom 60 = .ok (.if_icmp .lt 7, 3) := by decide +kernel
theorem dX4_fillFrom_63 : decode cX4_fillFrom 63 = .ok (.iconst 1, 1) := by decide +kernel
theorem dX4_fillFrom_64 : decode cX4_fillFrom 64 = .ok (.goto 4, 3) := by decide +kernel
theorem dX4_fillFrom_67 : decode cX4_fillFrom 67 = .ok (.iconst 0, 1) := by decide +kernel
theorem dX4_fillFrom_68 : decode cX4_fillFrom 68 = .ok (.putfield 38, 3) := by decide +kernel
theorem dX4_fillFrom_71 : decode cX4_fillFrom 71 = .ok (.return_, 1) := by decide +kernel
theorem dX4_fillFrom_72 : decode cX4_fillFrom 72 = .ok (.aload_n 0, 1) := by decide +kernel
theorem dX4_fillFrom_73 : decode cX4_fillFrom 73 = .ok (.getfield 24, 3) := by decide +kernel
theorem dX4_fillFrom_76 : decode cX4_fillFrom 76 = .ok (.iload_n 2, 1) := by decide +kernel
theorem dX4_fillFrom_77 : decode cX4_fillFrom 77 = .ok (.aaload, 1) := by decide +kernel
theorem dX4_fillFrom_78 : decode cX4_fillFrom 78 = .ok (.aload_n 0, 1) := by decide +kernel
theorem dX4_fillFrom_79 : decode cX4_fillFrom 79 = .ok (.getfield 12, 3) := by decide +kernel
theorem dX4_fillFrom_82 : decode cX4_fillFrom 82 = .ok (.iload_n 2, 1) := by decide +kernel
theorem dX4_fillFrom_83 : decode cX4_fillFrom 83 = .ok (.invokevirtual 65, 3) := by decide +kernel
theorem dX4_fillFrom_86 : decode cX4_fillFrom 86 = .ok (.iconst 0, 1) := by decide +kernel
theorem dX4_fillFrom_87 : decode cX4_fillFrom 87 = .ok (.istore_n 3, 1) := by decide +kernel
theorem dX4_fillFrom_88 : decode cX4_fillFrom 88 = .ok (.iload_n 3, 1) := by decide +kernel
theorem dX4_fillFrom_89 : decode cX4_fillFrom 89 = .ok (.aload_n 0, 1) := by decide +kernel
theorem dX4_fillFrom_90 : decode cX4_fillFrom 90 = .ok (.getfield 12, 3) := by decide +kernel
theorem dX4_fillFrom_93 : decode cX4_fillFrom 93 = .ok (.getfield 69, 3) := by decide +kernel
theorem dX4_fillFrom_96 : decode cX4_fillFrom 96 = .ok (.if_icmp .ge 98, 3) := by decide +kernel
theorem dX4_fillFrom_99 : decode cX4_fillFrom 99 = .ok (.aload_n 0, 1) := by decide +kernel
theorem dX4_fillFrom_100 : decode cX4_fillFrom 100 = .ok (.getfield 38, 3) := by decide +kernel
theorem dX4_fillFrom_103 : decode cX4_fillFrom 103 = .ok (.ifCond .ne 91, 3) := by decide +kernel
theorem dX4_fillFrom_106 : decode cX4_fillFrom 106 = .ok (.bipush 8, 2) := by decide +kernel
theorem dX4_fillFrom_108 : decode cX4_fillFrom 108 = .ok (.iload_n 3, 1) := by decide +kernel
theorem dX4_fillFrom_109 : decode cX4_fillFrom 109 = .ok (.imul, 1) := by decide +kernel
theorem dX4_fillFrom_110 : decode cX4_fillFrom 110 = .ok (.istore 4, 2) := by decide +kernel
theorem dX4_fillFrom_112 : decode cX4_fillFrom 112 = .ok (.aload_n 0, 1) := by decide +kernel
theorem dX4_fillFrom_113 : decode cX4_fillFrom 113 = .ok (.getfield 12, 3) := by decide +kernel
theorem dX4_fillFrom_116 : decode cX4_fillFrom 116 = .ok (.iload_n 3, 1) := by decide +kernel
theorem dX4_fillFrom_117 : decode cX4_fillFrom 117 = .ok (.invokevirtual 72, 3) := by decide +kernel
theorem dX4_fillFrom_120 : decode cX4_fillFrom 120 = .ok (.ifCond .eq 8, 3) := by decide +kernel
theorem dX4_fillFrom_123 : decode cX4_fillFrom 123 = .ok (.iload 4, 2) := by decide +kernel
theorem dX4_fillFrom_125 : decode cX4_fillFrom 125 = .ok (.goto 8, 3) := by decide +kernel
theorem dX4_fillFrom_128 : decode cX4_fillFrom 128 = .ok (.iload 4, 2) := by decide +kernel
theorem dX4_fillFrom_130 : decode cX4_fillFrom 130 = .ok (.bipush 8, 2) := by decide +kernel
theorem dX4_fillFrom_132 : decode cX4_fillFrom 132 = .ok (.iadd, 1) := by decide +kernel
theorem dX4_fillFrom_133 : decode cX4_fillFrom 133 = .ok (.istore 5, 2) := by decide +kernel
theorem dX4_fillFrom_135 : decode cX4_fillFrom 135 = .ok (.iload 4, 2) := by decide +kernel
theorem dX4_fillFrom_137 : decode cX4_fillFrom 137 = .ok (.istore 6, 2) := by decide +kernel
theorem dX4_fillFrom_139 : decode cX4_fillFrom 139 = .ok (.iload 6, 2) := by decide +kernel
theorem dX4_fillFrom_141 : decode cX4_fillFrom 141 = .ok (.iload 5, 2) := by decide +kernel
theorem dX4_fillFrom_143 : decode cX4_fillFrom 143 = .ok (.if_icmp .ge 45, 3) := by decide +kernel
theorem dX4_fillFrom_146 : decode cX4_fillFrom 146 = .ok (.aload_n 0, 1) := by decide +kernel
theorem dX4_fillFrom_147 : decode cX4_fillFrom 147 = .ok (.getfield 38, 3) := by decide +kernel
theorem dX4_fillFrom_150 : decode cX4_fillFrom 150 = .ok (.ifCond .ne 38, 3) := by decide +kernel
theorem dX4_fillFrom_153 : decode cX4_fillFrom 153 = .ok (.aload_n 0, 1) := by decide +kernel
theorem dX4_fillFrom_154 : decode cX4_fillFrom 154 = .ok (.getfield 24, 3) := by decide +kernel
theorem dX4_fillFrom_157 : decode cX4_fillFrom 157 = .ok (.iload_n 2, 1) := by decide +kernel
theorem dX4_fillFrom_158 : decode cX4_fillFrom 158 = .ok (.aaload, 1) := by decide +kernel
theorem dX4_fillFrom_159 : decode cX4_fillFrom 159 = .ok (.aload_n 0, 1) := by decide +kernel
theorem dX4_fillFrom_160 : decode cX4_fillFrom 160 = .ok (.getfield 12, 3) := by decide +kernel
theorem dX4_fillFrom_163 : decode cX4_fillFrom 163 = .ok (.getfield 75, 3) := by decide +kernel
theorem dX4_fillFrom_166 : decode cX4_fillFrom 166 = .ok (.iload 6, 2) := by decide +kernel
theorem dX4_fillFrom_168 : decode cX4_fillFrom 168 = .ok (.iaload, 1) := by decide +kernel
theorem dX4_fillFrom_169 : decode cX4_fillFrom 169 = .ok (.invokevirtual 79, 3) := by decide +kernel
theorem dX4_fillFrom_172 : decode cX4_fillFrom 172 = .ok (.ifCond .ne 10, 3) := by decide +kernel
theorem dX4_fillFrom_175 : decode cX4_fillFrom 175 = .ok (.aload_n 0, 1) := by decide +kernel
theorem dX4_fillFrom_176 : decode cX4_fillFrom 176 = .ok (.iload_n 2, 1) := by decide +kernel
theorem dX4_fillFrom_177 : decode cX4_fillFrom 177 = .ok (.iload 6, 2) := by decide +kernel
theorem dX4_fillFrom_179 : decode cX4_fillFrom 179 = .ok (.invokevirtual 82, 3) := by decide +kernel
theorem dX4_fillFrom_182 : decode cX4_fillFrom 182 = .ok (.iinc 6 1, 3) := by decide +kernel
theorem dX4_fillFrom_185 : decode cX4_fillFrom 185 = .ok (.goto (-46), 3) := by decide +kernel
theorem dX4_fillFrom_188 : decode cX4_fillFrom 188 = .ok (.iinc 3 1, 3) := by decide +kernel
theorem dX4_fillFrom_191 : decode cX4_fillFrom 191 = .ok (.goto (-103), 3) := by decide +kernel
theorem dX4_fillFrom_194 : decode cX4_fillFrom 194 = .ok (.return_, 1) := by decide +kernel
set_option maxRecDepth 20000 in
theorem ggX4_tryPlacing_X0_put : GoodIn wsX4_tryPlacing wsX0_put := goodIn_r _ [9, 10, 11, 91, 92, 93, 94, 95, 96, 97, 98] (by decide +kernel) (by decide +kernel)
set_option maxRecDepth 20000 in
theorem gX4_tryPlacing_X0_put : GoodIn wsX4_tryPlacing (wsV RX4 86 RX0 yX0_put wsX0_put) := goodIn_app (goodIn_of _ (by decide +kernel)) ggX4_tryPlacing_X0_put
set_option maxRecDepth 20000 in
theorem ggX4_tryPlacing_X4_fillFrom : GoodIn wsX4_tryPlacing wsX4_fillFrom := goodIn_r _ [20, 4, 21, 22, 3, 23, 24, 25, 26, 27, 28, 8, 29, 30, 31, 32, 33, 34, 35, 10, 36, 37, 38, 39, 40, 41, 42, 43, 44, 45, 46, 47, 48, 49, 50, 51, 52, 53, 54, 55, 56, 57, 58, 59, 60, 61, 62, 63, 64, 65, 66, 67, 68, 69, 70, 71, 72, 73, 74, 75, 11, 76, 77, 78, 79, 80, 81, 82, 83, 15, 0, 1, 2, 5, 6, 7, 9, 12, 13, 14, 16, 17, 18, 19, 84, 85, 86, 87, 88, 89, 90, 91, 92, 93, 94, 95, 96, 97, 98, 99, 100, 101, 102] (by decide +kernel) (by decide +kernel)
set_option maxRecDepth 20000 in
theorem gX4_tryPlacing_X4_fillFrom : GoodIn wsX4_tryPlacing (wsV RX4 54 RX4 yX4_fillFrom wsX4_fillFrom) := goodIn_app (goodIn_of _ (by decide +kernel)) ggX4_tryPlacing_X4_fillFrom
set_option maxRecDepth 20000 in
theorem ggX4_tryPlacing_X0_remove : GoodIn wsX4_tryPlacing wsX0_remove := goodIn_r _ [19, 11, 10, 91, 92, 93, 94, 95, 96, 97, 98] (by decide +kernel) (by decide +kernel)
set_option maxRecDepth 20000 in
theorem gX4_tryPlacing_X0_remove : GoodIn wsX4_tryPlacing (wsV RX4 89 RX0 yX0_remove wsX0_remove) := goodIn_app (goodIn_of _ (by decide +kernel)) ggX4_tryPlacing_X0_remove
theorem dX4_tryPlacing_0 : decode cX4_tryPlacing 0 = .ok (.aload_n 0, 1) := by decide +kernel
theorem dX4_tryPlacing_1 : decode cX4_tryPlacing 1 = .ok (.getfield 31, 3) := by decide +kernel
theorem dX4_tryPlacing_4 : decode cX4_tryPlacing 4 = .ok (.sipush 600, 3) := by decide +kernel
theorem dX4_tryPlacing_7 : decode cX4_tryPlacing 7 = .ok (.if_icmp .lt 14, 3) := by decide +kernel
theorem dX4_tryPlacing_10 : decode cX4_tryPlacing 10 = .ok (.aload_n 0, 1) := by decide +kernel
theorem dX4_tryPlacing_11 : decode cX4_tryPlacing 11 = .ok (.iconst 1, 1) := by decide +kernel
theorem dX4_tryPlacing_12 : decode cX4_tryPlacing 12 = .ok (.putfield 34, 3) := by decide +kernel
theorem dX4_tryPlacing_15 : decode cX4_tryPlacing 15 = .ok (.aload_n 0, 1) := by decide +kernel
theorem dX4_tryPlacing_16 : decode cX4_tryPlacing 16 = .ok (.iconst 1, 1) := by decide +kernel
theorem dX4_tryPlacing_17 : decode cX4_tryPlacing 17 = .ok (.putfield 38, 3) := by decide +kernel
theorem dX4_tryPlacing_20 : decode cX4_tryPlacing 20 = .ok (.return_, 1) := by decide +kernel
theorem dX4_tryPlacing_21 : decode cX4_tryPlacing 21 = .ok (.aload_n 0, 1) := by decide +kernel
theorem dX4_tryPlacing_22 : decode cX4_tryPlacing 22 = .ok (.dup, 1) := by decide +kernel
theorem dX4_tryPlacing_23 : decode cX4_tryPlacing 23 = .ok (.getfield 31, 3) := by decide +kernel
theorem dX4_tryPlacing_26 : decode cX4_tryPlacing 26 = .ok (.iconst 1, 1) := by decide +kernel
theorem dX4_tryPlacing_27 : decode cX4_tryPlacing 27 = .ok (.iadd, 1) := by decide +kernel
theorem dX4_tryPlacing_28 : decode cX4_tryPlacing 28 = .ok (.putfield 31, 3) := by decide +kernel
theorem dX4_tryPlacing_31 : decode cX4_tryPlacing 31 = .ok (.aload_n 0, 1) := by decide +kernel
theorem dX4_tryPlacing_32 : decode cX4_tryPlacing 32 = .ok (.getfield 12, 3) := by decide +kernel
theorem dX4_tryPlacing_35 : decode cX4_tryPlacing 35 = .ok (.iload_n 1, 1) := by decide +kernel
theorem dX4_tryPlacing_36 : decode cX4_tryPlacing 36 = .ok (.iload_n 2, 1) := by decide +kernel
theorem dX4_tryPlacing_37 : decode cX4_tryPlacing 37 = .ok (.invokevirtual 86, 3) := by decide +kernel
theorem dX4_tryPlacing_40 : decode cX4_tryPlacing 40 = .ok (.aload_n 0, 1) := by decide +kernel
theorem dX4_tryPlacing_41 : decode cX4_tryPlacing 41 = .ok (.iload_n 1, 1) := by decide +kernel
theorem dX4_tryPlacing_42 : decode cX4_tryPlacing 42 = .ok (.iconst 1, 1) := by decide +kernel
theorem dX4_tryPlacing_43 : decode cX4_tryPlacing 43 = .ok (.iadd, 1) := by decide +kernel
theorem dX4_tryPlacing_44 : decode cX4_tryPlacing 44 = .ok (.invokevirtual 54, 3) := by decide +kernel
theorem dX4_tryPlacing_47 : decode cX4_tryPlacing 47 = .ok (.aload_n 0, 1) := by decide +kernel
theorem dX4_tryPlacing_48 : decode cX4_tryPlacing 48 = .ok (.getfield 38, 3) := by decide +kernel
theorem dX4_tryPlacing_51 : decode cX4_tryPlacing 51 = .ok (.ifCond .ne 11, 3) := by decide +kernel
theorem dX4_tryPlacing_54 : decode cX4_tryPlacing 54 = .ok (.aload_n 0, 1) := by decide +kernel
theorem dX4_tryPlacing_55 : decode cX4_tryPlacing 55 = .ok (.getfield 12, 3) := by decide +kernel
theorem dX4_tryPlacing_58 : decode cX4_tryPlacing 58 = .ok (.iload_n 1, 1) := by decide +kernel
theorem dX4_tryPlacing_59 : decode cX4_tryPlacing 59 = .ok (.invokevirtual 89, 3) := by decide +kernel
theorem dX4_tryPlacing_62 : decode cX4_tryPlacing 62 = .ok (.return_, 1) := by decide +kernel
theorem dX5_init_0 : decode cX5_init 0 = .ok (.aload_n 0, 1) := by decide +kernel
theorem dX5_init_1 : decode cX5_init 1 = .ok (.invokespecial 3, 3) := by decide +kernel
theorem dX5_init_4 : decode cX5_init 4 = .ok (.aload_n 0, 1) := by decide +kernel
theorem dX5_init_5 : decode cX5_init 5 = .ok (.bipush 60, 2) := by decide +kernel
theorem dX5_init_7 : decode cX5_init 7 = .ok (.newarray .int, 2) := by decide +kernel
theorem dX5_init_9 : decode cX5_init 9 = .ok (.putfield 9, 3) := by decide +kernel
theorem dX5_init_12 : decode cX5_init 12 = .ok (.aload_n 0, 1) := by decide +kernel
theorem dX5_init_13 : decode cX5_init 13 = .ok (.iconst 0, 1) := by decide +kernel
theorem dX5_init_14 : decode cX5_init 14 = .ok (.putfield 15, 3) := by decide +kernel
theorem dX5_init_17 : decode cX5_init 17 = .ok (.return_, 1) := by decide +kernel
set_option maxRecDepth 20000 in
theorem ggX5_firstWrong_X5_isRight : GoodIn wsX5_firstWrong wsX5_isRight := goodIn_r _ [6, 7, 8, 9] (by decide +kernel) (by decide +kernel)
set_option maxRecDepth 20000 in
theorem gX5_firstWrong_X5_isRight : GoodIn wsX5_firstWrong (wsV RX5 19 RX5 yX5_isRight wsX5_isRight) := goodIn_app (goodIn_of _ (by decide +kernel)) ggX5_firstWrong_X5_isRight
theorem dX5_firstWrong_0 : decode cX5_firstWrong 0 = .ok (.iconst 0, 1) := by decide +kernel
theorem dX5_firstWrong_1 : decode cX5_firstWrong 1 = .ok (.istore_n 1, 1) := by decide +kernel
theorem dX5_firstWrong_2 : decode cX5_firstWrong 2 = .ok (.iload_n 1, 1) := by decide +kernel
theorem dX5_firstWrong_3 : decode cX5_firstWrong 3 = .ok (.aload_n 0, 1) := by decide +kernel
theorem dX5_firstWrong_4 : decode cX5_firstWrong 4 = .ok (.getfield 15, 3) := by decide +kernel
theorem dX5_firstWrong_7 : decode cX5_firstWrong 7 = .ok (.if_icmp .ge 19, 3) := by decide +kernel
theorem dX5_firstWrong_10 : decode cX5_firstWrong 10 = .ok (.aload_n 0, 1) := by decide +kernel
theorem dX5_firstWrong_11 : decode cX5_firstWrong 11 = .ok (.iload_n 1, 1) := by decide +kernel
theorem dX5_firstWrong_12 : decode cX5_firstWrong 12 = .ok (.invokevirtual 19, 3) := by decide +kernel
theorem dX5_firstWrong_15 : decode cX5_firstWrong 15 = .ok (.ifCond .ne 5, 3) := by decide +kernel
theorem dX5_firstWrong_18 : decode cX5_firstWrong 18 = .ok (.iload_n 1, 1) := by decide +kernel
theorem dX5_firstWrong_19 : decode cX5_firstWrong 19 = .ok (.ireturn, 1) := by decide +kernel
theorem dX5_firstWrong_20 : decode cX5_firstWrong 20 = .ok (.iinc 1 1, 3) := by decide +kernel
theorem dX5_firstWrong_23 : decode cX5_firstWrong 23 = .ok (.goto (-21), 3) := by decide +kernel
theorem dX5_firstWrong_26 : decode cX5_firstWrong 26 = .ok (.aload_n 0, 1) := by decide +kernel
theorem dX5_firstWrong_27 : decode cX5_firstWrong 27 = .ok (.getfield 15, 3) := by decide +kernel
theorem dX5_firstWrong_30 : decode cX5_firstWrong 30 = .ok (.ireturn, 1) := by decide +kernel
theorem dX5_isRight_0 : decode cX5_isRight 0 = .ok (.aload_n 0, 1) := by decide +kernel
theorem dX5_isRight_1 : decode cX5_isRight 1 = .ok (.getfield 9, 3) := by decide +kernel
theorem dX5_isRight_4 : decode cX5_isRight 4 = .ok (.iload_n 1, 1) := by decide +kernel
theorem dX5_isRight_5 : decode cX5_isRight 5 = .ok (.iaload, 1) := by decide +kernel
theorem dX5_isRight_6 : decode cX5_isRight 6 = .ok (.istore_n 2, 1) := by decide +kernel
theorem dX5_isRight_7 : decode cX5_isRight 7 = .ok (.iload_n 1, 1) := by decide +kernel
theorem dX5_isRight_8 : decode cX5_isRight 8 = .ok (.bipush 10, 2) := by decide +kernel
theorem dX5_isRight_10 : decode cX5_isRight 10 = .ok (.irem, 1) := by decide +kernel
theorem dX5_isRight_11 : decode cX5_isRight 11 = .ok (.lookupswitch 49 #[(4, 25), (9, 37)], 25) := by decide +kernel
theorem dX5_isRight_36 : decode cX5_isRight 36 = .ok (.iload_n 2, 1) := by decide +kernel
theorem dX5_isRight_37 : decode cX5_isRight 37 = .ok (.bipush 47, 2) := by decide +kernel
theorem dX5_isRight_39 : decode cX5_isRight 39 = .ok (.if_icmp .ne 7, 3) := by decide +kernel
theorem dX5_isRight_42 : decode cX5_isRight 42 = .ok (.iconst 1, 1) := by decide +kernel
theorem dX5_isRight_43 : decode cX5_isRight 43 = .ok (.goto 4, 3) := by decide +kernel
theorem dX5_isRight_46 : decode cX5_isRight 46 = .ok (.iconst 0, 1) := by decide +kernel
theorem dX5_isRight_47 : decode cX5_isRight 47 = .ok (.ireturn, 1) := by decide +kernel
theorem dX5_isRight_48 : decode cX5_isRight 48 = .ok (.iload_n 2, 1) := by decide +kernel
theorem dX5_isRight_49 : decode cX5_isRight 49 = .ok (.bipush 59, 2) := by decide +kernel
theorem dX5_isRight_51 : decode cX5_isRight 51 = .ok (.if_icmp .ne 7, 3) := by decide +kernel
theorem dX5_isRight_54 : decode cX5_isRight 54 = .ok (.iconst 1, 1) := by decide +kernel
theorem dX5_isRight_55 : decode cX5_isRight 55 = .ok (.goto 4, 3) := by decide +kernel
theorem dX5_isRight_58 : decode cX5_isRight 58 = .ok (.iconst 0, 1) := by decide +kernel
theorem dX5_isRight_59 : decode cX5_isRight 59 = .ok (.ireturn, 1) := by decide +kernel
theorem dX5_isRight_60 : decode cX5_isRight 60 = .ok (.iload_n 2, 1) := by decide +kernel
theorem dX5_isRight_61 : decode cX5_isRight 61 = .ok (.bipush 48, 2) := by decide +kernel
theorem dX5_isRight_63 : decode cX5_isRight 63 = .ok (.if_icmp .lt 13, 3) := by decide +kernel
theorem dX5_isRight_66 : decode cX5_isRight 66 = .ok (.iload_n 2, 1) := by decide +kernel
theorem dX5_isRight_67 : decode cX5_isRight 67 = .ok (.bipush 57, 2) := by decide +kernel
theorem dX5_isRight_69 : decode cX5_isRight 69 = .ok (.if_icmp .gt 7, 3) := by decide +kernel
theorem dX5_isRight_72 : decode cX5_isRight 72 = .ok (.iconst 1, 1) := by decide +kernel
theorem dX5_isRight_73 : decode cX5_isRight 73 = .ok (.goto 4, 3) := by decide +kernel
theorem dX5_isRight_76 : decode cX5_isRight 76 = .ok (.iconst 0, 1) := by decide +kernel
theorem dX5_isRight_77 : decode cX5_isRight 77 = .ok (.ireturn, 1) := by decide +kernel
set_option maxRecDepth 20000 in
theorem ggX5_isComplete_X5_firstWrong : GoodIn wsX5_isComplete wsX5_firstWrong := goodIn_r _ [6, 1, 7, 8, 9, 5, 10, 11, 12, 13] (by decide +kernel) (by decide +kernel)
set_option maxRecDepth 20000 in
theorem gX5_isComplete_X5_firstWrong : GoodIn wsX5_isComplete (wsV RX5 23 RX5 yX5_firstWrong wsX5_firstWrong) := goodIn_app (goodIn_of _ (by decide +kernel)) ggX5_isComplete_X5_firstWrong
theorem dX5_isComplete_0 : decode cX5_isComplete 0 = .ok (.aload_n 0, 1) := by decide +kernel
theorem dX5_isComplete_1 : decode cX5_isComplete 1 = .ok (.getfield 15, 3) := by decide +kernel
theorem dX5_isComplete_4 : decode cX5_isComplete 4 = .ok (.bipush 10, 2) := by decide +kernel
theorem dX5_isComplete_6 : decode cX5_isComplete 6 = .ok (.irem, 1) := by decide +kernel
theorem dX5_isComplete_7 : decode cX5_isComplete 7 = .ok (.bipush 9, 2) := by decide +kernel
theorem dX5_isComplete_9 : decode cX5_isComplete 9 = .ok (.if_icmp .ne 18, 3) := by decide +kernel
theorem dX5_isComplete_12 : decode cX5_isComplete 12 = .ok (.aload_n 0, 1) := by decide +kernel
theorem dX5_isComplete_13 : decode cX5_isComplete 13 = .ok (.invokevirtual 23, 3) := by decide +kernel
theorem dX5_isComplete_16 : decode cX5_isComplete 16 = .ok (.aload_n 0, 1) := by decide +kernel
theorem dX5_isComplete_17 : decode cX5_isComplete 17 = .ok (.getfield 15, 3) := by decide +kernel
theorem dX5_isComplete_20 : decode cX5_isComplete 20 = .ok (.if_icmp .ne 7, 3) := by decide +kernel
theorem dX5_isComplete_23 : decode cX5_isComplete 23 = .ok (.iconst 1, 1) := by decide +kernel
theorem dX5_isComplete_24 : decode cX5_isComplete 24 = .ok (.goto 4, 3) := by decide +kernel
theorem dX5_isComplete_27 : decode cX5_isComplete 27 = .ok (.iconst 0, 1) := by decide +kernel
theorem dX5_isComplete_28 : decode cX5_isComplete 28 = .ok (.ireturn, 1) := by decide +kernel
theorem dX5_tilesTold_0 : decode cX5_tilesTold 0 = .ok (.aload_n 0, 1) := by decide +kernel
theorem dX5_tilesTold_1 : decode cX5_tilesTold 1 = .ok (.getfield 15, 3) := by decide +kernel
theorem dX5_tilesTold_4 : decode cX5_tilesTold 4 = .ok (.iconst 1, 1) := by decide +kernel
theorem dX5_tilesTold_5 : decode cX5_tilesTold 5 = .ok (.iadd, 1) := by decide +kernel
theorem dX5_tilesTold_6 : decode cX5_tilesTold 6 = .ok (.bipush 10, 2) := by decide +kernel
theorem dX5_tilesTold_8 : decode cX5_tilesTold 8 = .ok (.idiv, 1) := by decide +kernel
theorem dX5_tilesTold_9 : decode cX5_tilesTold 9 = .ok (.ireturn, 1) := by decide +kernel
theorem dX5_faceTold_0 : decode cX5_faceTold 0 = .ok (.bipush 10, 2) := by decide +kernel
theorem dX5_faceTold_2 : decode cX5_faceTold 2 = .ok (.iload_n 1, 1) := by decide +kernel
theorem dX5_faceTold_3 : decode cX5_faceTold 3 = .ok (.imul, 1) := by decide +kernel
theorem dX5_faceTold_4 : decode cX5_faceTold 4 = .ok (.iconst 5, 1) := by decide +kernel
theorem dX5_faceTold_5 : decode cX5_faceTold 5 = .ok (.iload_n 2, 1) := by decide +kernel
theorem dX5_faceTold_6 : decode cX5_faceTold 6 = .ok (.imul, 1) := by decide +kernel
theorem dX5_faceTold_7 : decode cX5_faceTold 7 = .ok (.iadd, 1) := by decide +kernel
theorem dX5_faceTold_8 : decode cX5_faceTold 8 = .ok (.istore_n 3, 1) := by decide +kernel
theorem dX5_faceTold_9 : decode cX5_faceTold 9 = .ok (.iconst 0, 1) := by decide +kernel
theorem dX5_faceTold_10 : decode cX5_faceTold 10 = .ok (.istore 4, 2) := by decide +kernel
theorem dX5_faceTold_12 : decode cX5_faceTold 12 = .ok (.iload_n 3, 1) := by decide +kernel
theorem dX5_faceTold_13 : decode cX5_faceTold 13 = .ok (.istore 5, 2) := by decide +kernel
theorem dX5_faceTold_15 : decode cX5_faceTold 15 = .ok (.iload 5, 2) := by decide +kernel
theorem dX5_faceTold_17 : decode cX5_faceTold 17 = .ok (.iload_n 3, 1) := by decide +kernel
theorem dX5_faceTold_18 : decode cX5_faceTold 18 = .ok (.iconst 4, 1) := by decide +kernel
theorem dX5_faceTold_19 : decode cX5_faceTold 19 = .ok (.iadd, 1) := by decide +kernel
theorem dX5_faceTold_20 : decode cX5_faceTold 20 = .ok (.if_icmp .ge 36, 3) := by decide +kernel
theorem dX5_faceTold_23 : decode cX5_faceTold 23 = .ok (.iload 5, 2) := by decide +kernel
theorem dX5_faceTold_25 : decode cX5_faceTold 25 = .ok (.aload_n 0, 1) := by decide +kernel
theorem dX5_faceTold_26 : decode cX5_faceTold 26 = .ok (.getfield 15, 3) := by decide +kernel
theorem dX5_faceTold_29 : decode cX5_faceTold 29 = .ok (.if_icmp .ge 27, 3) := by decide +kernel
theorem dX5_faceTold_32 : decode cX5_faceTold 32 = .ok (.bipush 10, 2) := by decide +kernel
theorem dX5_faceTold_34 : decode cX5_faceTold 34 = .ok (.iload 4, 2) := by decide +kernel
theorem dX5_faceTold_36 : decode cX5_faceTold 36 = .ok (.imul, 1) := by decide +kernel
theorem dX5_faceTold_37 : decode cX5_faceTold 37 = .ok (.aload_n 0, 1) := by decide +kernel
theorem dX5_faceTold_38 : decode cX5_faceTold 38 = .ok (.getfield 9, 3) := by decide +kernel
theorem dX5_faceTold_41 : decode cX5_faceTold 41 = .ok (.iload 5, 2) := by decide +kernel
theorem dX5_faceTold_43 : decode cX5_faceTold 43 = .ok (.iaload, 1) := by decide +kernel
theorem dX5_faceTold_44 : decode cX5_faceTold 44 = .ok (.iadd, 1) := by decide +kernel
theorem dX5_faceTold_45 : decode cX5_faceTold 45 = .ok (.bipush 48, 2) := by decide +kernel
theorem dX5_faceTold_47 : decode cX5_faceTold 47 = .ok (.isub, 1) := by decide +kernel
theorem dX5_faceTold_48 : decode cX5_faceTold 48 = .ok (.istore 4, 2) := by decide +kernel
theorem dX5_faceTold_50 : decode cX5_faceTold 50 = .ok (.iinc 5 1, 3) := by decide +kernel
theorem dX5_faceTold_53 : decode cX5_faceTold 53 = .ok (.goto (-38), 3) := by decide +kernel
theorem dX5_faceTold_56 : decode cX5_faceTold 56 = .ok (.iload 4, 2) := by decide +kernel
theorem dX5_faceTold_58 : decode cX5_faceTold 58 = .ok (.ireturn, 1) := by decide +kernel
set_option maxRecDepth 20000 in
theorem ggX6_init_X0_init : GoodIn wsX6_init wsX0_init := goodIn_r _ [29, 30, 2, 3, 31, 32, 33, 34, 35, 36, 37, 38, 39, 83, 84, 85, 86, 87, 88, 89, 90] (by decide +kernel) (by decide +kernel)
set_option maxRecDepth 20000 in
theorem gX6_init_X0_init_n11 : GoodIn wsX6_init (wsX0_init) := ggX6_init_X0_init
set_option maxRecDepth 20000 in
theorem ggX6_init_X2_init : GoodIn wsX6_init wsX2_init := goodIn_r _ [42, 43, 2, 3, 44, 45, 46, 47, 5, 6, 28, 29, 30, 31, 32, 33, 34, 35, 36, 37, 38, 39, 97, 98, 99, 83, 84, 85, 86, 87, 88, 89, 90] (by decide +kernel) (by decide +kernel)
set_option maxRecDepth 20000 in
theorem gX6_init_X2_init : GoodIn wsX6_init (wsX2_init) := ggX6_init_X2_init
set_option maxRecDepth 20000 in
theorem ggX6_init_X5_init : GoodIn wsX6_init wsX5_init := goodIn_r _ [49, 50, 2, 3, 36, 51, 52, 100, 101] (by decide +kernel) (by decide +kernel)
set_option maxRecDepth 20000 in
theorem gX6_init_X5_init_n25 : GoodIn wsX6_init (wsX5_init) := ggX6_init_X5_init
set_option maxRecDepth 20000 in
theorem ggX6_init_X3_init : GoodIn wsX6_init wsX3_init := goodIn_r _ [54, 55, 2, 3, 56, 57, 58, 59, 102, 103, 104, 105] (by decide +kernel) (by decide +kernel)
set_option maxRecDepth 20000 in
theorem gX6_init_X3_init_n32 : GoodIn wsX6_init (wsX3_init) := ggX6_init_X3_init
set_option maxRecDepth 20000 in
theorem ggX6_init_X4_init : GoodIn wsX6_init wsX4_init := goodIn_r _ [62, 63, 2, 3, 64, 5, 6, 65, 66, 67, 68, 69, 70, 71, 72, 17, 18, 28, 29, 30, 31, 32, 33, 34, 35, 36, 37, 38, 39, 53, 54, 55, 56, 57, 58, 59, 83, 84, 85, 86, 87, 88, 89, 90, 106, 107, 108, 109, 110, 111, 112, 102, 103, 104, 105] (by decide +kernel) (by decide +kernel)
set_option maxRecDepth 20000 in
theorem gX6_init_X4_init : GoodIn wsX6_init (wsX4_init) := ggX6_init_X4_init
set_option maxRecDepth 20000 in
theorem ggX6_init_X1_init : GoodIn wsX6_init wsX1_init := goodIn_r _ [74, 75, 2, 3, 76, 77, 78, 113, 114, 115] (by decide +kernel) (by decide +kernel)
set_option maxRecDepth 20000 in
theorem gX6_init_X1_init_n46 : GoodIn wsX6_init (wsX1_init) := ggX6_init_X1_init
set_option maxRecDepth 20000 in
theorem ggX6_init_X0_makeEmpty : GoodIn wsX6_init wsX0_makeEmpty := goodIn_r _ [82, 31, 32, 35, 37, 38, 83, 84, 85, 86, 87, 88, 89, 90] (by decide +kernel) (by decide +kernel)
set_option maxRecDepth 20000 in
theorem gX6_init_X0_makeEmpty : GoodIn wsX6_init (wsV RX6 51 RX0 yX0_makeEmpty wsX0_makeEmpty) := goodIn_app (goodIn_of _ (by decide +kernel)) ggX6_init_X0_makeEmpty
theorem dX6_init_0 : decode cX6_init 0 = .ok (.aload_n 0, 1) := by decide +kernel
theorem dX6_init_1 : decode cX6_init 1 = .ok (.invokespecial 3, 3) := by decide +kernel
theorem dX6_init_4 : decode cX6_init 4 = .ok (.aload_n 0, 1) := by decide +kernel
theorem dX6_init_5 : decode cX6_init 5 = .ok (.new 9, 3) := by decide +kernel
theorem dX6_init_8 : decode cX6_init 8 = .ok (.dup, 1) := by decide +kernel
theorem dX6_init_9 : decode cX6_init 9 = .ok (.invokespecial 11, 3) := by decide +kernel
theorem dX6_init_12 : decode cX6_init 12 = .ok (.putfield 12, 3) := by decide +kernel
theorem dX6_init_15 : decode cX6_init 15 = .ok (.aload_n 0, 1) := by decide +kernel
theorem dX6_init_16 : decode cX6_init 16 = .ok (.new 16, 3) := by decide +kernel
theorem dX6_init_19 : decode cX6_init 19 = .ok (.dup, 1) := by decide +kernel
theorem dX6_init_20 : decode cX6_init 20 = .ok (.invokespecial 18, 3) := by decide +kernel
theorem dX6_init_23 : decode cX6_init 23 = .ok (.putfield 19, 3) := by decide +kernel
theorem dX6_init_26 : decode cX6_init 26 = .ok (.aload_n 0, 1) := by decide +kernel
theorem dX6_init_27 : decode cX6_init 27 = .ok (.new 23, 3) := by decide +kernel
theorem dX6_init_30 : decode cX6_init 30 = .ok (.dup, 1) := by decide +kernel
theorem dX6_init_31 : decode cX6_init 31 = .ok (.invokespecial 25, 3) := by decide +kernel
theorem dX6_init_34 : decode cX6_init 34 = .ok (.putfield 26, 3) := by decide +kernel
theorem dX6_init_37 : decode cX6_init 37 = .ok (.aload_n 0, 1) := by decide +kernel
theorem dX6_init_38 : decode cX6_init 38 = .ok (.new 30, 3) := by decide +kernel
theorem dX6_init_41 : decode cX6_init 41 = .ok (.dup, 1) := by decide +kernel
theorem dX6_init_42 : decode cX6_init 42 = .ok (.invokespecial 32, 3) := by decide +kernel
theorem dX6_init_45 : decode cX6_init 45 = .ok (.putfield 33, 3) := by decide +kernel
theorem dX6_init_48 : decode cX6_init 48 = .ok (.aload_n 0, 1) := by decide +kernel
theorem dX6_init_49 : decode cX6_init 49 = .ok (.new 37, 3) := by decide +kernel
theorem dX6_init_52 : decode cX6_init 52 = .ok (.dup, 1) := by decide +kernel
theorem dX6_init_53 : decode cX6_init 53 = .ok (.invokespecial 39, 3) := by decide +kernel
theorem dX6_init_56 : decode cX6_init 56 = .ok (.putfield 40, 3) := by decide +kernel
theorem dX6_init_59 : decode cX6_init 59 = .ok (.aload_n 0, 1) := by decide +kernel
theorem dX6_init_60 : decode cX6_init 60 = .ok (.new 44, 3) := by decide +kernel
theorem dX6_init_63 : decode cX6_init 63 = .ok (.dup, 1) := by decide +kernel
theorem dX6_init_64 : decode cX6_init 64 = .ok (.invokespecial 46, 3) := by decide +kernel
theorem dX6_init_67 : decode cX6_init 67 = .ok (.putfield 47, 3) := by decide +kernel
theorem dX6_init_70 : decode cX6_init 70 = .ok (.aload_n 0, 1) := by decide +kernel
theorem dX6_init_71 : decode cX6_init 71 = .ok (.getfield 12, 3) := by decide +kernel
theorem dX6_init_74 : decode cX6_init 74 = .ok (.iconst 2, 1) := by decide +kernel
theorem dX6_init_75 : decode cX6_init 75 = .ok (.iconst 2, 1) := by decide +kernel
theorem dX6_init_76 : decode cX6_init 76 = .ok (.invokevirtual 51, 3) := by decide +kernel
theorem dX6_init_79 : decode cX6_init 79 = .ok (.return_, 1) := by decide +kernel
set_option maxRecDepth 20000 in
theorem ggX6_begin_X2_save : GoodIn wsX6_begin wsX2_save := goodIn_r _ [9, 10, 11, 12, 13, 14, 15, 16, 17, 18, 19, 20, 21, 22, 23, 24, 25, 26, 27, 28, 29, 44, 45, 46, 47, 48, 49, 50, 51, 52, 53, 54] (by decide +kernel) (by decide +kernel)
set_option maxRecDepth 20000 in
theorem gX6_begin_X2_save : GoodIn wsX6_begin (wsV RX6 62 RX2 yX2_save wsX2_save) := goodIn_app (goodIn_of _ (by decide +kernel)) ggX6_begin_X2_save
set_option maxRecDepth 20000 in
theorem ggX6_begin_X0_makeEmpty : GoodIn wsX6_begin wsX0_makeEmpty := goodIn_r _ [33, 18, 19, 22, 23, 28, 47, 48, 49, 50, 51, 52, 53, 54] (by decide +kernel) (by decide +kernel)
set_option maxRecDepth 20000 in
theorem gX6_begin_X0_makeEmpty : GoodIn wsX6_begin (wsV RX6 51 RX0 yX0_makeEmpty wsX0_makeEmpty) := goodIn_app (goodIn_of _ (by decide +kernel)) ggX6_begin_X0_makeEmpty
set_option maxRecDepth 20000 in
theorem ggX6_begin_X0_cells : GoodIn wsX6_begin wsX0_cells := goodIn_r _ [37, 18, 19, 47, 48, 49, 50, 51, 52, 53, 54] (by decide +kernel) (by decide +kernel)
set_option maxRecDepth 20000 in
theorem gX6_begin_X0_cells : GoodIn wsX6_begin (wsV RX6 66 RX0 yX0_cells wsX0_cells) := goodIn_app (goodIn_of _ (by decide +kernel)) ggX6_begin_X0_cells
theorem dX6_begin_0 : decode cX6_begin 0 = .ok (.iload_n 1, 1) := by decide +kernel
theorem dX6_begin_1 : decode cX6_begin 1 = .ok (.iconst 1, 1) := by decide +kernel
theorem dX6_begin_2 : decode cX6_begin 2 = .ok (.if_icmp .lt 18, 3) := by decide +kernel
theorem dX6_begin_5 : decode cX6_begin 5 = .ok (.iload_n 1, 1) := by decide +kernel
theorem dX6_begin_6 : decode cX6_begin 6 = .ok (.iconst 3, 1) := by decide +kernel
theorem dX6_begin_7 : decode cX6_begin 7 = .ok (.if_icmp .gt 13, 3) := by decide +kernel
theorem dX6_begin_10 : decode cX6_begin 10 = .ok (.iload_n 2, 1) := by decide +kernel
theorem dX6_begin_11 : decode cX6_begin 11 = .ok (.iconst 1, 1) := by decide +kernel
theorem dX6_begin_12 : decode cX6_begin 12 = .ok (.if_icmp .lt 8, 3) := by decide +kernel
theorem dX6_begin_15 : decode cX6_begin 15 = .ok (.iload_n 2, 1) := by decide +kernel
theorem dX6_begin_16 : decode cX6_begin 16 = .ok (.iconst 4, 1) := by decide +kernel
theorem dX6_begin_17 : decode cX6_begin 17 = .ok (.if_icmp .le 13, 3) := by decide +kernel
theorem dX6_begin_20 : decode cX6_begin 20 = .ok (.new 55, 3) := by decide +kernel
theorem dX6_begin_23 : decode cX6_begin 23 = .ok (.dup, 1) := by decide +kernel
theorem dX6_begin_24 : decode cX6_begin 24 = .ok (.ldc 57, 2) := by decide +kernel
theorem dX6_begin_26 : decode cX6_begin 26 = .ok (.invokespecial 59, 3) := by decide +kernel
theorem dX6_begin_29 : decode cX6_begin 29 = .ok (.athrow, 1) := by decide +kernel
theorem dX6_begin_30 : decode cX6_begin 30 = .ok (.aload_n 0, 1) := by decide +kernel
theorem dX6_begin_31 : decode cX6_begin 31 = .ok (.getfield 19, 3) := by decide +kernel
theorem dX6_begin_34 : decode cX6_begin 34 = .ok (.aload_n 0, 1) := by decide +kernel
theorem dX6_begin_35 : decode cX6_begin 35 = .ok (.getfield 12, 3) := by decide +kernel
theorem dX6_begin_38 : decode cX6_begin 38 = .ok (.invokevirtual 62, 3) := by decide +kernel
theorem dX6_begin_41 : decode cX6_begin 41 = .ok (.aload_n 0, 1) := by decide +kernel
theorem dX6_begin_42 : decode cX6_begin 42 = .ok (.getfield 12, 3) := by decide +kernel
theorem dX6_begin_45 : decode cX6_begin 45 = .ok (.iload_n 1, 1) := by decide +kernel
theorem dX6_begin_46 : decode cX6_begin 46 = .ok (.iload_n 2, 1) := by decide +kernel
theorem dX6_begin_47 : decode cX6_begin 47 = .ok (.invokevirtual 51, 3) := by decide +kernel
theorem dX6_begin_50 : decode cX6_begin 50 = .ok (.aload_n 0, 1) := by decide +kernel
theorem dX6_begin_51 : decode cX6_begin 51 = .ok (.getfield 12, 3) := by decide +kernel
theorem dX6_begin_54 : decode cX6_begin 54 = .ok (.invokevirtual 66, 3) := by decide +kernel
theorem dX6_begin_57 : decode cX6_begin 57 = .ok (.ireturn, 1) := by decide +kernel
set_option maxRecDepth 20000 in
theorem ggX6_addTile_X2_save : GoodIn wsX6_addTile wsX2_save := goodIn_r _ [12, 13, 14, 15, 16, 17, 18, 19, 20, 21, 22, 23, 24, 25, 26, 27, 28, 29, 30, 31, 32, 72, 73, 74, 64, 65, 66, 67, 68, 69, 70, 71] (by decide +kernel) (by decide +kernel)
set_option maxRecDepth 20000 in
theorem gX6_addTile_X2_save : GoodIn wsX6_addTile (wsV RX6 62 RX2 yX2_save wsX2_save) := goodIn_app (goodIn_of _ (by decide +kernel)) ggX6_addTile_X2_save
set_option maxRecDepth 20000 in
theorem ggX6_addTile_X0_addFaces : GoodIn wsX6_addTile wsX0_addFaces := goodIn_r _ [36, 32, 24, 37, 38, 39, 40, 41, 42, 43, 44, 45, 46, 47, 48, 19, 49, 50, 51, 52, 53, 54, 55, 56, 57, 64, 65, 66, 67, 68, 69, 70, 71] (by decide +kernel) (by decide +kernel)
set_option maxRecDepth 20000 in
theorem gX6_addTile_X0_addFaces : GoodIn wsX6_addTile (wsV RX6 81 RX0 yX0_addFaces wsX0_addFaces) := goodIn_app (goodIn_of _ (by decide +kernel)) ggX6_addTile_X0_addFaces
theorem dX6_addTile_0 : decode cX6_addTile 0 = .ok (.iload_n 1, 1) := by decide +kernel
theorem dX6_addTile_1 : decode cX6_addTile 1 = .ok (.ifCond .lt 21, 3) := by decide +kernel
theorem dX6_addTile_4 : decode cX6_addTile 4 = .ok (.iload_n 1, 1) := by decide +kernel
theorem dX6_addTile_5 : decode cX6_addTile 5 = .ok (.sipush 9999, 3) := by decide +kernel
theorem dX6_addTile_8 : decode cX6_addTile 8 = .ok (.if_icmp .gt 14, 3) := by decide +kernel
theorem dX6_addTile_11 : decode cX6_addTile 11 = .ok (.iload_n 2, 1) := by decide +kernel
theorem dX6_addTile_12 : decode cX6_addTile 12 = .ok (.ifCond .lt 10, 3) := by decide +kernel
theorem dX6_addTile_15 : decode cX6_addTile 15 = .ok (.iload_n 2, 1) := by decide +kernel
theorem dX6_addTile_16 : decode cX6_addTile 16 = .ok (.sipush 9999, 3) := by decide +kernel
theorem dX6_addTile_19 : decode cX6_addTile 19 = .ok (.if_icmp .le 13, 3) := by decide +kernel
theorem dX6_addTile_22 : decode cX6_addTile 22 = .ok (.new 55, 3) := by decide +kernel
theorem dX6_addTile_25 : decode cX6_addTile 25 = .ok (.dup, 1) := by decide +kernel
theorem dX6_addTile_26 : decode cX6_addTile 26 = .ok (.ldc 70, 2) := by decide +kernel
theorem dX6_addTile_28 : decode cX6_addTile 28 = .ok (.invokespecial 59, 3) := by decide +kernel
theorem dX6_addTile_31 : decode cX6_addTile 31 = .ok (.athrow, 1) := by decide +kernel
theorem dX6_addTile_32 : decode cX6_addTile 32 = .ok (.aload_n 0, 1) := by decide +kernel
theorem dX6_addTile_33 : decode cX6_addTile 33 = .ok (.getfield 12, 3) := by decide +kernel
theorem dX6_addTile_36 : decode cX6_addTile 36 = .ok (.getfield 72, 3) := by decide +kernel
theorem dX6_addTile_39 : decode cX6_addTile 39 = .ok (.bipush 12, 2) := by decide +kernel
theorem dX6_addTile_41 : decode cX6_addTile 41 = .ok (.if_icmp .lt 13, 3) := by decide +kernel
theorem dX6_addTile_44 : decode cX6_addTile 44 = .ok (.new 76, 3) := by decide +kernel
theorem dX6_addTile_47 : decode cX6_addTile 47 = .ok (.dup, 1) := by decide +kernel
theorem dX6_addTile_48 : decode cX6_addTile 48 = .ok (.ldc 78, 2) := by decide +kernel
theorem dX6_addTile_50 : decode cX6_addTile 50 = .ok (.invokespecial 80, 3) := by decide +kernel
theorem dX6_addTile_53 : decode cX6_addTile 53 = .ok (.athrow, 1) := by decide +kernel
theorem dX6_addTile_54 : decode cX6_addTile 54 = .ok (.aload_n 0, 1) := by decide +kernel
theorem dX6_addTile_55 : decode cX6_addTile 55 = .ok (.getfield 19, 3) := by decide +kernel
theorem dX6_addTile_58 : decode cX6_addTile 58 = .ok (.aload_n 0, 1) := by decide +kernel
theorem dX6_addTile_59 : decode cX6_addTile 59 = .ok (.getfield 12, 3) := by decide +kernel
theorem dX6_addTile_62 : decode cX6_addTile 62 = .ok (.invokevirtual 62, 3) := by decide +kernel
theorem dX6_addTile_65 : decode cX6_addTile 65 = .ok (.aload_n 0, 1) := by decide +kernel
theorem dX6_addTile_66 : decode cX6_addTile 66 = .ok (.getfield 12, 3) := by decide +kernel
theorem dX6_addTile_69 : decode cX6_addTile 69 = .ok (.iload_n 1, 1) := by decide +kernel
theorem dX6_addTile_70 : decode cX6_addTile 70 = .ok (.iload_n 2, 1) := by decide +kernel
theorem dX6_addTile_71 : decode cX6_addTile 71 = .ok (.invokevirtual 81, 3) := by decide +kernel
theorem dX6_addTile_74 : decode cX6_addTile 74 = .ok (.aload_n 0, 1) := by decide +kernel
theorem dX6_addTile_75 : decode cX6_addTile 75 = .ok (.getfield 12, 3) := by decide +kernel
theorem dX6_addTile_78 : decode cX6_addTile 78 = .ok (.getfield 72, 3) := by decide +kernel
theorem dX6_addTile_81 : decode cX6_addTile 81 = .ok (.iconst 1, 1) := by decide +kernel
theorem dX6_addTile_82 : decode cX6_addTile 82 = .ok (.isub, 1) := by decide +kernel
theorem dX6_addTile_83 : decode cX6_addTile 83 = .ok (.ireturn, 1) := by decide +kernel
set_option maxRecDepth 20000 in
theorem ggX6_dropTile_X0_isLaid : GoodIn wsX6_dropTile wsX0_isLaid := goodIn_r _ [10, 11, 41, 42, 43, 44, 45, 46, 47, 48] (by decide +kernel) (by decide +kernel)
set_option maxRecDepth 20000 in
theorem gX6_dropTile_X0_isLaid : GoodIn wsX6_dropTile (wsV RX6 84 RX0 yX0_isLaid wsX0_isLaid) := goodIn_app (goodIn_of _ (by decide +kernel)) ggX6_dropTile_X0_isLaid
set_option maxRecDepth 20000 in
theorem ggX6_dropTile_X2_save : GoodIn wsX6_dropTile wsX2_save := goodIn_r _ [16, 17, 18, 19, 20, 21, 22, 9, 23, 24, 25, 26, 27, 28, 29, 30, 31, 32, 33, 11, 34, 49, 50, 51, 41, 42, 43, 44, 45, 46, 47, 48] (by decide +kernel) (by decide +kernel)
set_option maxRecDepth 20000 in
theorem gX6_dropTile_X2_save : GoodIn wsX6_dropTile (wsV RX6 62 RX2 yX2_save wsX2_save) := goodIn_app (goodIn_of _ (by decide +kernel)) ggX6_dropTile_X2_save
theorem dX6_dropTile_0 : decode cX6_dropTile 0 = .ok (.aload_n 0, 1) := by decide +kernel
theorem dX6_dropTile_1 : decode cX6_dropTile 1 = .ok (.getfield 12, 3) := by decide +kernel
theorem dX6_dropTile_4 : decode cX6_dropTile 4 = .ok (.getfield 72, 3) := by decide +kernel
theorem dX6_dropTile_7 : decode cX6_dropTile 7 = .ok (.iconst 1, 1) := by decide +kernel
theorem dX6_dropTile_8 : decode cX6_dropTile 8 = .ok (.if_icmp .lt 22, 3) := by decide +kernel
theorem dX6_dropTile_11 : decode cX6_dropTile 11 = .ok (.aload_n 0, 1) := by decide +kernel
theorem dX6_dropTile_12 : decode cX6_dropTile 12 = .ok (.getfield 12, 3) := by decide +kernel
theorem dX6_dropTile_15 : decode cX6_dropTile 15 = .ok (.aload_n 0, 1) := by decide +kernel
theorem dX6_dropTile_16 : decode cX6_dropTile 16 = .ok (.getfield 12, 3) := by decide +kernel
theorem dX6_dropTile_19 : decode cX6_dropTile 19 = .ok (.getfield 72, 3) := by decide +kernel
theorem dX6_dropTile_22 : decode cX6_dropTile 22 = .ok (.iconst 1, 1) := by decide +kernel
theorem dX6_dropTile_23 : decode cX6_dropTile 23 = .ok (.isub, 1) := by decide +kernel
theorem dX6_dropTile_24 : decode cX6_dropTile 24 = .ok (.invokevirtual 84, 3) := by decide +kernel
theorem dX6_dropTile_27 : decode cX6_dropTile 27 = .ok (.ifCond .eq 13, 3) := by decide +kernel
theorem dX6_dropTile_30 : decode cX6_dropTile 30 = .ok (.new 76, 3) := by decide +kernel
theorem dX6_dropTile_33 : decode cX6_dropTile 33 = .ok (.dup, 1) := by decide +kernel
theorem dX6_dropTile_34 : decode cX6_dropTile 34 = .ok (.ldc 88, 2) := by decide +kernel
theorem dX6_dropTile_36 : decode cX6_dropTile 36 = .ok (.invokespecial 80, 3) := by decide +kernel
theorem dX6_dropTile_39 : decode cX6_dropTile 39 = .ok (.athrow, 1) := by decide +kernel
theorem dX6_dropTile_40 : decode cX6_dropTile 40 = .ok (.aload_n 0, 1) := by decide +kernel
theorem dX6_dropTile_41 : decode cX6_dropTile 41 = .ok (.getfield 19, 3) := by decide +kernel
theorem dX6_dropTile_44 : decode cX6_dropTile 44 = .ok (.aload_n 0, 1) := by decide +kernel
theorem dX6_dropTile_45 : decode cX6_dropTile 45 = .ok (.getfield 12, 3) := by decide +kernel
theorem dX6_dropTile_48 : decode cX6_dropTile 48 = .ok (.invokevirtual 62, 3) := by decide +kernel
theorem dX6_dropTile_51 : decode cX6_dropTile 51 = .ok (.aload_n 0, 1) := by decide +kernel
theorem dX6_dropTile_52 : decode cX6_dropTile 52 = .ok (.getfield 12, 3) := by decide +kernel
theorem dX6_dropTile_55 : decode cX6_dropTile 55 = .ok (.dup, 1) := by decide +kernel
theorem dX6_dropTile_56 : decode cX6_dropTile 56 = .ok (.getfield 72, 3) := by decide +kernel
theorem dX6_dropTile_59 : decode cX6_dropTile 59 = .ok (.iconst 1, 1) := by decide +kernel
theorem dX6_dropTile_60 : decode cX6_dropTile 60 = .ok (.isub, 1) := by decide +kernel
theorem dX6_dropTile_61 : decode cX6_dropTile 61 = .ok (.putfield 72, 3) := by decide +kernel
theorem dX6_dropTile_64 : decode cX6_dropTile 64 = .ok (.aload_n 0, 1) := by decide +kernel
theorem dX6_dropTile_65 : decode cX6_dropTile 65 = .ok (.getfield 12, 3) := by decide +kernel
theorem dX6_dropTile_68 : decode cX6_dropTile 68 = .ok (.getfield 72, 3) := by decide +kernel
theorem dX6_dropTile_71 : decode cX6_dropTile 71 = .ok (.ireturn, 1) := by decide +kernel
set_option maxRecDepth 20000 in
theorem ggX6_setRule_X2_save : GoodIn wsX6_setRule wsX2_save := goodIn_r _ [10, 11, 12, 13, 14, 15, 16, 17, 18, 19, 20, 21, 22, 23, 24, 25, 26, 27, 28, 29, 30, 45, 46, 47, 37, 38, 39, 40, 41, 42, 43, 44] (by decide +kernel) (by decide +kernel)
set_option maxRecDepth 20000 in
theorem gX6_setRule_X2_save : GoodIn wsX6_setRule (wsV RX6 62 RX2 yX2_save wsX2_save) := goodIn_app (goodIn_of _ (by decide +kernel)) ggX6_setRule_X2_save
theorem dX6_setRule_0 : decode cX6_setRule 0 = .ok (.iload_n 1, 1) := by decide +kernel
theorem dX6_setRule_1 : decode cX6_setRule 1 = .ok (.ifCond .lt 8, 3) := by decide +kernel
theorem dX6_setRule_4 : decode cX6_setRule 4 = .ok (.iload_n 1, 1) := by decide +kernel
theorem dX6_setRule_5 : decode cX6_setRule 5 = .ok (.iconst 2, 1) := by decide +kernel
theorem dX6_setRule_6 : decode cX6_setRule 6 = .ok (.if_icmp .le 13, 3) := by decide +kernel
theorem dX6_setRule_9 : decode cX6_setRule 9 = .ok (.new 55, 3) := by decide +kernel
theorem dX6_setRule_12 : decode cX6_setRule 12 = .ok (.dup, 1) := by decide +kernel
theorem dX6_setRule_13 : decode cX6_setRule 13 = .ok (.ldc 90, 2) := by decide +kernel
theorem dX6_setRule_15 : decode cX6_setRule 15 = .ok (.invokespecial 59, 3) := by decide +kernel
theorem dX6_setRule_18 : decode cX6_setRule 18 = .ok (.athrow, 1) := by decide +kernel
theorem dX6_setRule_19 : decode cX6_setRule 19 = .ok (.aload_n 0, 1) := by decide +kernel
theorem dX6_setRule_20 : decode cX6_setRule 20 = .ok (.getfield 19, 3) := by decide +kernel
theorem dX6_setRule_23 : decode cX6_setRule 23 = .ok (.aload_n 0, 1) := by decide +kernel
theorem dX6_setRule_24 : decode cX6_setRule 24 = .ok (.getfield 12, 3) := by decide +kernel
theorem dX6_setRule_27 : decode cX6_setRule 27 = .ok (.invokevirtual 62, 3) := by decide +kernel
theorem dX6_setRule_30 : decode cX6_setRule 30 = .ok (.aload_n 0, 1) := by decide +kernel
theorem dX6_setRule_31 : decode cX6_setRule 31 = .ok (.getfield 12, 3) := by decide +kernel
theorem dX6_setRule_34 : decode cX6_setRule 34 = .ok (.getfield 92, 3) := by decide +kernel
theorem dX6_setRule_37 : decode cX6_setRule 37 = .ok (.istore_n 2, 1) := by decide +kernel
theorem dX6_setRule_38 : decode cX6_setRule 38 = .ok (.aload_n 0, 1) := by decide +kernel
theorem dX6_setRule_39 : decode cX6_setRule 39 = .ok (.getfield 12, 3) := by decide +kernel
theorem dX6_setRule_42 : decode cX6_setRule 42 = .ok (.iload_n 1, 1) := by decide +kernel
theorem dX6_setRule_43 : decode cX6_setRule 43 = .ok (.putfield 92, 3) := by decide +kernel
theorem dX6_setRule_46 : decode cX6_setRule 46 = .ok (.iload_n 2, 1) := by decide +kernel
theorem dX6_setRule_47 : decode cX6_setRule 47 = .ok (.ireturn, 1) := by decide +kernel
set_option maxRecDepth 20000 in
theorem ggX6_cut_X2_save : GoodIn wsX6_cut wsX2_save := goodIn_r _ [14, 15, 16, 17, 18, 19, 20, 21, 22, 23, 24, 25, 26, 27, 28, 29, 30, 31, 32, 33, 34, 99, 100, 101, 91, 92, 93, 94, 95, 96, 97, 98] (by decide +kernel) (by decide +kernel)
set_option maxRecDepth 20000 in
theorem gX6_cut_X2_save : GoodIn wsX6_cut (wsV RX6 62 RX2 yX2_save wsX2_save) := goodIn_app (goodIn_of _ (by decide +kernel)) ggX6_cut_X2_save
set_option maxRecDepth 20000 in
theorem ggX6_cut_X0_makeEmpty : GoodIn wsX6_cut wsX0_makeEmpty := goodIn_r _ [38, 23, 24, 27, 28, 33, 91, 92, 93, 94, 95, 96, 97, 98] (by decide +kernel) (by decide +kernel)
set_option maxRecDepth 20000 in
theorem gX6_cut_X0_makeEmpty : GoodIn wsX6_cut (wsV RX6 51 RX0 yX0_makeEmpty wsX0_makeEmpty) := goodIn_app (goodIn_of _ (by decide +kernel)) ggX6_cut_X0_makeEmpty
set_option maxRecDepth 20000 in
theorem ggX6_cut_X1_start : GoodIn wsX6_cut wsX1_start := goodIn_r _ [43, 44, 45, 46, 102, 103, 104] (by decide +kernel) (by decide +kernel)
set_option maxRecDepth 20000 in
theorem gX6_cut_X1_start : GoodIn wsX6_cut (wsV RX6 104 RX1 yX1_start wsX1_start) := goodIn_app (goodIn_of _ (by decide +kernel)) ggX6_cut_X1_start
set_option maxRecDepth 20000 in
theorem ggX6_cut_X0_cutTiles : GoodIn wsX6_cut wsX0_cutTiles := goodIn_r _ [50, 26, 34, 51, 52, 53, 21, 54, 23, 24, 55, 56, 57, 58, 59, 60, 61, 62, 63, 64, 65, 42, 66, 46, 45, 44, 67, 68, 69, 70, 71, 72, 73, 74, 75, 76, 77, 78, 79, 80, 81, 82, 83, 84, 91, 92, 93, 94, 95, 96, 97, 98, 102, 103, 104] (by decide +kernel) (by decide +kernel)
set_option maxRecDepth 20000 in
theorem gX6_cut_X0_cutTiles : GoodIn wsX6_cut (wsV RX6 107 RX0 yX0_cutTiles wsX0_cutTiles) := goodIn_app (goodIn_of _ (by decide +kernel)) ggX6_cut_X0_cutTiles
theorem dX6_cut_0 : decode cX6_cut 0 = .ok (.iload_n 1, 1) := by decide +kernel
theorem dX6_cut_1 : decode cX6_cut 1 = .ok (.iconst 1, 1) := by decide +kernel
theorem dX6_cut_2 : decode cX6_cut 2 = .ok (.if_icmp .lt 20, 3) := by decide +kernel
theorem dX6_cut_5 : decode cX6_cut 5 = .ok (.iload_n 1, 1) := by decide +kernel
theorem dX6_cut_6 : decode cX6_cut 6 = .ok (.ldc 95, 2) := by decide +kernel
theorem dX6_cut_8 : decode cX6_cut 8 = .ok (.if_icmp .gt 14, 3) := by decide +kernel
theorem dX6_cut_11 : decode cX6_cut 11 = .ok (.iload_n 2, 1) := by decide +kernel
theorem dX6_cut_12 : decode cX6_cut 12 = .ok (.iconst 1, 1) := by decide +kernel
theorem dX6_cut_13 : decode cX6_cut 13 = .ok (.if_icmp .lt 9, 3) := by decide +kernel
theorem dX6_cut_16 : decode cX6_cut 16 = .ok (.iload_n 2, 1) := by decide +kernel
theorem dX6_cut_17 : decode cX6_cut 17 = .ok (.bipush 9, 2) := by decide +kernel
theorem dX6_cut_19 : decode cX6_cut 19 = .ok (.if_icmp .le 13, 3) := by decide +kernel
theorem dX6_cut_22 : decode cX6_cut 22 = .ok (.new 55, 3) := by decide +kernel
theorem dX6_cut_25 : decode cX6_cut 25 = .ok (.dup, 1) := by decide +kernel
theorem dX6_cut_26 : decode cX6_cut 26 = .ok (.ldc 96, 2) := by decide +kernel
theorem dX6_cut_28 : decode cX6_cut 28 = .ok (.invokespecial 59, 3) := by decide +kernel
theorem dX6_cut_31 : decode cX6_cut 31 = .ok (.athrow, 1) := by decide +kernel
theorem dX6_cut_32 : decode cX6_cut 32 = .ok (.aload_n 0, 1) := by decide +kernel
theorem dX6_cut_33 : decode cX6_cut 33 = .ok (.getfield 19, 3) := by decide +kernel
theorem dX6_cut_36 : decode cX6_cut 36 = .ok (.aload_n 0, 1) := by decide +kernel
theorem dX6_cut_37 : decode cX6_cut 37 = .ok (.getfield 12, 3) := by decide +kernel
theorem dX6_cut_40 : decode cX6_cut 40 = .ok (.invokevirtual 62, 3) := by decide +kernel
theorem dX6_cut_43 : decode cX6_cut 43 = .ok (.aload_n 0, 1) := by decide +kernel
theorem dX6_cut_44 : decode cX6_cut 44 = .ok (.getfield 12, 3) := by decide +kernel
theorem dX6_cut_47 : decode cX6_cut 47 = .ok (.aload_n 0, 1) := by decide +kernel
theorem dX6_cut_48 : decode cX6_cut 48 = .ok (.getfield 12, 3) := by decide +kernel
theorem dX6_cut_51 : decode cX6_cut 51 = .ok (.getfield 98, 3) := by decide +kernel
theorem dX6_cut_54 : decode cX6_cut 54 = .ok (.aload_n 0, 1) := by decide +kernel
theorem dX6_cut_55 : decode cX6_cut 55 = .ok (.getfield 12, 3) := by decide +kernel
theorem dX6_cut_58 : decode cX6_cut 58 = .ok (.getfield 101, 3) := by decide +kernel
theorem dX6_cut_61 : decode cX6_cut 61 = .ok (.invokevirtual 51, 3) := by decide +kernel
theorem dX6_cut_64 : decode cX6_cut 64 = .ok (.aload_n 0, 1) := by decide +kernel
theorem dX6_cut_65 : decode cX6_cut 65 = .ok (.getfield 47, 3) := by decide +kernel
theorem dX6_cut_68 : decode cX6_cut 68 = .ok (.iload_n 1, 1) := by decide +kernel
theorem dX6_cut_69 : decode cX6_cut 69 = .ok (.iload_n 2, 1) := by decide +kernel
theorem dX6_cut_70 : decode cX6_cut 70 = .ok (.invokevirtual 104, 3) := by decide +kernel
theorem dX6_cut_73 : decode cX6_cut 73 = .ok (.aload_n 0, 1) := by decide +kernel
theorem dX6_cut_74 : decode cX6_cut 74 = .ok (.getfield 12, 3) := by decide +kernel
theorem dX6_cut_77 : decode cX6_cut 77 = .ok (.aload_n 0, 1) := by decide +kernel
theorem dX6_cut_78 : decode cX6_cut 78 = .ok (.getfield 47, 3) := by decide +kernel
theorem dX6_cut_81 : decode cX6_cut 81 = .ok (.invokevirtual 107, 3) := by decide +kernel
theorem dX6_cut_84 : decode cX6_cut 84 = .ok (.aload_n 0, 1) := by decide +kernel
theorem dX6_cut_85 : decode cX6_cut 85 = .ok (.getfield 12, 3) := by decide +kernel
theorem dX6_cut_88 : decode cX6_cut 88 = .ok (.getfield 72, 3) := by decide +kernel
theorem dX6_cut_91 : decode cX6_cut 91 = .ok (.ireturn, 1) := by decide +kernel
set_option maxRecDepth 20000 in
theorem ggX6_lay_X6_requirePlacing : GoodIn wsX6_lay wsX6_requirePlacing := goodIn_ca (goodIn_r _ [9, 10, 11, 4, 12, 13, 14, 8, 15, 16, 17, 18, 19, 20, 21, 22, 23, 24, 25, 26, 27, 28, 29, 30, 31, 114, 115, 116, 117, 118, 119, 120, 121, 122, 123, 124, 125, 126, 127] (by decide +kernel) (by decide +kernel)) (goodIn_sub (fun _ h => List.mem_cons_of_mem _ (List.mem_append_right _ h)) (by decide +kernel))
set_option maxRecDepth 20000 in
theorem gX6_lay_X6_requirePlacing : GoodIn wsX6_lay (wsV RX6 111 RX6 yX6_requirePlacing wsX6_requirePlacing) := goodIn_app (goodIn_of _ (by decide +kernel)) ggX6_lay_X6_requirePlacing
set_option maxRecDepth 20000 in
theorem ggX6_lay_X6_reason : GoodIn wsX6_lay wsX6_reason := goodIn_r _ [35, 4, 36, 37, 38, 39, 40, 19, 41, 42, 43, 44, 45, 46, 47, 48, 49, 50, 51, 52, 53, 54, 55, 56, 57, 58, 59, 60, 61, 62, 63, 64, 65, 26, 21, 22, 23, 24, 25, 66, 67, 68, 69, 70, 71, 72, 8, 73, 74, 75, 76, 77, 78, 79, 80, 81, 82, 83, 84, 85, 86, 114, 115, 116, 117, 118, 119, 120, 121, 122, 123, 124, 125, 126, 127, 128, 129, 130, 131] (by decide +kernel) (by decide +kernel)
set_option maxRecDepth 20000 in
theorem gX6_lay_X6_reason : GoodIn wsX6_lay (wsV RX6 114 RX6 yX6_reason wsX6_reason) := goodIn_app (goodIn_of _ (by decide +kernel)) ggX6_lay_X6_reason
set_option maxRecDepth 20000 in
theorem ggX6_lay_X2_save : GoodIn wsX6_lay wsX2_save := goodIn_r _ [91, 92, 93, 94, 95, 96, 97, 19, 98, 25, 26, 99, 31, 100, 42, 101, 102, 103, 104, 47, 71, 132, 133, 134, 120, 121, 122, 123, 124, 125, 126, 127] (by decide +kernel) (by decide +kernel)
set_option maxRecDepth 20000 in
theorem gX6_lay_X2_save : GoodIn wsX6_lay (wsV RX6 62 RX2 yX2_save wsX2_save) := goodIn_app (goodIn_of _ (by decide +kernel)) ggX6_lay_X2_save
set_option maxRecDepth 20000 in
theorem ggX6_lay_X0_put : GoodIn wsX6_lay wsX0_put := goodIn_r _ [108, 42, 47, 120, 121, 122, 123, 124, 125, 126, 127] (by decide +kernel) (by decide +kernel)
set_option maxRecDepth 20000 in
theorem gX6_lay_X0_put : GoodIn wsX6_lay (wsV RX6 120 RX0 yX0_put wsX0_put) := goodIn_app (goodIn_of _ (by decide +kernel)) ggX6_lay_X0_put
set_option maxRecDepth 20000 in
theorem ggX6_lay_X0_emptyCells : GoodIn wsX6_lay wsX0_emptyCells := goodIn_r _ [112, 21, 22, 23, 19, 24, 25, 26, 113, 39, 40, 41, 42, 120, 121, 122, 123, 124, 125, 126, 127] (by decide +kernel) (by decide +kernel)
set_option maxRecDepth 20000 in
theorem gX6_lay_X0_emptyCells : GoodIn wsX6_lay (wsV RX6 123 RX0 yX0_emptyCells wsX0_emptyCells) := goodIn_app (goodIn_of _ (by decide +kernel)) ggX6_lay_X0_emptyCells
theorem dX6_lay_0 : decode cX6_lay 0 = .ok (.aload_n 0, 1) := by decide +kernel
theorem dX6_lay_1 : decode cX6_lay 1 = .ok (.iload_n 1, 1) := by decide +kernel
theorem dX6_lay_2 : decode cX6_lay 2 = .ok (.iload_n 2, 1) := by decide +kernel
theorem dX6_lay_3 : decode cX6_lay 3 = .ok (.invokevirtual 111, 3) := by decide +kernel
theorem dX6_lay_6 : decode cX6_lay 6 = .ok (.aload_n 0, 1) := by decide +kernel
theorem dX6_lay_7 : decode cX6_lay 7 = .ok (.iload_n 1, 1) := by decide +kernel
theorem dX6_lay_8 : decode cX6_lay 8 = .ok (.iload_n 2, 1) := by decide +kernel
theorem dX6_lay_9 : decode cX6_lay 9 = .ok (.invokevirtual 114, 3) := by decide +kernel
theorem dX6_lay_12 : decode cX6_lay 12 = .ok (.ifCond .eq 13, 3) := by decide +kernel
theorem dX6_lay_15 : decode cX6_lay 15 = .ok (.new 76, 3) := by decide +kernel
theorem dX6_lay_18 : decode cX6_lay 18 = .ok (.dup, 1) := by decide +kernel
theorem dX6_lay_19 : decode cX6_lay 19 = .ok (.ldc 118, 2) := by decide +kernel
theorem dX6_lay_21 : decode cX6_lay 21 = .ok (.invokespecial 80, 3) := by decide +kernel
theorem dX6_lay_24 : decode cX6_lay 24 = .ok (.athrow, 1) := by decide +kernel
theorem dX6_lay_25 : decode cX6_lay 25 = .ok (.aload_n 0, 1) := by decide +kernel
theorem dX6_lay_26 : decode cX6_lay 26 = .ok (.getfield 19, 3) := by decide +kernel
theorem dX6_lay_29 : decode cX6_lay 29 = .ok (.aload_n 0, 1) := by decide +kernel
theorem dX6_lay_30 : decode cX6_lay 30 = .ok (.getfield 12, 3) := by decide +kernel
theorem dX6_lay_33 : decode cX6_lay 33 = .ok (.invokevirtual 62, 3) := by decide +kernel
theorem dX6_lay_36 : decode cX6_lay 36 = .ok (.aload_n 0, 1) := by decide +kernel
theorem dX6_lay_37 : decode cX6_lay 37 = .ok (.getfield 12, 3) := by decide +kernel
theorem dX6_lay_40 : decode cX6_lay 40 = .ok (.iload_n 1, 1) := by decide +kernel
theorem dX6_lay_41 : decode cX6_lay 41 = .ok (.iload_n 2, 1) := by decide +kernel
theorem dX6_lay_42 : decode cX6_lay 42 = .ok (.invokevirtual 120, 3) := by decide +kernel
theorem dX6_lay_45 : decode cX6_lay 45 = .ok (.aload_n 0, 1) := by decide +kernel
theorem dX6_lay_46 : decode cX6_lay 46 = .ok (.getfield 12, 3) := by decide +kernel
theorem dX6_lay_49 : decode cX6_lay 49 = .ok (.invokevirtual 123, 3) := by decide +kernel
theorem dX6_lay_52 : decode cX6_lay 52 = .ok (.ireturn, 1) := by decide +kernel
set_option maxRecDepth 20000 in
theorem ggX6_take_X6_requireCell : GoodIn wsX6_take wsX6_requireCell := goodIn_ca (goodIn_r _ [10, 11, 12, 3, 13, 14, 15, 16, 17, 18, 19, 20, 21, 22, 23, 58, 59, 60, 61, 62, 63, 64, 65, 66, 67, 68, 69, 70, 71] (by decide +kernel) (by decide +kernel)) (goodIn_sub (fun _ h => List.mem_cons_of_mem _ (List.mem_append_right _ h)) (by decide +kernel))
set_option maxRecDepth 20000 in
theorem gX6_take_X6_requireCell : GoodIn wsX6_take (wsV RX6 126 RX6 yX6_requireCell wsX6_requireCell) := goodIn_app (goodIn_of _ (by decide +kernel)) ggX6_take_X6_requireCell
set_option maxRecDepth 20000 in
theorem ggX6_take_X0_isEmpty : GoodIn wsX6_take wsX0_isEmpty := goodIn_r _ [27, 28, 64, 65, 66, 67, 68, 69, 70, 71] (by decide +kernel) (by decide +kernel)
set_option maxRecDepth 20000 in
theorem gX6_take_X0_isEmpty : GoodIn wsX6_take (wsV RX6 130 RX0 yX0_isEmpty wsX0_isEmpty) := goodIn_app (goodIn_of _ (by decide +kernel)) ggX6_take_X0_isEmpty
set_option maxRecDepth 20000 in
theorem ggX6_take_X0_isFixed : GoodIn wsX6_take wsX0_isFixed := goodIn_r _ [32, 33, 64, 65, 66, 67, 68, 69, 70, 71] (by decide +kernel) (by decide +kernel)
set_option maxRecDepth 20000 in
theorem gX6_take_X0_isFixed : GoodIn wsX6_take (wsV RX6 133 RX0 yX0_isFixed wsX0_isFixed) := goodIn_app (goodIn_of _ (by decide +kernel)) ggX6_take_X0_isFixed
set_option maxRecDepth 20000 in
theorem ggX6_take_X2_save : GoodIn wsX6_take wsX2_save := goodIn_r _ [38, 39, 40, 41, 42, 43, 44, 16, 45, 22, 23, 46, 47, 33, 28, 48, 49, 50, 51, 52, 53, 72, 73, 74, 64, 65, 66, 67, 68, 69, 70, 71] (by decide +kernel) (by decide +kernel)
set_option maxRecDepth 20000 in
theorem gX6_take_X2_save : GoodIn wsX6_take (wsV RX6 62 RX2 yX2_save wsX2_save) := goodIn_app (goodIn_of _ (by decide +kernel)) ggX6_take_X2_save
set_option maxRecDepth 20000 in
theorem ggX6_take_X0_remove : GoodIn wsX6_take wsX0_remove := goodIn_r _ [57, 52, 28, 64, 65, 66, 67, 68, 69, 70, 71] (by decide +kernel) (by decide +kernel)
set_option maxRecDepth 20000 in
theorem gX6_take_X0_remove : GoodIn wsX6_take (wsV RX6 142 RX0 yX0_remove wsX0_remove) := goodIn_app (goodIn_of _ (by decide +kernel)) ggX6_take_X0_remove
theorem dX6_take_0 : decode cX6_take 0 = .ok (.aload_n 0, 1) := by decide +kernel
theorem dX6_take_1 : decode cX6_take 1 = .ok (.iload_n 1, 1) := by decide +kernel
theorem dX6_take_2 : decode cX6_take 2 = .ok (.invokevirtual 126, 3) := by decide +kernel
theorem dX6_take_5 : decode cX6_take 5 = .ok (.aload_n 0, 1) := by decide +kernel
theorem dX6_take_6 : decode cX6_take 6 = .ok (.getfield 12, 3) := by decide +kernel
theorem dX6_take_9 : decode cX6_take 9 = .ok (.iload_n 1, 1) := by decide +kernel
theorem dX6_take_10 : decode cX6_take 10 = .ok (.invokevirtual 130, 3) := by decide +kernel
theorem dX6_take_13 : decode cX6_take 13 = .ok (.ifCond .ne 14, 3) := by decide +kernel
theorem dX6_take_16 : decode cX6_take 16 = .ok (.aload_n 0, 1) := by decide +kernel
theorem dX6_take_17 : decode cX6_take 17 = .ok (.getfield 12, 3) := by decide +kernel
theorem dX6_take_20 : decode cX6_take 20 = .ok (.iload_n 1, 1) := by decide +kernel
theorem dX6_take_21 : decode cX6_take 21 = .ok (.invokevirtual 133, 3) := by decide +kernel
theorem dX6_take_24 : decode cX6_take 24 = .ok (.ifCond .eq 13, 3) := by decide +kernel
theorem dX6_take_27 : decode cX6_take 27 = .ok (.new 76, 3) := by decide +kernel
theorem dX6_take_30 : decode cX6_take 30 = .ok (.dup, 1) := by decide +kernel
theorem dX6_take_31 : decode cX6_take 31 = .ok (.ldc 136, 2) := by decide +kernel
theorem dX6_take_33 : decode cX6_take 33 = .ok (.invokespecial 80, 3) := by decide +kernel
theorem dX6_take_36 : decode cX6_take 36 = .ok (.athrow, 1) := by decide +kernel
theorem dX6_take_37 : decode cX6_take 37 = .ok (.aload_n 0, 1) := by decide +kernel
theorem dX6_take_38 : decode cX6_take 38 = .ok (.getfield 19, 3) := by decide +kernel
theorem dX6_take_41 : decode cX6_take 41 = .ok (.aload_n 0, 1) := by decide +kernel
theorem dX6_take_42 : decode cX6_take 42 = .ok (.getfield 12, 3) := by decide +kernel
theorem dX6_take_45 : decode cX6_take 45 = .ok (.invokevirtual 62, 3) := by decide +kernel
theorem dX6_take_48 : decode cX6_take 48 = .ok (.aload_n 0, 1) := by decide +kernel
theorem dX6_take_49 : decode cX6_take 49 = .ok (.getfield 12, 3) := by decide +kernel
theorem dX6_take_52 : decode cX6_take 52 = .ok (.getfield 138, 3) := by decide +kernel
theorem dX6_take_55 : decode cX6_take 55 = .ok (.iload_n 1, 1) := by decide +kernel
theorem dX6_take_56 : decode cX6_take 56 = .ok (.iaload, 1) := by decide +kernel
theorem dX6_take_57 : decode cX6_take 57 = .ok (.istore_n 2, 1) := by decide +kernel
theorem dX6_take_58 : decode cX6_take 58 = .ok (.aload_n 0, 1) := by decide +kernel
theorem dX6_take_59 : decode cX6_take 59 = .ok (.getfield 12, 3) := by decide +kernel
theorem dX6_take_62 : decode cX6_take 62 = .ok (.iload_n 1, 1) := by decide +kernel
theorem dX6_take_63 : decode cX6_take 63 = .ok (.invokevirtual 142, 3) := by decide +kernel
theorem dX6_take_66 : decode cX6_take 66 = .ok (.iload_n 2, 1) := by decide +kernel
theorem dX6_take_67 : decode cX6_take 67 = .ok (.ireturn, 1) := by decide +kernel
set_option maxRecDepth 20000 in
theorem ggX6_fix_X6_requireCell : GoodIn wsX6_fix wsX6_requireCell := goodIn_ca (goodIn_r _ [10, 11, 12, 3, 13, 14, 15, 16, 17, 18, 19, 20, 21, 22, 23, 54, 55, 56, 57, 58, 59, 60, 61, 62, 63, 64, 65, 66, 67] (by decide +kernel) (by decide +kernel)) (goodIn_sub (fun _ h => List.mem_cons_of_mem _ (List.mem_append_right _ h)) (by decide +kernel))
set_option maxRecDepth 20000 in
theorem gX6_fix_X6_requireCell : GoodIn wsX6_fix (wsV RX6 126 RX6 yX6_requireCell wsX6_requireCell) := goodIn_app (goodIn_of _ (by decide +kernel)) ggX6_fix_X6_requireCell
set_option maxRecDepth 20000 in
theorem ggX6_fix_X0_isEmpty : GoodIn wsX6_fix wsX0_isEmpty := goodIn_r _ [27, 28, 60, 61, 62, 63, 64, 65, 66, 67] (by decide +kernel) (by decide +kernel)
set_option maxRecDepth 20000 in
theorem gX6_fix_X0_isEmpty : GoodIn wsX6_fix (wsV RX6 130 RX0 yX0_isEmpty wsX0_isEmpty) := goodIn_app (goodIn_of _ (by decide +kernel)) ggX6_fix_X0_isEmpty
set_option maxRecDepth 20000 in
theorem ggX6_fix_X2_save : GoodIn wsX6_fix wsX2_save := goodIn_r _ [33, 34, 35, 36, 37, 38, 39, 16, 40, 22, 23, 41, 42, 43, 28, 44, 45, 46, 47, 48, 49, 68, 69, 70, 60, 61, 62, 63, 64, 65, 66, 67] (by decide +kernel) (by decide +kernel)
set_option maxRecDepth 20000 in
theorem gX6_fix_X2_save : GoodIn wsX6_fix (wsV RX6 62 RX2 yX2_save wsX2_save) := goodIn_app (goodIn_of _ (by decide +kernel)) ggX6_fix_X2_save
set_option maxRecDepth 20000 in
theorem ggX6_fix_X0_isFixed : GoodIn wsX6_fix wsX0_isFixed := goodIn_r _ [53, 43, 60, 61, 62, 63, 64, 65, 66, 67] (by decide +kernel) (by decide +kernel)
set_option maxRecDepth 20000 in
theorem gX6_fix_X0_isFixed : GoodIn wsX6_fix (wsV RX6 133 RX0 yX0_isFixed wsX0_isFixed) := goodIn_app (goodIn_of _ (by decide +kernel)) ggX6_fix_X0_isFixed
theorem dX6_fix_0 : decode cX6_fix 0 = .ok (.aload_n 0, 1) := by decide +kernel
theorem dX6_fix_1 : decode cX6_fix 1 = .ok (.iload_n 1, 1) := by decide +kernel
theorem dX6_fix_2 : decode cX6_fix 2 = .ok (.invokevirtual 126, 3) := by decide +kernel
theorem dX6_fix_5 : decode cX6_fix 5 = .ok (.aload_n 0, 1) := by decide +kernel
theorem dX6_fix_6 : decode cX6_fix 6 = .ok (.getfield 12, 3) := by decide +kernel
theorem dX6_fix_9 : decode cX6_fix 9 = .ok (.iload_n 1, 1) := by decide +kernel
theorem dX6_fix_10 : decode cX6_fix 10 = .ok (.invokevirtual 130, 3) := by decide +kernel
theorem dX6_fix_13 : decode cX6_fix 13 = .ok (.ifCond .eq 13, 3) := by decide +kernel
theorem dX6_fix_16 : decode cX6_fix 16 = .ok (.new 76, 3) := by decide +kernel
theorem dX6_fix_19 : decode cX6_fix 19 = .ok (.dup, 1) := by decide +kernel
theorem dX6_fix_20 : decode cX6_fix 20 = .ok (.ldc 145, 2) := by decide +kernel
theorem dX6_fix_22 : decode cX6_fix 22 = .ok (.invokespecial 80, 3) := by decide +kernel
theorem dX6_fix_25 : decode cX6_fix 25 = .ok (.athrow, 1) := by decide +kernel
theorem dX6_fix_26 : decode cX6_fix 26 = .ok (.aload_n 0, 1) := by decide +kernel
theorem dX6_fix_27 : decode cX6_fix 27 = .ok (.getfield 19, 3) := by decide +kernel
theorem dX6_fix_30 : decode cX6_fix 30 = .ok (.aload_n 0, 1) := by decide +kernel
theorem dX6_fix_31 : decode cX6_fix 31 = .ok (.getfield 12, 3) := by decide +kernel
theorem dX6_fix_34 : decode cX6_fix 34 = .ok (.invokevirtual 62, 3) := by decide +kernel
theorem dX6_fix_37 : decode cX6_fix 37 = .ok (.aload_n 0, 1) := by decide +kernel
theorem dX6_fix_38 : decode cX6_fix 38 = .ok (.getfield 12, 3) := by decide +kernel
theorem dX6_fix_41 : decode cX6_fix 41 = .ok (.dup, 1) := by decide +kernel
theorem dX6_fix_42 : decode cX6_fix 42 = .ok (.getfield 147, 3) := by decide +kernel
theorem dX6_fix_45 : decode cX6_fix 45 = .ok (.iconst 1, 1) := by decide +kernel
theorem dX6_fix_46 : decode cX6_fix 46 = .ok (.iload_n 1, 1) := by decide +kernel
theorem dX6_fix_47 : decode cX6_fix 47 = .ok (.ishl, 1) := by decide +kernel
theorem dX6_fix_48 : decode cX6_fix 48 = .ok (.ixor, 1) := by decide +kernel
theorem dX6_fix_49 : decode cX6_fix 49 = .ok (.putfield 147, 3) := by decide +kernel
theorem dX6_fix_52 : decode cX6_fix 52 = .ok (.aload_n 0, 1) := by decide +kernel
theorem dX6_fix_53 : decode cX6_fix 53 = .ok (.getfield 12, 3) := by decide +kernel
theorem dX6_fix_56 : decode cX6_fix 56 = .ok (.iload_n 1, 1) := by decide +kernel
theorem dX6_fix_57 : decode cX6_fix 57 = .ok (.invokevirtual 133, 3) := by decide +kernel
theorem dX6_fix_60 : decode cX6_fix 60 = .ok (.ifCond .eq 7, 3) := by decide +kernel
theorem dX6_fix_63 : decode cX6_fix 63 = .ok (.iconst 1, 1) := by decide +kernel
theorem dX6_fix_64 : decode cX6_fix 64 = .ok (.goto 4, 3) := by decide +kernel
theorem dX6_fix_67 : decode cX6_fix 67 = .ok (.iconst 0, 1) := by decide +kernel
theorem dX6_fix_68 : decode cX6_fix 68 = .ok (.ireturn, 1) := by decide +kernel
set_option maxRecDepth 20000 in
theorem ggX6_clear_X2_save : GoodIn wsX6_clear wsX2_save := goodIn_r _ [8, 9, 10, 11, 12, 13, 14, 15, 16, 17, 18, 19, 20, 21, 22, 23, 24, 25, 26, 27, 28, 59, 60, 61, 51, 52, 53, 54, 55, 56, 57, 58] (by decide +kernel) (by decide +kernel)
set_option maxRecDepth 20000 in
theorem gX6_clear_X2_save : GoodIn wsX6_clear (wsV RX6 62 RX2 yX2_save wsX2_save) := goodIn_app (goodIn_of _ (by decide +kernel)) ggX6_clear_X2_save
set_option maxRecDepth 20000 in
theorem ggX6_clear_X0_removeAllBut : GoodIn wsX6_clear wsX0_removeAllBut := goodIn_r _ [32, 33, 34, 35, 15, 36, 17, 18, 37, 38, 39, 40, 22, 41, 42, 43, 44, 27, 51, 52, 53, 54, 55, 56, 57, 58] (by decide +kernel) (by decide +kernel)
set_option maxRecDepth 20000 in
theorem gX6_clear_X0_removeAllBut : GoodIn wsX6_clear (wsV RX6 150 RX0 yX0_removeAllBut wsX0_removeAllBut) := goodIn_app (goodIn_of _ (by decide +kernel)) ggX6_clear_X0_removeAllBut
theorem dX6_clear_0 : decode cX6_clear 0 = .ok (.aload_n 0, 1) := by decide +kernel
theorem dX6_clear_1 : decode cX6_clear 1 = .ok (.getfield 19, 3) := by decide +kernel
theorem dX6_clear_4 : decode cX6_clear 4 = .ok (.aload_n 0, 1) := by decide +kernel
theorem dX6_clear_5 : decode cX6_clear 5 = .ok (.getfield 12, 3) := by decide +kernel
theorem dX6_clear_8 : decode cX6_clear 8 = .ok (.invokevirtual 62, 3) := by decide +kernel
theorem dX6_clear_11 : decode cX6_clear 11 = .ok (.aload_n 0, 1) := by decide +kernel
theorem dX6_clear_12 : decode cX6_clear 12 = .ok (.getfield 12, 3) := by decide +kernel
theorem dX6_clear_15 : decode cX6_clear 15 = .ok (.aload_n 0, 1) := by decide +kernel
theorem dX6_clear_16 : decode cX6_clear 16 = .ok (.getfield 12, 3) := by decide +kernel
theorem dX6_clear_19 : decode cX6_clear 19 = .ok (.getfield 147, 3) := by decide +kernel
theorem dX6_clear_22 : decode cX6_clear 22 = .ok (.invokevirtual 150, 3) := by decide +kernel
theorem dX6_clear_25 : decode cX6_clear 25 = .ok (.ireturn, 1) := by decide +kernel
set_option maxRecDepth 20000 in
theorem ggX6_turnOver_X2_save : GoodIn wsX6_turnOver wsX2_save := goodIn_r _ [7, 8, 9, 10, 11, 12, 13, 14, 15, 16, 17, 18, 19, 20, 21, 22, 23, 24, 25, 26, 27, 58, 59, 60, 61, 62, 63, 64, 65, 66, 67, 68] (by decide +kernel) (by decide +kernel)
set_option maxRecDepth 20000 in
theorem gX6_turnOver_X2_save : GoodIn wsX6_turnOver (wsV RX6 62 RX2 yX2_save wsX2_save) := goodIn_app (goodIn_of _ (by decide +kernel)) ggX6_turnOver_X2_save
set_option maxRecDepth 20000 in
theorem ggX6_turnOver_X0_mirror : GoodIn wsX6_turnOver wsX0_mirror := goodIn_r _ [31, 20, 16, 17, 26, 21, 32, 33, 34, 14, 35, 36, 37, 38, 39, 40, 41, 42, 43, 44, 45, 46, 61, 62, 63, 64, 65, 66, 67, 68] (by decide +kernel) (by decide +kernel)
set_option maxRecDepth 20000 in
theorem gX6_turnOver_X0_mirror : GoodIn wsX6_turnOver (wsV RX6 154 RX0 yX0_mirror wsX0_mirror) := goodIn_app (goodIn_of _ (by decide +kernel)) ggX6_turnOver_X0_mirror
set_option maxRecDepth 20000 in
theorem ggX6_turnOver_X0_cells : GoodIn wsX6_turnOver wsX0_cells := goodIn_r _ [42, 16, 17, 61, 62, 63, 64, 65, 66, 67, 68] (by decide +kernel) (by decide +kernel)
set_option maxRecDepth 20000 in
theorem gX6_turnOver_X0_cells : GoodIn wsX6_turnOver (wsV RX6 66 RX0 yX0_cells wsX0_cells) := goodIn_app (goodIn_of _ (by decide +kernel)) ggX6_turnOver_X0_cells
set_option maxRecDepth 20000 in
theorem ggX6_turnOver_X0_emptyCells : GoodIn wsX6_turnOver wsX0_emptyCells := goodIn_r _ [51, 39, 40, 41, 14, 42, 16, 17, 43, 44, 45, 46, 21, 61, 62, 63, 64, 65, 66, 67, 68] (by decide +kernel) (by decide +kernel)
set_option maxRecDepth 20000 in
theorem gX6_turnOver_X0_emptyCells : GoodIn wsX6_turnOver (wsV RX6 123 RX0 yX0_emptyCells wsX0_emptyCells) := goodIn_app (goodIn_of _ (by decide +kernel)) ggX6_turnOver_X0_emptyCells
theorem dX6_turnOver_0 : decode cX6_turnOver 0 = .ok (.aload_n 0, 1) := by decide +kernel
theorem dX6_turnOver_1 : decode cX6_turnOver 1 = .ok (.getfield 19, 3) := by decide +kernel
theorem dX6_turnOver_4 : decode cX6_turnOver 4 = .ok (.aload_n 0, 1) := by decide +kernel
theorem dX6_turnOver_5 : decode cX6_turnOver 5 = .ok (.getfield 12, 3) := by decide +kernel
theorem dX6_turnOver_8 : decode cX6_turnOver 8 = .ok (.invokevirtual 62, 3) := by decide +kernel
theorem dX6_turnOver_11 : decode cX6_turnOver 11 = .ok (.aload_n 0, 1) := by decide +kernel
theorem dX6_turnOver_12 : decode cX6_turnOver 12 = .ok (.getfield 12, 3) := by decide +kernel
theorem dX6_turnOver_15 : decode cX6_turnOver 15 = .ok (.invokevirtual 154, 3) := by decide +kernel
theorem dX6_turnOver_18 : decode cX6_turnOver 18 = .ok (.aload_n 0, 1) := by decide +kernel
theorem dX6_turnOver_19 : decode cX6_turnOver 19 = .ok (.getfield 12, 3) := by decide +kernel
theorem dX6_turnOver_22 : decode cX6_turnOver 22 = .ok (.invokevirtual 66, 3) := by decide +kernel
theorem dX6_turnOver_25 : decode cX6_turnOver 25 = .ok (.aload_n 0, 1) := by decide +kernel
theorem dX6_turnOver_26 : decode cX6_turnOver 26 = .ok (.getfield 12, 3) := by decide +kernel
theorem dX6_turnOver_29 : decode cX6_turnOver 29 = .ok (.invokevirtual 123, 3) := by decide +kernel
theorem dX6_turnOver_32 : decode cX6_turnOver 32 = .ok (.isub, 1) := by decide +kernel
theorem dX6_turnOver_33 : decode cX6_turnOver 33 = .ok (.ireturn, 1) := by decide +kernel
set_option maxRecDepth 20000 in
theorem ggX6_solve_X4_run : GoodIn wsX6_solve wsX4_run := goodIn_r _ [12, 13, 14, 15, 16, 17, 18, 19, 20, 21, 22, 23, 24, 25, 26, 27, 28, 29, 30, 31, 32, 33, 11, 34, 35, 36, 37, 38, 39, 40, 41, 42, 43, 44, 45, 46, 47, 48, 49, 50, 51, 52, 53, 54, 55, 56, 57, 58, 59, 60, 61, 62, 63, 64, 65, 66, 67, 68, 69, 70, 71, 72, 73, 74, 75, 76, 77, 78, 79, 80, 81, 82, 83, 84, 85, 86, 87, 88, 89, 90, 91, 92, 93, 94, 95, 96, 97, 98, 99, 100, 101, 102, 103, 104, 105, 106, 107, 108, 109, 110, 132, 133, 134, 135, 136, 137, 138, 139, 140, 141, 142, 143, 144, 145, 146, 147, 148, 149, 150] (by decide +kernel) (by decide +kernel)
set_option maxRecDepth 20000 in
theorem gX6_solve_X4_run : GoodIn wsX6_solve (wsV RX6 157 RX4 yX4_run wsX4_run) := goodIn_app (goodIn_of _ (by decide +kernel)) ggX6_solve_X4_run
set_option maxRecDepth 20000 in
theorem ggX6_solve_X2_save : GoodIn wsX6_solve wsX2_save := goodIn_r _ [115, 116, 117, 118, 119, 15, 16, 17, 18, 19, 20, 21, 22, 23, 24, 25, 26, 27, 28, 29, 30, 151, 152, 153, 139, 140, 141, 142, 143, 144, 145, 146] (by decide +kernel) (by decide +kernel)
set_option maxRecDepth 20000 in
theorem gX6_solve_X2_save : GoodIn wsX6_solve (wsV RX6 62 RX2 yX2_save wsX2_save) := goodIn_app (goodIn_of _ (by decide +kernel)) ggX6_solve_X2_save
set_option maxRecDepth 20000 in
theorem ggX6_solve_X0_emptyCells : GoodIn wsX6_solve wsX0_emptyCells := goodIn_r _ [123, 73, 48, 49, 17, 50, 19, 20, 124, 52, 53, 54, 24, 139, 140, 141, 142, 143, 144, 145, 146] (by decide +kernel) (by decide +kernel)
set_option maxRecDepth 20000 in
theorem gX6_solve_X0_emptyCells : GoodIn wsX6_solve (wsV RX6 123 RX0 yX0_emptyCells wsX0_emptyCells) := goodIn_app (goodIn_of _ (by decide +kernel)) ggX6_solve_X0_emptyCells
set_option maxRecDepth 20000 in
theorem ggX6_solve_X0_copyFrom : GoodIn wsX6_solve wsX0_copyFrom := goodIn_r _ [18, 19, 20, 21, 22, 23, 24, 25, 26, 27, 28, 29, 30, 139, 140, 141, 142, 143, 144, 145, 146] (by decide +kernel) (by decide +kernel)
set_option maxRecDepth 20000 in
theorem gX6_solve_X0_copyFrom : GoodIn wsX6_solve (wsV RX6 169 RX0 yX0_copyFrom wsX0_copyFrom) := goodIn_app (goodIn_of _ (by decide +kernel)) ggX6_solve_X0_copyFrom
theorem dX6_solve_0 : decode cX6_solve 0 = .ok (.aload_n 0, 1) := by decide +kernel
theorem dX6_solve_1 : decode cX6_solve 1 = .ok (.getfield 40, 3) := by decide +kernel
theorem dX6_solve_4 : decode cX6_solve 4 = .ok (.aload_n 0, 1) := by decide +kernel
theorem dX6_solve_5 : decode cX6_solve 5 = .ok (.getfield 12, 3) := by decide +kernel
theorem dX6_solve_8 : decode cX6_solve 8 = .ok (.iconst 1, 1) := by decide +kernel
theorem dX6_solve_9 : decode cX6_solve 9 = .ok (.invokevirtual 157, 3) := by decide +kernel
theorem dX6_solve_12 : decode cX6_solve 12 = .ok (.aload_n 0, 1) := by decide +kernel
theorem dX6_solve_13 : decode cX6_solve 13 = .ok (.getfield 40, 3) := by decide +kernel
theorem dX6_solve_16 : decode cX6_solve 16 = .ok (.getfield 161, 3) := by decide +kernel
theorem dX6_solve_19 : decode cX6_solve 19 = .ok (.iconst 1, 1) := by decide +kernel
theorem dX6_solve_20 : decode cX6_solve 20 = .ok (.if_icmp .ge 13, 3) := by decide +kernel
theorem dX6_solve_23 : decode cX6_solve 23 = .ok (.new 76, 3) := by decide +kernel
theorem dX6_solve_26 : decode cX6_solve 26 = .ok (.dup, 1) := by decide +kernel
theorem dX6_solve_27 : decode cX6_solve 27 = .ok (.ldc 164, 2) := by decide +kernel
theorem dX6_solve_29 : decode cX6_solve 29 = .ok (.invokespecial 80, 3) := by decide +kernel
theorem dX6_solve_32 : decode cX6_solve 32 = .ok (.athrow, 1) := by decide +kernel
theorem dX6_solve_33 : decode cX6_solve 33 = .ok (.aload_n 0, 1) := by decide +kernel
theorem dX6_solve_34 : decode cX6_solve 34 = .ok (.getfield 19, 3) := by decide +kernel
theorem dX6_solve_37 : decode cX6_solve 37 = .ok (.aload_n 0, 1) := by decide +kernel
theorem dX6_solve_38 : decode cX6_solve 38 = .ok (.getfield 12, 3) := by decide +kernel
theorem dX6_solve_41 : decode cX6_solve 41 = .ok (.invokevirtual 62, 3) := by decide +kernel
theorem dX6_solve_44 : decode cX6_solve 44 = .ok (.aload_n 0, 1) := by decide +kernel
theorem dX6_solve_45 : decode cX6_solve 45 = .ok (.getfield 12, 3) := by decide +kernel
theorem dX6_solve_48 : decode cX6_solve 48 = .ok (.invokevirtual 123, 3) := by decide +kernel
theorem dX6_solve_51 : decode cX6_solve 51 = .ok (.istore_n 1, 1) := by decide +kernel
theorem dX6_solve_52 : decode cX6_solve 52 = .ok (.aload_n 0, 1) := by decide +kernel
theorem dX6_solve_53 : decode cX6_solve 53 = .ok (.getfield 12, 3) := by decide +kernel
theorem dX6_solve_56 : decode cX6_solve 56 = .ok (.aload_n 0, 1) := by decide +kernel
theorem dX6_solve_57 : decode cX6_solve 57 = .ok (.getfield 40, 3) := by decide +kernel
theorem dX6_solve_60 : decode cX6_solve 60 = .ok (.getfield 166, 3) := by decide +kernel
theorem dX6_solve_63 : decode cX6_solve 63 = .ok (.invokevirtual 169, 3) := by decide +kernel
theorem dX6_solve_66 : decode cX6_solve 66 = .ok (.iload_n 1, 1) := by decide +kernel
theorem dX6_solve_67 : decode cX6_solve 67 = .ok (.ireturn, 1) := by decide +kernel
theorem dX6_append_0 : decode cX6_append 0 = .ok (.iload_n 1, 1) := by decide +kernel
theorem dX6_append_1 : decode cX6_append 1 = .ok (.bipush 33, 2) := by decide +kernel
theorem dX6_append_3 : decode cX6_append 3 = .ok (.if_icmp .lt 9, 3) := by decide +kernel
theorem dX6_append_6 : decode cX6_append 6 = .ok (.iload_n 1, 1) := by decide +kernel
theorem dX6_append_7 : decode cX6_append 7 = .ok (.bipush 126, 2) := by decide +kernel
theorem dX6_append_9 : decode cX6_append 9 = .ok (.if_icmp .le 13, 3) := by decide +kernel
theorem dX6_append_12 : decode cX6_append 12 = .ok (.new 55, 3) := by decide +kernel
theorem dX6_append_15 : decode cX6_append 15 = .ok (.dup, 1) := by decide +kernel
theorem dX6_append_16 : decode cX6_append 16 = .ok (.ldc 172, 2) := by decide +kernel
theorem dX6_append_18 : decode cX6_append 18 = .ok (.invokespecial 59, 3) := by decide +kernel
theorem dX6_append_21 : decode cX6_append 21 = .ok (.athrow, 1) := by decide +kernel
theorem dX6_append_22 : decode cX6_append 22 = .ok (.aload_n 0, 1) := by decide +kernel
theorem dX6_append_23 : decode cX6_append 23 = .ok (.getfield 26, 3) := by decide +kernel
theorem dX6_append_26 : decode cX6_append 26 = .ok (.getfield 174, 3) := by decide +kernel
theorem dX6_append_29 : decode cX6_append 29 = .ok (.bipush 60, 2) := by decide +kernel
theorem dX6_append_31 : decode cX6_append 31 = .ok (.if_icmp .lt 13, 3) := by decide +kernel
theorem dX6_append_34 : decode cX6_append 34 = .ok (.new 76, 3) := by decide +kernel
theorem dX6_append_37 : decode cX6_append 37 = .ok (.dup, 1) := by decide +kernel
theorem dX6_append_38 : decode cX6_append 38 = .ok (.ldc 177, 2) := by decide +kernel
theorem dX6_append_40 : decode cX6_append 40 = .ok (.invokespecial 80, 3) := by decide +kernel
theorem dX6_append_43 : decode cX6_append 43 = .ok (.athrow, 1) := by decide +kernel
theorem dX6_append_44 : decode cX6_append 44 = .ok (.aload_n 0, 1) := by decide +kernel
theorem dX6_append_45 : decode cX6_append 45 = .ok (.getfield 26, 3) := by decide +kernel
theorem dX6_append_48 : decode cX6_append 48 = .ok (.getfield 179, 3) := by decide +kernel
theorem dX6_append_51 : decode cX6_append 51 = .ok (.aload_n 0, 1) := by decide +kernel
theorem dX6_append_52 : decode cX6_append 52 = .ok (.getfield 26, 3) := by decide +kernel
theorem dX6_append_55 : decode cX6_append 55 = .ok (.getfield 174, 3) := by decide +kernel
theorem dX6_append_58 : decode cX6_append 58 = .ok (.iload_n 1, 1) := by decide +kernel
theorem dX6_append_59 : decode cX6_append 59 = .ok (.iastore, 1) := by decide +kernel
theorem dX6_append_60 : decode cX6_append 60 = .ok (.aload_n 0, 1) := by decide +kernel
theorem dX6_append_61 : decode cX6_append 61 = .ok (.getfield 26, 3) := by decide +kernel
theorem dX6_append_64 : decode cX6_append 64 = .ok (.dup, 1) := by decide +kernel
theorem dX6_append_65 : decode cX6_append 65 = .ok (.getfield 174, 3) := by decide +kernel
theorem dX6_append_68 : decode cX6_append 68 = .ok (.iconst 1, 1) := by decide +kernel
theorem dX6_append_69 : decode cX6_append 69 = .ok (.iadd, 1) := by decide +kernel
theorem dX6_append_70 : decode cX6_append 70 = .ok (.putfield 174, 3) := by decide +kernel
theorem dX6_append_73 : decode cX6_append 73 = .ok (.aload_n 0, 1) := by decide +kernel
theorem dX6_append_74 : decode cX6_append 74 = .ok (.getfield 26, 3) := by decide +kernel
theorem dX6_append_77 : decode cX6_append 77 = .ok (.getfield 174, 3) := by decide +kernel
theorem dX6_append_80 : decode cX6_append 80 = .ok (.ireturn, 1) := by decide +kernel
theorem dX6_clearBuffer_0 : decode cX6_clearBuffer 0 = .ok (.aload_n 0, 1) := by decide +kernel
theorem dX6_clearBuffer_1 : decode cX6_clearBuffer 1 = .ok (.getfield 26, 3) := by decide +kernel
theorem dX6_clearBuffer_4 : decode cX6_clearBuffer 4 = .ok (.getfield 174, 3) := by decide +kernel
theorem dX6_clearBuffer_7 : decode cX6_clearBuffer 7 = .ok (.istore_n 1, 1) := by decide +kernel
theorem dX6_clearBuffer_8 : decode cX6_clearBuffer 8 = .ok (.aload_n 0, 1) := by decide +kernel
theorem dX6_clearBuffer_9 : decode cX6_clearBuffer 9 = .ok (.getfield 26, 3) := by decide +kernel
theorem dX6_clearBuffer_12 : decode cX6_clearBuffer 12 = .ok (.iconst 0, 1) := by decide +kernel
theorem dX6_clearBuffer_13 : decode cX6_clearBuffer 13 = .ok (.putfield 174, 3) := by decide +kernel
theorem dX6_clearBuffer_16 : decode cX6_clearBuffer 16 = .ok (.iload_n 1, 1) := by decide +kernel
theorem dX6_clearBuffer_17 : decode cX6_clearBuffer 17 = .ok (.ireturn, 1) := by decide +kernel
set_option maxRecDepth 20000 in
theorem ggX6_firstError_X5_firstWrong : GoodIn wsX6_firstError wsX5_firstWrong := goodIn_r _ [6, 7, 8, 9, 10, 5, 11, 12, 19, 20] (by decide +kernel) (by decide +kernel)
set_option maxRecDepth 20000 in
theorem gX6_firstError_X5_firstWrong : GoodIn wsX6_firstError (wsV RX6 182 RX5 yX5_firstWrong wsX5_firstWrong) := goodIn_app (goodIn_of _ (by decide +kernel)) ggX6_firstError_X5_firstWrong
theorem dX6_firstError_0 : decode cX6_firstError 0 = .ok (.aload_n 0, 1) := by decide +kernel
theorem dX6_firstError_1 : decode cX6_firstError 1 = .ok (.getfield 26, 3) := by decide +kernel
theorem dX6_firstError_4 : decode cX6_firstError 4 = .ok (.invokevirtual 182, 3) := by decide +kernel
theorem dX6_firstError_7 : decode cX6_firstError 7 = .ok (.ireturn, 1) := by decide +kernel
set_option maxRecDepth 20000 in
theorem ggX6_load_X5_isComplete : GoodIn wsX6_load wsX5_isComplete := goodIn_r _ [14, 15, 16, 17, 18, 13, 19, 20, 21, 22, 23, 24, 97, 98] (by decide +kernel) (by decide +kernel)
set_option maxRecDepth 20000 in
theorem gX6_load_X5_isComplete : GoodIn wsX6_load (wsV RX6 185 RX5 yX5_isComplete wsX5_isComplete) := goodIn_app (goodIn_of _ (by decide +kernel)) ggX6_load_X5_isComplete
set_option maxRecDepth 20000 in
theorem ggX6_load_X5_tilesTold : GoodIn wsX6_load wsX5_tilesTold := goodIn_r _ [28, 15, 97, 98] (by decide +kernel) (by decide +kernel)
set_option maxRecDepth 20000 in
theorem gX6_load_X5_tilesTold : GoodIn wsX6_load (wsV RX6 191 RX5 yX5_tilesTold wsX5_tilesTold) := goodIn_app (goodIn_of _ (by decide +kernel)) ggX6_load_X5_tilesTold
set_option maxRecDepth 20000 in
theorem ggX6_load_X2_save : GoodIn wsX6_load wsX2_save := goodIn_r _ [33, 34, 35, 36, 37, 38, 39, 40, 41, 42, 43, 44, 45, 46, 47, 48, 49, 50, 51, 52, 53, 99, 100, 101, 89, 90, 91, 92, 93, 94, 95, 96] (by decide +kernel) (by decide +kernel)
set_option maxRecDepth 20000 in
theorem gX6_load_X2_save : GoodIn wsX6_load (wsV RX6 62 RX2 yX2_save wsX2_save) := goodIn_app (goodIn_of _ (by decide +kernel)) ggX6_load_X2_save
set_option maxRecDepth 20000 in
theorem ggX6_load_X5_faceTold : GoodIn wsX6_load wsX5_faceTold := goodIn_r _ [57, 15, 24, 97, 98] (by decide +kernel) (by decide +kernel)
set_option maxRecDepth 20000 in
theorem gX6_load_X5_faceTold : GoodIn wsX6_load (wsV RX6 196 RX5 yX5_faceTold wsX5_faceTold) := goodIn_app (goodIn_of _ (by decide +kernel)) ggX6_load_X5_faceTold
set_option maxRecDepth 20000 in
theorem ggX6_load_X0_addFaces : GoodIn wsX6_load wsX0_addFaces := goodIn_r _ [61, 53, 45, 62, 63, 64, 65, 66, 67, 68, 69, 70, 71, 72, 73, 40, 74, 75, 76, 77, 78, 79, 80, 81, 82, 89, 90, 91, 92, 93, 94, 95, 96] (by decide +kernel) (by decide +kernel)
set_option maxRecDepth 20000 in
theorem gX6_load_X0_addFaces : GoodIn wsX6_load (wsV RX6 81 RX0 yX0_addFaces wsX0_addFaces) := goodIn_app (goodIn_of _ (by decide +kernel)) ggX6_load_X0_addFaces
theorem dX6_load_0 : decode cX6_load 0 = .ok (.aload_n 0, 1) := by decide +kernel
theorem dX6_load_1 : decode cX6_load 1 = .ok (.getfield 26, 3) := by decide +kernel
theorem dX6_load_4 : decode cX6_load 4 = .ok (.invokevirtual 185, 3) := by decide +kernel
theorem dX6_load_7 : decode cX6_load 7 = .ok (.ifCond .ne 13, 3) := by decide +kernel
theorem dX6_load_10 : decode cX6_load 10 = .ok (.new 55, 3) := by decide +kernel
theorem dX6_load_13 : decode cX6_load 13 = .ok (.dup, 1) := by decide +kernel
theorem dX6_load_14 : decode cX6_load 14 = .ok (.ldc 189, 2) := by decide +kernel
theorem dX6_load_16 : decode cX6_load 16 = .ok (.invokespecial 59, 3) := by decide +kernel
theorem dX6_load_19 : decode cX6_load 19 = .ok (.athrow, 1) := by decide +kernel
theorem dX6_load_20 : decode cX6_load 20 = .ok (.aload_n 0, 1) := by decide +kernel
theorem dX6_load_21 : decode cX6_load 21 = .ok (.getfield 12, 3) := by decide +kernel
theorem dX6_load_24 : decode cX6_load 24 = .ok (.getfield 72, 3) := by decide +kernel
theorem dX6_load_27 : decode cX6_load 27 = .ok (.aload_n 0, 1) := by decide +kernel
theorem dX6_load_28 : decode cX6_load 28 = .ok (.getfield 26, 3) := by decide +kernel
theorem dX6_load_31 : decode cX6_load 31 = .ok (.invokevirtual 191, 3) := by decide +kernel
theorem dX6_load_34 : decode cX6_load 34 = .ok (.iadd, 1) := by decide +kernel
theorem dX6_load_35 : decode cX6_load 35 = .ok (.bipush 12, 2) := by decide +kernel
theorem dX6_load_37 : decode cX6_load 37 = .ok (.if_icmp .le 13, 3) := by decide +kernel
theorem dX6_load_40 : decode cX6_load 40 = .ok (.new 76, 3) := by decide +kernel
theorem dX6_load_43 : decode cX6_load 43 = .ok (.dup, 1) := by decide +kernel
theorem dX6_load_44 : decode cX6_load 44 = .ok (.ldc 194, 2) := by decide +kernel
theorem dX6_load_46 : decode cX6_load 46 = .ok (.invokespecial 80, 3) := by decide +kernel
theorem dX6_load_49 : decode cX6_load 49 = .ok (.athrow, 1) := by decide +kernel
theorem dX6_load_50 : decode cX6_load 50 = .ok (.aload_n 0, 1) := by decide +kernel
theorem dX6_load_51 : decode cX6_load 51 = .ok (.getfield 19, 3) := by decide +kernel
theorem dX6_load_54 : decode cX6_load 54 = .ok (.aload_n 0, 1) := by decide +kernel
theorem dX6_load_55 : decode cX6_load 55 = .ok (.getfield 12, 3) := by decide +kernel
theorem dX6_load_58 : decode cX6_load 58 = .ok (.invokevirtual 62, 3) := by decide +kernel
theorem dX6_load_61 : decode cX6_load 61 = .ok (.iconst 0, 1) := by decide +kernel
theorem dX6_load_62 : decode cX6_load 62 = .ok (.istore_n 1, 1) := by decide +kernel
theorem dX6_load_63 : decode cX6_load 63 = .ok (.iload_n 1, 1) := by decide +kernel
theorem dX6_load_64 : decode cX6_load 64 = .ok (.aload_n 0, 1) := by decide +kernel
theorem dX6_load_65 : decode cX6_load 65 = .ok (.getfield 26, 3) := by decide +kernel
theorem dX6_load_68 : decode cX6_load 68 = .ok (.invokevirtual 191, 3) := by decide +kernel
theorem dX6_load_71 : decode cX6_load 71 = .ok (.if_icmp .ge 34, 3) := by decide +kernel
theorem dX6_load_74 : decode cX6_load 74 = .ok (.aload_n 0, 1) := by decide +kernel
theorem dX6_load_75 : decode cX6_load 75 = .ok (.getfield 12, 3) := by decide +kernel
theorem dX6_load_78 : decode cX6_load 78 = .ok (.aload_n 0, 1) := by decide +kernel
theorem dX6_load_79 : decode cX6_load 79 = .ok (.getfield 26, 3) := by decide +kernel
theorem dX6_load_82 : decode cX6_load 82 = .ok (.iload_n 1, 1) := by decide +kernel
theorem dX6_load_83 : decode cX6_load 83 = .ok (.iconst 0, 1) := by decide +kernel
theorem dX6_load_84 : decode cX6_load 84 = .ok (.invokevirtual 196, 3) := by decide +kernel
theorem dX6_load_87 : decode cX6_load 87 = .ok (.aload_n 0, 1) := by decide +kernel
theorem dX6_load_88 : decode cX6_load 88 = .ok (.getfield 26, 3) := by decide +kernel
theorem dX6_load_91 : decode cX6_load 91 = .ok (.iload_n 1, 1) := by decide +kernel
theorem dX6_load_92 : decode cX6_load 92 = .ok (.iconst 1, 1) := by decide +kernel
theorem dX6_load_93 : decode cX6_load 93 = .ok (.invokevirtual 196, 3) := by decide +kernel
theorem dX6_load_96 : decode cX6_load 96 = .ok (.invokevirtual 81, 3) := by decide +kernel
theorem dX6_load_99 : decode cX6_load 99 = .ok (.iinc 1 1, 3) := by decide +kernel
theorem dX6_load_102 : decode cX6_load 102 = .ok (.goto (-39), 3) := by decide +kernel
theorem dX6_load_105 : decode cX6_load 105 = .ok (.aload_n 0, 1) := by decide +kernel
theorem dX6_load_106 : decode cX6_load 106 = .ok (.getfield 26, 3) := by decide +kernel
theorem dX6_load_109 : decode cX6_load 109 = .ok (.iconst 0, 1) := by decide +kernel
theorem dX6_load_110 : decode cX6_load 110 = .ok (.putfield 174, 3) := by decide +kernel
theorem dX6_load_113 : decode cX6_load 113 = .ok (.aload_n 0, 1) := by decide +kernel
theorem dX6_load_114 : decode cX6_load 114 = .ok (.getfield 12, 3) := by decide +kernel
theorem dX6_load_117 : decode cX6_load 117 = .ok (.getfield 72, 3) := by decide +kernel
theorem dX6_load_120 : decode cX6_load 120 = .ok (.ireturn, 1) := by decide +kernel
set_option maxRecDepth 20000 in
theorem ggX6_undo_X2_restore : GoodIn wsX6_undo wsX2_restore := goodIn_r _ [10, 11, 12, 13, 14, 15, 16, 17, 18, 19, 20, 21, 22, 23, 24, 25, 26, 27, 28, 29, 30, 37, 38, 39, 40, 41, 42, 43, 44, 45, 46, 47] (by decide +kernel) (by decide +kernel)
set_option maxRecDepth 20000 in
theorem gX6_undo_X2_restore : GoodIn wsX6_undo (wsV RX6 204 RX2 yX2_restore wsX2_restore) := goodIn_app (goodIn_of _ (by decide +kernel)) ggX6_undo_X2_restore
theorem dX6_undo_0 : decode cX6_undo 0 = .ok (.aload_n 0, 1) := by decide +kernel
theorem dX6_undo_1 : decode cX6_undo 1 = .ok (.getfield 19, 3) := by decide +kernel
theorem dX6_undo_4 : decode cX6_undo 4 = .ok (.getfield 199, 3) := by decide +kernel
theorem dX6_undo_7 : decode cX6_undo 7 = .ok (.iconst 1, 1) := by decide +kernel
theorem dX6_undo_8 : decode cX6_undo 8 = .ok (.if_icmp .ge 13, 3) := by decide +kernel
theorem dX6_undo_11 : decode cX6_undo 11 = .ok (.new 76, 3) := by decide +kernel
theorem dX6_undo_14 : decode cX6_undo 14 = .ok (.dup, 1) := by decide +kernel
theorem dX6_undo_15 : decode cX6_undo 15 = .ok (.ldc 202, 2) := by decide +kernel
theorem dX6_undo_17 : decode cX6_undo 17 = .ok (.invokespecial 80, 3) := by decide +kernel
theorem dX6_undo_20 : decode cX6_undo 20 = .ok (.athrow, 1) := by decide +kernel
theorem dX6_undo_21 : decode cX6_undo 21 = .ok (.aload_n 0, 1) := by decide +kernel
theorem dX6_undo_22 : decode cX6_undo 22 = .ok (.getfield 19, 3) := by decide +kernel
theorem dX6_undo_25 : decode cX6_undo 25 = .ok (.aload_n 0, 1) := by decide +kernel
theorem dX6_undo_26 : decode cX6_undo 26 = .ok (.getfield 12, 3) := by decide +kernel
theorem dX6_undo_29 : decode cX6_undo 29 = .ok (.invokevirtual 204, 3) := by decide +kernel
theorem dX6_undo_32 : decode cX6_undo 32 = .ok (.aload_n 0, 1) := by decide +kernel
theorem dX6_undo_33 : decode cX6_undo 33 = .ok (.getfield 19, 3) := by decide +kernel
theorem dX6_undo_36 : decode cX6_undo 36 = .ok (.getfield 199, 3) := by decide +kernel
theorem dX6_undo_39 : decode cX6_undo 39 = .ok (.ireturn, 1) := by decide +kernel
set_option maxRecDepth 20000 in
theorem ggX6_cell_X6_requireCell : GoodIn wsX6_cell wsX6_requireCell := goodIn_ca (goodIn_r _ [7, 8, 9, 10, 11, 12, 13, 14, 15, 16, 17, 18, 19, 20, 21, 96, 97, 98, 99, 100, 101, 102, 103, 104, 105, 106, 107, 108, 109] (by decide +kernel) (by decide +kernel)) (goodIn_sub (fun _ h => List.mem_cons_of_mem _ (List.mem_append_right _ h)) (by decide +kernel))
set_option maxRecDepth 20000 in
theorem gX6_cell_X6_requireCell : GoodIn wsX6_cell (wsV RX6 126 RX6 yX6_requireCell wsX6_requireCell) := goodIn_app (goodIn_of _ (by decide +kernel)) ggX6_cell_X6_requireCell
set_option maxRecDepth 20000 in
theorem ggX6_cell_X6_cellProperty : GoodIn wsX6_cell wsX6_cellProperty := goodIn_r _ [25, 10, 26, 27, 28, 29, 14, 30, 31, 32, 33, 34, 6, 35, 36, 37, 38, 39, 40, 41, 42, 43, 44, 45, 46, 47, 48, 49, 50, 51, 52, 53, 54, 55, 56, 57, 58, 59, 60, 21, 16, 17, 18, 19, 20, 61, 62, 63, 64, 65, 66, 67, 68, 69, 70, 71, 72, 73, 74, 75, 76, 77, 78, 79, 80, 81, 82, 83, 84, 85, 86, 87, 88, 89, 90, 91, 92, 93, 94, 95, 96, 97, 98, 99, 100, 101, 102, 103, 104, 105, 106, 107, 108, 109, 110, 111, 112, 113] (by decide +kernel) (by decide +kernel)
set_option maxRecDepth 20000 in
theorem gX6_cell_X6_cellProperty : GoodIn wsX6_cell (wsV RX6 209 RX6 yX6_cellProperty wsX6_cellProperty) := goodIn_app (goodIn_of _ (by decide +kernel)) ggX6_cell_X6_cellProperty
theorem dX6_cell_0 : decode cX6_cell 0 = .ok (.aload_n 0, 1) := by decide +kernel
theorem dX6_cell_1 : decode cX6_cell 1 = .ok (.iload_n 1, 1) := by decide +kernel
theorem dX6_cell_2 : decode cX6_cell 2 = .ok (.invokevirtual 126, 3) := by decide +kernel
theorem dX6_cell_5 : decode cX6_cell 5 = .ok (.iload_n 2, 1) := by decide +kernel
theorem dX6_cell_6 : decode cX6_cell 6 = .ok (.ifCond .lt 8, 3) := by decide +kernel
theorem dX6_cell_9 : decode cX6_cell 9 = .ok (.iload_n 2, 1) := by decide +kernel
theorem dX6_cell_10 : decode cX6_cell 10 = .ok (.iconst 4, 1) := by decide +kernel
theorem dX6_cell_11 : decode cX6_cell 11 = .ok (.if_icmp .lt 13, 3) := by decide +kernel
theorem dX6_cell_14 : decode cX6_cell 14 = .ok (.new 55, 3) := by decide +kernel
theorem dX6_cell_17 : decode cX6_cell 17 = .ok (.dup, 1) := by decide +kernel
theorem dX6_cell_18 : decode cX6_cell 18 = .ok (.ldc 207, 2) := by decide +kernel
theorem dX6_cell_20 : decode cX6_cell 20 = .ok (.invokespecial 59, 3) := by decide +kernel
theorem dX6_cell_23 : decode cX6_cell 23 = .ok (.athrow, 1) := by decide +kernel
theorem dX6_cell_24 : decode cX6_cell 24 = .ok (.aload_n 0, 1) := by decide +kernel
theorem dX6_cell_25 : decode cX6_cell 25 = .ok (.iload_n 1, 1) := by decide +kernel
theorem dX6_cell_26 : decode cX6_cell 26 = .ok (.iload_n 2, 1) := by decide +kernel
theorem dX6_cell_27 : decode cX6_cell 27 = .ok (.invokevirtual 209, 3) := by decide +kernel
theorem dX6_cell_30 : decode cX6_cell 30 = .ok (.ireturn, 1) := by decide +kernel
set_option maxRecDepth 20000 in
theorem ggX6_color_X6_requireCell : GoodIn wsX6_color wsX6_requireCell := goodIn_ca (goodIn_r _ [7, 1, 2, 8, 9, 10, 11, 12, 13, 14, 15, 16, 17, 18, 19, 38, 39, 40, 41, 42, 43, 44, 45, 46, 47, 48, 49, 50, 51] (by decide +kernel) (by decide +kernel)) (goodIn_sub (fun _ h => List.mem_cons_of_mem _ (List.mem_append_right _ h)) (by decide +kernel))
set_option maxRecDepth 20000 in
theorem gX6_color_X6_requireCell : GoodIn wsX6_color (wsV RX6 126 RX6 yX6_requireCell wsX6_requireCell) := goodIn_app (goodIn_of _ (by decide +kernel)) ggX6_color_X6_requireCell
set_option maxRecDepth 20000 in
theorem ggX6_color_X6_colorAt : GoodIn wsX6_color wsX6_colorAt := goodIn_r _ [23, 8, 24, 25, 26, 12, 27, 28, 29, 30, 31, 32, 33, 34, 35, 6, 36, 37, 38, 39, 40, 41, 42, 43, 44, 45, 46, 47, 48, 49, 50, 51] (by decide +kernel) (by decide +kernel)
set_option maxRecDepth 20000 in
theorem gX6_color_X6_colorAt : GoodIn wsX6_color (wsV RX6 217 RX6 yX6_colorAt wsX6_colorAt) := goodIn_app (goodIn_of _ (by decide +kernel)) ggX6_color_X6_colorAt
theorem dX6_color_0 : decode cX6_color 0 = .ok (.aload_n 0, 1) := by decide +kernel
theorem dX6_color_1 : decode cX6_color 1 = .ok (.iload_n 1, 1) := by decide +kernel
theorem dX6_color_2 : decode cX6_color 2 = .ok (.invokevirtual 126, 3) := by decide +kernel
theorem dX6_color_5 : decode cX6_color 5 = .ok (.iload_n 2, 1) := by decide +kernel
theorem dX6_color_6 : decode cX6_color 6 = .ok (.ifCond .lt 8, 3) := by decide +kernel
theorem dX6_color_9 : decode cX6_color 9 = .ok (.iload_n 2, 1) := by decide +kernel
theorem dX6_color_10 : decode cX6_color 10 = .ok (.iconst 4, 1) := by decide +kernel
theorem dX6_color_11 : decode cX6_color 11 = .ok (.if_icmp .lt 13, 3) := by decide +kernel
theorem dX6_color_14 : decode cX6_color 14 = .ok (.new 212, 3) := by decide +kernel
theorem dX6_color_17 : decode cX6_color 17 = .ok (.dup, 1) := by decide +kernel
theorem dX6_color_18 : decode cX6_color 18 = .ok (.ldc 214, 2) := by decide +kernel
theorem dX6_color_20 : decode cX6_color 20 = .ok (.invokespecial 216, 3) := by decide +kernel
theorem dX6_color_23 : decode cX6_color 23 = .ok (.athrow, 1) := by decide +kernel
theorem dX6_color_24 : decode cX6_color 24 = .ok (.aload_n 0, 1) := by decide +kernel
theorem dX6_color_25 : decode cX6_color 25 = .ok (.iload_n 1, 1) := by decide +kernel
theorem dX6_color_26 : decode cX6_color 26 = .ok (.iload_n 2, 1) := by decide +kernel
theorem dX6_color_27 : decode cX6_color 27 = .ok (.iload_n 3, 1) := by decide +kernel
theorem dX6_color_28 : decode cX6_color 28 = .ok (.invokevirtual 217, 3) := by decide +kernel
theorem dX6_color_31 : decode cX6_color 31 = .ok (.ireturn, 1) := by decide +kernel
set_option maxRecDepth 20000 in
theorem ggX6_tile_X6_tileProperty : GoodIn wsX6_tile wsX6_tileProperty := goodIn_r _ [11, 5, 12, 13, 14, 15, 16, 17, 18, 19, 10, 20, 21, 22, 23, 24, 25, 26, 27, 28, 29, 30, 31, 32, 33, 34, 35, 36, 37, 38, 39] (by decide +kernel) (by decide +kernel)
set_option maxRecDepth 20000 in
theorem gX6_tile_X6_tileProperty : GoodIn wsX6_tile (wsV RX6 223 RX6 yX6_tileProperty wsX6_tileProperty) := goodIn_app (goodIn_of _ (by decide +kernel)) ggX6_tile_X6_tileProperty
theorem dX6_tile_0 : decode cX6_tile 0 = .ok (.iload_n 1, 1) := by decide +kernel
theorem dX6_tile_1 : decode cX6_tile 1 = .ok (.ifCond .lt 14, 3) := by decide +kernel
theorem dX6_tile_4 : decode cX6_tile 4 = .ok (.iload_n 1, 1) := by decide +kernel
theorem dX6_tile_5 : decode cX6_tile 5 = .ok (.aload_n 0, 1) := by decide +kernel
theorem dX6_tile_6 : decode cX6_tile 6 = .ok (.getfield 12, 3) := by decide +kernel
theorem dX6_tile_9 : decode cX6_tile 9 = .ok (.getfield 72, 3) := by decide +kernel
theorem dX6_tile_12 : decode cX6_tile 12 = .ok (.if_icmp .lt 13, 3) := by decide +kernel
theorem dX6_tile_15 : decode cX6_tile 15 = .ok (.new 212, 3) := by decide +kernel
theorem dX6_tile_18 : decode cX6_tile 18 = .ok (.dup, 1) := by decide +kernel
theorem dX6_tile_19 : decode cX6_tile 19 = .ok (.ldc 221, 2) := by decide +kernel
theorem dX6_tile_21 : decode cX6_tile 21 = .ok (.invokespecial 216, 3) := by decide +kernel
theorem dX6_tile_24 : decode cX6_tile 24 = .ok (.athrow, 1) := by decide +kernel
theorem dX6_tile_25 : decode cX6_tile 25 = .ok (.iload_n 2, 1) := by decide +kernel
theorem dX6_tile_26 : decode cX6_tile 26 = .ok (.ifCond .lt 8, 3) := by decide +kernel
theorem dX6_tile_29 : decode cX6_tile 29 = .ok (.iload_n 2, 1) := by decide +kernel
theorem dX6_tile_30 : decode cX6_tile 30 = .ok (.iconst 4, 1) := by decide +kernel
theorem dX6_tile_31 : decode cX6_tile 31 = .ok (.if_icmp .lt 13, 3) := by decide +kernel
theorem dX6_tile_34 : decode cX6_tile 34 = .ok (.new 55, 3) := by decide +kernel
theorem dX6_tile_37 : decode cX6_tile 37 = .ok (.dup, 1) := by decide +kernel
theorem dX6_tile_38 : decode cX6_tile 38 = .ok (.ldc 207, 2) := by decide +kernel
theorem dX6_tile_40 : decode cX6_tile 40 = .ok (.invokespecial 59, 3) := by decide +kernel
theorem dX6_tile_43 : decode cX6_tile 43 = .ok (.athrow, 1) := by decide +kernel
theorem dX6_tile_44 : decode cX6_tile 44 = .ok (.aload_n 0, 1) := by decide +kernel
theorem dX6_tile_45 : decode cX6_tile 45 = .ok (.iload_n 1, 1) := by decide +kernel
theorem dX6_tile_46 : decode cX6_tile 46 = .ok (.iload_n 2, 1) := by decide +kernel
theorem dX6_tile_47 : decode cX6_tile 47 = .ok (.invokevirtual 223, 3) := by decide +kernel
theorem dX6_tile_50 : decode cX6_tile 50 = .ok (.ireturn, 1) := by decide +kernel
set_option maxRecDepth 20000 in
theorem ggX6_count_X6_number : GoodIn wsX6_count wsX6_number := goodIn_r _ [7, 8, 9, 10, 11, 12, 13, 14, 15, 16, 17, 18, 19, 20, 21, 22, 23, 24, 25, 26, 27, 28, 29, 30, 31, 32, 33, 34, 35, 36, 37, 38, 39, 40, 41, 42, 43, 44, 45, 46, 47, 48, 49, 50, 51, 52, 53, 54, 55, 56, 57, 6, 58, 59, 60, 61, 62, 63, 64, 65, 66, 67, 68, 69, 70, 71, 72, 73, 74, 75, 76, 77, 78, 79, 80, 81, 82, 83, 84, 85, 86, 87, 88, 89, 90, 91, 92, 93, 94, 95, 96, 97, 98, 99, 100, 101, 102, 103, 104, 105, 106, 107, 108, 109, 110, 111, 112, 113, 114, 115, 116, 117] (by decide +kernel) (by decide +kernel)
set_option maxRecDepth 20000 in
theorem gX6_count_X6_number : GoodIn wsX6_count (wsV RX6 228 RX6 yX6_number wsX6_number) := goodIn_app (goodIn_of _ (by decide +kernel)) ggX6_count_X6_number
theorem dX6_count_0 : decode cX6_count 0 = .ok (.iload_n 1, 1) := by decide +kernel
theorem dX6_count_1 : decode cX6_count 1 = .ok (.ifCond .lt 9, 3) := by decide +kernel
theorem dX6_count_4 : decode cX6_count 4 = .ok (.iload_n 1, 1) := by decide +kernel
theorem dX6_count_5 : decode cX6_count 5 = .ok (.bipush 10, 2) := by decide +kernel
theorem dX6_count_7 : decode cX6_count 7 = .ok (.if_icmp .lt 13, 3) := by decide +kernel
theorem dX6_count_10 : decode cX6_count 10 = .ok (.new 55, 3) := by decide +kernel
theorem dX6_count_13 : decode cX6_count 13 = .ok (.dup, 1) := by decide +kernel
theorem dX6_count_14 : decode cX6_count 14 = .ok (.ldc 226, 2) := by decide +kernel
theorem dX6_count_16 : decode cX6_count 16 = .ok (.invokespecial 59, 3) := by decide +kernel
theorem dX6_count_19 : decode cX6_count 19 = .ok (.athrow, 1) := by decide +kernel
theorem dX6_count_20 : decode cX6_count 20 = .ok (.aload_n 0, 1) := by decide +kernel
theorem dX6_count_21 : decode cX6_count 21 = .ok (.iload_n 1, 1) := by decide +kernel
theorem dX6_count_22 : decode cX6_count 22 = .ok (.invokevirtual 228, 3) := by decide +kernel
theorem dX6_count_25 : decode cX6_count 25 = .ok (.ireturn, 1) := by decide +kernel
set_option maxRecDepth 20000 in
theorem ggX6_layings_X4_run : GoodIn wsX6_layings wsX4_run := goodIn_r _ [9, 10, 11, 12, 13, 14, 15, 16, 17, 18, 19, 20, 21, 22, 23, 24, 25, 26, 27, 28, 29, 30, 8, 31, 32, 33, 34, 35, 36, 37, 38, 39, 40, 41, 42, 43, 44, 45, 46, 47, 48, 49, 50, 51, 52, 53, 54, 55, 56, 57, 58, 59, 60, 61, 62, 63, 64, 65, 66, 67, 68, 69, 70, 71, 72, 73, 74, 75, 76, 77, 78, 79, 80, 81, 82, 83, 84, 85, 86, 87, 88, 89, 90, 91, 92, 93, 94, 95, 96, 97, 98, 99, 100, 101, 102, 103, 104, 105, 106, 107, 118, 119, 120, 121, 122, 123, 124, 125, 126, 127, 128, 129, 130, 131, 132, 133, 134, 135, 136] (by decide +kernel) (by decide +kernel)
set_option maxRecDepth 20000 in
theorem gX6_layings_X4_run : GoodIn wsX6_layings (wsV RX6 157 RX4 yX4_run wsX4_run) := goodIn_app (goodIn_of _ (by decide +kernel)) ggX6_layings_X4_run
set_option maxRecDepth 20000 in
theorem ggX6_layings_X4_result : GoodIn wsX6_layings wsX4_result := goodIn_r _ [111, 33, 34, 35, 118, 119, 120, 121, 122, 123, 124] (by decide +kernel) (by decide +kernel)
set_option maxRecDepth 20000 in
theorem gX6_layings_X4_result : GoodIn wsX6_layings (wsV RX6 233 RX4 yX4_result wsX4_result) := goodIn_app (goodIn_of _ (by decide +kernel)) ggX6_layings_X4_result
theorem dX6_layings_0 : decode cX6_layings 0 = .ok (.iload_n 1, 1) := by decide +kernel
theorem dX6_layings_1 : decode cX6_layings 1 = .ok (.iconst 1, 1) := by decide +kernel
theorem dX6_layings_2 : decode cX6_layings 2 = .ok (.if_icmp .lt 18, 3) := by decide +kernel
theorem dX6_layings_5 : decode cX6_layings 5 = .ok (.iload_n 1, 1) := by decide +kernel
theorem dX6_layings_6 : decode cX6_layings 6 = .ok (.bipush 50, 2) := by decide +kernel
theorem dX6_layings_8 : decode cX6_layings 8 = .ok (.if_icmp .gt 12, 3) := by decide +kernel
theorem dX6_layings_11 : decode cX6_layings 11 = .ok (.iload_n 2, 1) := by decide +kernel
theorem dX6_layings_12 : decode cX6_layings 12 = .ok (.ifCond .lt 8, 3) := by decide +kernel
theorem dX6_layings_15 : decode cX6_layings 15 = .ok (.iload_n 2, 1) := by decide +kernel
theorem dX6_layings_16 : decode cX6_layings 16 = .ok (.iconst 3, 1) := by decide +kernel
theorem dX6_layings_17 : decode cX6_layings 17 = .ok (.if_icmp .lt 13, 3) := by decide +kernel
theorem dX6_layings_20 : decode cX6_layings 20 = .ok (.new 55, 3) := by decide +kernel
theorem dX6_layings_23 : decode cX6_layings 23 = .ok (.dup, 1) := by decide +kernel
theorem dX6_layings_24 : decode cX6_layings 24 = .ok (.ldc 231, 2) := by decide +kernel
theorem dX6_layings_26 : decode cX6_layings 26 = .ok (.invokespecial 59, 3) := by decide +kernel
theorem dX6_layings_29 : decode cX6_layings 29 = .ok (.athrow, 1) := by decide +kernel
theorem dX6_layings_30 : decode cX6_layings 30 = .ok (.aload_n 0, 1) := by decide +kernel
theorem dX6_layings_31 : decode cX6_layings 31 = .ok (.getfield 40, 3) := by decide +kernel
theorem dX6_layings_34 : decode cX6_layings 34 = .ok (.aload_n 0, 1) := by decide +kernel
theorem dX6_layings_35 : decode cX6_layings 35 = .ok (.getfield 12, 3) := by decide +kernel
theorem dX6_layings_38 : decode cX6_layings 38 = .ok (.iload_n 1, 1) := by decide +kernel
theorem dX6_layings_39 : decode cX6_layings 39 = .ok (.invokevirtual 157, 3) := by decide +kernel
theorem dX6_layings_42 : decode cX6_layings 42 = .ok (.aload_n 0, 1) := by decide +kernel
theorem dX6_layings_43 : decode cX6_layings 43 = .ok (.getfield 40, 3) := by decide +kernel
theorem dX6_layings_46 : decode cX6_layings 46 = .ok (.iload_n 2, 1) := by decide +kernel
theorem dX6_layings_47 : decode cX6_layings 47 = .ok (.invokevirtual 233, 3) := by decide +kernel
theorem dX6_layings_50 : decode cX6_layings 50 = .ok (.ireturn, 1) := by decide +kernel
set_option maxRecDepth 20000 in
theorem ggX6_hint_X6_bestStep : GoodIn wsX6_hint wsX6_bestStep := goodIn_r _ [5, 6, 7, 8, 9, 10, 11, 12, 13, 14, 15, 16, 4, 17, 18, 19, 20, 21, 22, 23, 24, 25, 26, 27, 28, 29, 30, 31, 32, 33, 34, 35, 36, 37, 38, 39, 40, 41, 42, 43, 44, 45, 46, 47, 48, 49, 50, 51, 52, 53, 54, 55, 56, 57, 58, 59, 60, 61, 62, 63, 64, 65, 66, 67, 68, 69, 70, 71, 72, 73, 74, 75, 76, 77, 78, 79, 80, 81, 82, 83, 84, 85, 86, 87, 88, 89, 90, 91, 92, 93, 94, 95, 96] (by decide +kernel) (by decide +kernel)
set_option maxRecDepth 20000 in
theorem gX6_hint_X6_bestStep : GoodIn wsX6_hint (wsV RX6 236 RX6 yX6_bestStep wsX6_bestStep) := goodIn_app (goodIn_of _ (by decide +kernel)) ggX6_hint_X6_bestStep
theorem dX6_hint_0 : decode cX6_hint 0 = .ok (.aload_n 0, 1) := by decide +kernel
theorem dX6_hint_1 : decode cX6_hint 1 = .ok (.invokevirtual 236, 3) := by decide +kernel
theorem dX6_hint_4 : decode cX6_hint 4 = .ok (.ireturn, 1) := by decide +kernel
set_option maxRecDepth 20000 in
theorem ggX6_starts_X0_emptyCells : GoodIn wsX6_starts wsX0_emptyCells := goodIn_r _ [7, 8, 9, 10, 6, 11, 12, 13, 14, 15, 16, 17, 18, 130, 131, 132, 133, 134, 135, 136, 137] (by decide +kernel) (by decide +kernel)
set_option maxRecDepth 20000 in
theorem gX6_starts_X0_emptyCells : GoodIn wsX6_starts (wsV RX6 123 RX0 yX0_emptyCells wsX0_emptyCells) := goodIn_app (goodIn_of _ (by decide +kernel)) ggX6_starts_X0_emptyCells
set_option maxRecDepth 20000 in
theorem ggX6_starts_X0_cells : GoodIn wsX6_starts wsX0_cells := goodIn_r _ [11, 12, 13, 130, 131, 132, 133, 134, 135, 136, 137] (by decide +kernel) (by decide +kernel)
set_option maxRecDepth 20000 in
theorem gX6_starts_X0_cells : GoodIn wsX6_starts (wsV RX6 66 RX0 yX0_cells wsX0_cells) := goodIn_app (goodIn_of _ (by decide +kernel)) ggX6_starts_X0_cells
set_option maxRecDepth 20000 in
theorem ggX6_starts_J6_bitCount_0f7a4 : GoodIn wsX6_starts wsJ6_bitCount_0f7a4 := goodIn_r _ [23, 24, 25, 26] (by decide +kernel) (by decide +kernel)
set_option maxRecDepth 20000 in
theorem gX6_starts_J6_bitCount_0f7a4 : GoodIn wsX6_starts (va_wsS RX6 239 yJ6_bitCount_0f7a4 wsJ6_bitCount_0f7a4) := goodIn_app (goodIn_of _ (by decide +kernel)) ggX6_starts_J6_bitCount_0f7a4
set_option maxRecDepth 20000 in
theorem ggX6_starts_X4_isSure : GoodIn wsX6_starts wsX4_isSure := goodIn_r _ [31, 32, 33, 34, 35, 36, 37, 6, 38, 12, 13, 39, 40, 41, 18, 42, 43, 44, 45, 46, 47, 48, 49, 50, 51, 8, 9, 10, 11, 14, 15, 16, 17, 52, 53, 54, 55, 56, 57, 58, 30, 59, 60, 61, 62, 63, 64, 65, 66, 67, 68, 69, 70, 71, 72, 73, 74, 75, 76, 77, 78, 79, 80, 81, 82, 83, 84, 85, 86, 87, 88, 89, 90, 91, 92, 93, 94, 95, 96, 97, 98, 99, 100, 101, 102, 103, 104, 105, 106, 107, 108, 109, 110, 111, 112, 113, 114, 115, 116, 117, 118, 119, 120, 121, 122, 123, 138, 139, 140, 141, 142, 143, 144, 130, 131, 132, 133, 134, 135, 136, 137, 145, 146, 147, 148] (by decide +kernel) (by decide +kernel)
set_option maxRecDepth 20000 in
theorem gX6_starts_X4_isSure : GoodIn wsX6_starts (wsV RX6 244 RX4 yX4_isSure wsX4_isSure) := goodIn_app (goodIn_of _ (by decide +kernel)) ggX6_starts_X4_isSure
theorem dX6_starts_0 : decode cX6_starts 0 = .ok (.aload_n 0, 1) := by decide +kernel
theorem dX6_starts_1 : decode cX6_starts 1 = .ok (.getfield 12, 3) := by decide +kernel
theorem dX6_starts_4 : decode cX6_starts 4 = .ok (.invokevirtual 123, 3) := by decide +kernel
theorem dX6_starts_7 : decode cX6_starts 7 = .ok (.ifCond .le 5, 3) := by decide +kernel
theorem dX6_starts_10 : decode cX6_starts 10 = .ok (.iconst (-1), 1) := by decide +kernel
theorem dX6_starts_11 : decode cX6_starts 11 = .ok (.ireturn, 1) := by decide +kernel
theorem dX6_starts_12 : decode cX6_starts 12 = .ok (.iconst 0, 1) := by decide +kernel
theorem dX6_starts_13 : decode cX6_starts 13 = .ok (.istore_n 1, 1) := by decide +kernel
theorem dX6_starts_14 : decode cX6_starts 14 = .ok (.iload_n 1, 1) := by decide +kernel
theorem dX6_starts_15 : decode cX6_starts 15 = .ok (.iconst 2, 1) := by decide +kernel
theorem dX6_starts_16 : decode cX6_starts 16 = .ok (.if_icmp .gt 55, 3) := by decide +kernel
theorem dX6_starts_19 : decode cX6_starts 19 = .ok (.iconst 0, 1) := by decide +kernel
theorem dX6_starts_20 : decode cX6_starts 20 = .ok (.istore_n 2, 1) := by decide +kernel
theorem dX6_starts_21 : decode cX6_starts 21 = .ok (.iload_n 2, 1) := by decide +kernel
theorem dX6_starts_22 : decode cX6_starts 22 = .ok (.iconst 1, 1) := by decide +kernel
theorem dX6_starts_23 : decode cX6_starts 23 = .ok (.aload_n 0, 1) := by decide +kernel
theorem dX6_starts_24 : decode cX6_starts 24 = .ok (.getfield 12, 3) := by decide +kernel
theorem dX6_starts_27 : decode cX6_starts 27 = .ok (.invokevirtual 66, 3) := by decide +kernel
theorem dX6_starts_30 : decode cX6_starts 30 = .ok (.ishl, 1) := by decide +kernel
theorem dX6_starts_31 : decode cX6_starts 31 = .ok (.if_icmp .ge 34, 3) := by decide +kernel
theorem dX6_starts_34 : decode cX6_starts 34 = .ok (.iload_n 2, 1) := by decide +kernel
theorem dX6_starts_35 : decode cX6_starts 35 = .ok (.invokestatic 239, 3) := by decide +kernel
theorem dX6_starts_38 : decode cX6_starts 38 = .ok (.iload_n 1, 1) := by decide +kernel
theorem dX6_starts_39 : decode cX6_starts 39 = .ok (.if_icmp .ne 20, 3) := by decide +kernel
theorem dX6_starts_42 : decode cX6_starts 42 = .ok (.aload_n 0, 1) := by decide +kernel
theorem dX6_starts_43 : decode cX6_starts 43 = .ok (.getfield 40, 3) := by decide +kernel
theorem dX6_starts_46 : decode cX6_starts 46 = .ok (.aload_n 0, 1) := by decide +kernel
theorem dX6_starts_47 : decode cX6_starts 47 = .ok (.getfield 12, 3) := by decide +kernel
theorem dX6_starts_50 : decode cX6_starts 50 = .ok (.iload_n 2, 1) := by decide +kernel
theorem dX6_starts_51 : decode cX6_starts 51 = .ok (.invokevirtual 244, 3) := by decide +kernel
theorem dX6_starts_54 : decode cX6_starts 54 = .ok (.ifCond .eq 5, 3) := by decide +kernel
theorem dX6_starts_57 : decode cX6_starts 57 = .ok (.iload_n 2, 1) := by decide +kernel
theorem dX6_starts_58 : decode cX6_starts 58 = .ok (.ireturn, 1) := by decide +kernel
theorem dX6_starts_59 : decode cX6_starts 59 = .ok (.iinc 2 1, 3) := by decide +kernel
theorem dX6_starts_62 : decode cX6_starts 62 = .ok (.goto (-41), 3) := by decide +kernel
theorem dX6_starts_65 : decode cX6_starts 65 = .ok (.iinc 1 1, 3) := by decide +kernel
theorem dX6_starts_68 : decode cX6_starts 68 = .ok (.goto (-54), 3) := by decide +kernel
theorem dX6_starts_71 : decode cX6_starts 71 = .ok (.iconst (-1), 1) := by decide +kernel
theorem dX6_starts_72 : decode cX6_starts 72 = .ok (.ireturn, 1) := by decide +kernel
set_option maxRecDepth 20000 in
theorem ggX6_why_X6_requirePlacing : GoodIn wsX6_why wsX6_requirePlacing := goodIn_ca (goodIn_r _ [5, 6, 7, 8, 9, 10, 11, 4, 12, 13, 14, 15, 16, 17, 18, 19, 20, 21, 22, 23, 24, 25, 26, 27, 28, 84, 85, 86, 87, 88, 89, 90, 91, 92, 93, 94, 95, 96, 97] (by decide +kernel) (by decide +kernel)) (goodIn_sub (fun _ h => List.mem_cons_of_mem _ (List.mem_append_right _ h)) (by decide +kernel))
set_option maxRecDepth 20000 in
theorem gX6_why_X6_requirePlacing : GoodIn wsX6_why (wsV RX6 111 RX6 yX6_requirePlacing wsX6_requirePlacing) := goodIn_app (goodIn_of _ (by decide +kernel)) ggX6_why_X6_requirePlacing
set_option maxRecDepth 20000 in
theorem ggX6_why_X6_reason : GoodIn wsX6_why wsX6_reason := goodIn_r _ [32, 8, 33, 34, 35, 36, 37, 16, 38, 39, 40, 41, 42, 43, 44, 45, 46, 47, 48, 49, 50, 51, 52, 53, 54, 55, 56, 57, 58, 59, 60, 61, 62, 23, 18, 19, 20, 21, 22, 63, 64, 65, 66, 67, 68, 69, 4, 70, 71, 72, 73, 74, 75, 76, 77, 78, 79, 80, 81, 82, 83, 84, 85, 86, 87, 88, 89, 90, 91, 92, 93, 94, 95, 96, 97, 98, 99, 100, 101] (by decide +kernel) (by decide +kernel)
set_option maxRecDepth 20000 in
theorem gX6_why_X6_reason : GoodIn wsX6_why (wsV RX6 114 RX6 yX6_reason wsX6_reason) := goodIn_app (goodIn_of _ (by decide +kernel)) ggX6_why_X6_reason
theorem dX6_why_0 : decode cX6_why 0 = .ok (.aload_n 0, 1) := by decide +kernel
theorem dX6_why_1 : decode cX6_why 1 = .ok (.iload_n 1, 1) := by decide +kernel
theorem dX6_why_2 : decode cX6_why 2 = .ok (.iload_n 2, 1) := by decide +kernel
theorem dX6_why_3 : decode cX6_why 3 = .ok (.invokevirtual 111, 3) := by decide +kernel
theorem dX6_why_6 : decode cX6_why 6 = .ok (.aload_n 0, 1) := by decide +kernel
theorem dX6_why_7 : decode cX6_why 7 = .ok (.iload_n 1, 1) := by decide +kernel
theorem dX6_why_8 : decode cX6_why 8 = .ok (.iload_n 2, 1) := by decide +kernel
theorem dX6_why_9 : decode cX6_why 9 = .ok (.invokevirtual 114, 3) := by decide +kernel
theorem dX6_why_12 : decode cX6_why 12 = .ok (.ireturn, 1) := by decide +kernel
set_option maxRecDepth 20000 in
theorem ggX6_fitting_X6_fittingPart : GoodIn wsX6_fitting wsX6_fittingPart := goodIn_r _ [5, 6, 7, 8, 9, 10, 11, 12, 13, 14, 15, 16, 17, 18, 19, 20, 21, 22, 23, 24, 25, 26, 27, 28, 29, 30, 31, 32, 33, 34, 35, 36, 37, 4, 38, 39, 40, 41, 42, 43, 44, 45, 46, 47, 48, 49, 50, 51, 52, 53, 54, 55] (by decide +kernel) (by decide +kernel)
set_option maxRecDepth 20000 in
theorem gX6_fitting_X6_fittingPart : GoodIn wsX6_fitting (wsV RX6 248 RX6 yX6_fittingPart wsX6_fittingPart) := goodIn_app (goodIn_of _ (by decide +kernel)) ggX6_fitting_X6_fittingPart
theorem dX6_fitting_0 : decode cX6_fitting 0 = .ok (.aload_n 0, 1) := by decide +kernel
theorem dX6_fitting_1 : decode cX6_fitting 1 = .ok (.invokevirtual 248, 3) := by decide +kernel
theorem dX6_fitting_4 : decode cX6_fitting 4 = .ok (.dreturn, 1) := by decide +kernel
set_option maxRecDepth 20000 in
theorem ggX6_digest_X6_number : GoodIn wsX6_digest wsX6_number := goodIn_r _ [12, 4, 13, 14, 15, 16, 17, 18, 19, 20, 21, 22, 23, 24, 25, 26, 27, 28, 29, 30, 31, 32, 33, 34, 35, 36, 37, 38, 39, 40, 41, 42, 43, 44, 45, 46, 47, 48, 49, 50, 51, 52, 53, 54, 55, 56, 57, 58, 59, 60, 61, 11, 62, 63, 64, 65, 66, 67, 68, 69, 70, 71, 72, 73, 74, 75, 76, 77, 78, 79, 80, 81, 82, 83, 84, 85, 86, 87, 88, 89, 90, 91, 92, 93, 94, 95, 96, 97, 98, 99, 100, 222, 223, 224, 225, 226, 227, 230, 231, 232, 233, 234, 235, 236, 237, 238, 239, 240, 241, 242, 243, 244] (by decide +kernel) (by decide +kernel)
set_option maxRecDepth 20000 in
theorem gX6_digest_X6_number : GoodIn wsX6_digest (wsV RX6 228 RX6 yX6_number wsX6_number) := goodIn_app (goodIn_of _ (by decide +kernel)) ggX6_digest_X6_number
set_option maxRecDepth 20000 in
theorem ggX6_digest_X6_hashCells : GoodIn wsX6_digest wsX6_hashCells := goodIn_r _ [104, 4, 2, 71, 27, 28, 24, 29, 30, 31, 105, 106, 107, 11, 108, 109, 110, 111, 112, 113, 114, 115, 116, 117, 118, 70, 15, 72, 33, 34, 35, 36, 73, 74, 75, 76, 77, 78, 79, 80, 81, 82, 83, 84, 85, 86, 87, 53, 54, 55, 26, 88, 89, 57, 58, 59, 60, 64, 65, 61, 62, 63, 90, 91, 92, 93, 94, 119, 120, 121, 122, 123, 124, 125, 126, 127, 128, 96, 97, 98, 99, 100, 129, 130, 131, 132, 133, 134, 135, 136, 95, 137, 222, 223, 224, 225, 226, 227, 230, 231, 232, 233, 234, 235, 236, 237, 241, 242, 243, 244] (by decide +kernel) (by decide +kernel)
set_option maxRecDepth 20000 in
theorem gX6_digest_X6_hashCells : GoodIn wsX6_digest (wsV RX6 256 RX6 yX6_hashCells wsX6_hashCells) := goodIn_app (goodIn_of _ (by decide +kernel)) ggX6_digest_X6_hashCells
set_option maxRecDepth 20000 in
theorem ggX6_digest_X6_hashTiles : GoodIn wsX6_digest wsX6_hashTiles := goodIn_r _ [141, 4, 15, 2, 142, 143, 144, 11, 145, 146, 147, 148, 149, 24, 150, 60, 61, 62, 63, 151, 152, 153, 154, 222, 223, 224, 225, 226, 227, 230, 231, 232, 233, 234, 235, 236, 237] (by decide +kernel) (by decide +kernel)
set_option maxRecDepth 20000 in
theorem gX6_digest_X6_hashTiles : GoodIn wsX6_digest (wsV RX6 260 RX6 yX6_hashTiles wsX6_hashTiles) := goodIn_app (goodIn_of _ (by decide +kernel)) ggX6_digest_X6_hashTiles
set_option maxRecDepth 20000 in
theorem ggX6_digest_X4_run : GoodIn wsX6_digest wsX4_run := goodIn_r _ [159, 160, 161, 162, 163, 24, 164, 30, 31, 165, 166, 114, 36, 167, 168, 169, 170, 128, 60, 171, 172, 173, 158, 174, 175, 176, 177, 178, 179, 180, 181, 182, 183, 184, 185, 186, 187, 27, 28, 29, 188, 33, 34, 35, 189, 74, 75, 76, 77, 78, 79, 80, 81, 82, 83, 84, 85, 86, 87, 53, 54, 55, 26, 88, 89, 57, 58, 59, 64, 11, 65, 61, 62, 63, 90, 91, 92, 93, 94, 190, 125, 126, 127, 191, 97, 98, 99, 100, 192, 193, 194, 195, 196, 197, 198, 199, 200, 201, 202, 203, 245, 246, 247, 248, 249, 250, 251, 230, 231, 232, 233, 234, 235, 236, 237, 241, 242, 243, 244] (by decide +kernel) (by decide +kernel)
set_option maxRecDepth 20000 in
theorem gX6_digest_X4_run : GoodIn wsX6_digest (wsV RX6 157 RX4 yX4_run wsX4_run) := goodIn_app (goodIn_of _ (by decide +kernel)) ggX6_digest_X4_run
set_option maxRecDepth 20000 in
theorem ggX6_digest_X4_result : GoodIn wsX6_digest wsX4_result := goodIn_r _ [207, 176, 177, 178, 245, 246, 247, 248, 249, 250, 251] (by decide +kernel) (by decide +kernel)
set_option maxRecDepth 20000 in
theorem gX6_digest_X4_result : GoodIn wsX6_digest (wsV RX6 233 RX4 yX4_result wsX4_result) := goodIn_app (goodIn_of _ (by decide +kernel)) ggX6_digest_X4_result
set_option maxRecDepth 20000 in
theorem ggX6_digest_X6_bestStep : GoodIn wsX6_digest wsX6_bestStep := goodIn_r _ [211, 4, 71, 27, 28, 24, 29, 30, 31, 115, 116, 117, 11, 118, 70, 15, 72, 33, 34, 35, 36, 73, 74, 75, 76, 77, 78, 79, 80, 81, 82, 83, 84, 85, 86, 87, 53, 54, 55, 26, 88, 89, 57, 58, 59, 60, 64, 65, 61, 62, 63, 90, 91, 92, 93, 94, 119, 120, 121, 122, 123, 124, 125, 126, 127, 128, 96, 97, 98, 99, 100, 129, 130, 131, 132, 222, 223, 224, 225, 226, 227, 230, 231, 232, 233, 234, 235, 236, 237, 241, 242, 243, 244] (by decide +kernel) (by decide +kernel)
set_option maxRecDepth 20000 in
theorem gX6_digest_X6_bestStep : GoodIn wsX6_digest (wsV RX6 236 RX6 yX6_bestStep wsX6_bestStep) := goodIn_app (goodIn_of _ (by decide +kernel)) ggX6_digest_X6_bestStep
set_option maxRecDepth 20000 in
theorem ggX6_digest_X6_fittingPart : GoodIn wsX6_digest wsX6_fittingPart := goodIn_r _ [215, 4, 18, 44, 45, 46, 24, 47, 26, 27, 28, 29, 30, 31, 48, 49, 50, 51, 52, 53, 54, 55, 32, 33, 34, 35, 36, 56, 57, 58, 59, 60, 61, 11, 62, 63, 64, 65, 222, 223, 224, 225, 226, 227, 230, 231, 232, 233, 234, 235, 236, 237] (by decide +kernel) (by decide +kernel)
set_option maxRecDepth 20000 in
theorem gX6_digest_X6_fittingPart : GoodIn wsX6_digest (wsV RX6 248 RX6 yX6_fittingPart wsX6_fittingPart) := goodIn_app (goodIn_of _ (by decide +kernel)) ggX6_digest_X6_fittingPart
set_option maxRecDepth 20000 in
theorem ggX6_digest_X6_bitsOf : GoodIn wsX6_digest wsX6_bitsOf := goodIn_r _ [218, 219, 220, 221] (by decide +kernel) (by decide +kernel)
set_option maxRecDepth 20000 in
theorem gX6_digest_X6_bitsOf : GoodIn wsX6_digest (va_wsS RX6 263 yX6_bitsOf wsX6_bitsOf) := goodIn_app (goodIn_of _ (by decide +kernel)) ggX6_digest_X6_bitsOf
theorem dX6_digest_0 : decode cX6_digest 0 = .ok (.ldc2_w 252, 3) := by decide +kernel
theorem dX6_digest_3 : decode cX6_digest 3 = .ok (.lstore_n 1, 1) := by decide +kernel
theorem dX6_digest_4 : decode cX6_digest 4 = .ok (.iconst 0, 1) := by decide +kernel
theorem dX6_digest_5 : decode cX6_digest 5 = .ok (.istore_n 3, 1) := by decide +kernel
theorem dX6_digest_6 : decode cX6_digest 6 = .ok (.iload_n 3, 1) := by decide +kernel
theorem dX6_digest_7 : decode cX6_digest 7 = .ok (.bipush 10, 2) := by decide +kernel
theorem dX6_digest_9 : decode cX6_digest 9 = .ok (.if_icmp .ge 22, 3) := by decide +kernel
theorem dX6_digest_12 : decode cX6_digest 12 = .ok (.ldc2_w 254, 3) := by decide +kernel
theorem dX6_digest_15 : decode cX6_digest 15 = .ok (.lload_n 1, 1) := by decide +kernel
theorem dX6_digest_16 : decode cX6_digest 16 = .ok (.lmul, 1) := by decide +kernel
theorem dX6_digest_17 : decode cX6_digest 17 = .ok (.aload_n 0, 1) := by decide +kernel
theorem dX6_digest_18 : decode cX6_digest 18 = .ok (.iload_n 3, 1) := by decide +kernel
theorem dX6_digest_19 : decode cX6_digest 19 = .ok (.invokevirtual 228, 3) := by decide +kernel
theorem dX6_digest_22 : decode cX6_digest 22 = .ok (.i2l, 1) := by decide +kernel
theorem dX6_digest_23 : decode cX6_digest 23 = .ok (.ladd, 1) := by decide +kernel
theorem dX6_digest_24 : decode cX6_digest 24 = .ok (.lstore_n 1, 1) := by decide +kernel
theorem dX6_digest_25 : decode cX6_digest 25 = .ok (.iinc 3 1, 3) := by decide +kernel
theorem dX6_digest_28 : decode cX6_digest 28 = .ok (.goto (-22), 3) := by decide +kernel
theorem dX6_digest_31 : decode cX6_digest 31 = .ok (.aload_n 0, 1) := by decide +kernel
theorem dX6_digest_32 : decode cX6_digest 32 = .ok (.lload_n 1, 1) := by decide +kernel
theorem dX6_digest_33 : decode cX6_digest 33 = .ok (.invokevirtual 256, 3) := by decide +kernel
theorem dX6_digest_36 : decode cX6_digest 36 = .ok (.lstore_n 1, 1) := by decide +kernel
theorem dX6_digest_37 : decode cX6_digest 37 = .ok (.aload_n 0, 1) := by decide +kernel
theorem dX6_digest_38 : decode cX6_digest 38 = .ok (.lload_n 1, 1) := by decide +kernel
theorem dX6_digest_39 : decode cX6_digest 39 = .ok (.invokevirtual 260, 3) := by decide +kernel
theorem dX6_digest_42 : decode cX6_digest 42 = .ok (.lstore_n 1, 1) := by decide +kernel
theorem dX6_digest_43 : decode cX6_digest 43 = .ok (.aload_n 0, 1) := by decide +kernel
theorem dX6_digest_44 : decode cX6_digest 44 = .ok (.getfield 40, 3) := by decide +kernel
theorem dX6_digest_47 : decode cX6_digest 47 = .ok (.aload_n 0, 1) := by decide +kernel
theorem dX6_digest_48 : decode cX6_digest 48 = .ok (.getfield 12, 3) := by decide +kernel
theorem dX6_digest_51 : decode cX6_digest 51 = .ok (.iconst 3, 1) := by decide +kernel
theorem dX6_digest_52 : decode cX6_digest 52 = .ok (.invokevirtual 157, 3) := by decide +kernel
theorem dX6_digest_55 : decode cX6_digest 55 = .ok (.iconst 0, 1) := by decide +kernel
theorem dX6_digest_56 : decode cX6_digest 56 = .ok (.istore_n 3, 1) := by decide +kernel
theorem dX6_digest_57 : decode cX6_digest 57 = .ok (.iload_n 3, 1) := by decide +kernel
theorem dX6_digest_58 : decode cX6_digest 58 = .ok (.iconst 3, 1) := by decide +kernel
theorem dX6_digest_59 : decode cX6_digest 59 = .ok (.if_icmp .ge 25, 3) := by decide +kernel
theorem dX6_digest_62 : decode cX6_digest 62 = .ok (.ldc2_w 254, 3) := by decide +kernel
theorem dX6_digest_65 : decode cX6_digest 65 = .ok (.lload_n 1, 1) := by decide +kernel
theorem dX6_digest_66 : decode cX6_digest 66 = .ok (.lmul, 1) := by decide +kernel
theorem dX6_digest_67 : decode cX6_digest 67 = .ok (.aload_n 0, 1) := by decide +kernel
theorem dX6_digest_68 : decode cX6_digest 68 = .ok (.getfield 40, 3) := by decide +kernel
theorem dX6_digest_71 : decode cX6_digest 71 = .ok (.iload_n 3, 1) := by decide +kernel
theorem dX6_digest_72 : decode cX6_digest 72 = .ok (.invokevirtual 233, 3) := by decide +kernel
theorem dX6_digest_75 : decode cX6_digest 75 = .ok (.i2l, 1) := by decide +kernel
theorem dX6_digest_76 : decode cX6_digest 76 = .ok (.ladd, 1) := by decide +kernel
theorem dX6_digest_77 : decode cX6_digest 77 = .ok (.lstore_n 1, 1) := by decide +kernel
theorem dX6_digest_78 : decode cX6_digest 78 = .ok (.iinc 3 1, 3) := by decide +kernel
theorem dX6_digest_81 : decode cX6_digest 81 = .ok (.goto (-24), 3) := by decide +kernel
theorem dX6_digest_84 : decode cX6_digest 84 = .ok (.ldc2_w 254, 3) := by decide +kernel
theorem dX6_digest_87 : decode cX6_digest 87 = .ok (.lload_n 1, 1) := by decide +kernel
theorem dX6_digest_88 : decode cX6_digest 88 = .ok (.lmul, 1) := by decide +kernel
theorem dX6_digest_89 : decode cX6_digest 89 = .ok (.aload_n 0, 1) := by decide +kernel
theorem dX6_digest_90 : decode cX6_digest 90 = .ok (.invokevirtual 236, 3) := by decide +kernel
theorem dX6_digest_93 : decode cX6_digest 93 = .ok (.i2l, 1) := by decide +kernel
theorem dX6_digest_94 : decode cX6_digest 94 = .ok (.ladd, 1) := by decide +kernel
theorem dX6_digest_95 : decode cX6_digest 95 = .ok (.lstore_n 1, 1) := by decide +kernel
theorem dX6_digest_96 : decode cX6_digest 96 = .ok (.ldc2_w 254, 3) := by decide +kernel
theorem dX6_digest_99 : decode cX6_digest 99 = .ok (.lload_n 1, 1) := by decide +kernel
theorem dX6_digest_100 : decode cX6_digest 100 = .ok (.lmul, 1) := by decide +kernel
theorem dX6_digest_101 : decode cX6_digest 101 = .ok (.aload_n 0, 1) := by decide +kernel
theorem dX6_digest_102 : decode cX6_digest 102 = .ok (.invokevirtual 248, 3) := by decide +kernel
theorem dX6_digest_105 : decode cX6_digest 105 = .ok (.invokestatic 263, 3) := by decide +kernel
theorem dX6_digest_108 : decode cX6_digest 108 = .ok (.ladd, 1) := by decide +kernel
theorem dX6_digest_109 : decode cX6_digest 109 = .ok (.lstore_n 1, 1) := by decide +kernel
theorem dX6_digest_110 : decode cX6_digest 110 = .ok (.ldc2_w 254, 3) := by decide +kernel
theorem dX6_digest_113 : decode cX6_digest 113 = .ok (.lload_n 1, 1) := by decide +kernel
theorem dX6_digest_114 : decode cX6_digest 114 = .ok (.lmul, 1) := by decide +kernel
theorem dX6_digest_115 : decode cX6_digest 115 = .ok (.aload_n 0, 1) := by decide +kernel
theorem dX6_digest_116 : decode cX6_digest 116 = .ok (.getfield 26, 3) := by decide +kernel
theorem dX6_digest_119 : decode cX6_digest 119 = .ok (.getfield 174, 3) := by decide +kernel
theorem dX6_digest_122 : decode cX6_digest 122 = .ok (.i2l, 1) := by decide +kernel
theorem dX6_digest_123 : decode cX6_digest 123 = .ok (.ladd, 1) := by decide +kernel
theorem dX6_digest_124 : decode cX6_digest 124 = .ok (.lstore_n 1, 1) := by decide +kernel
theorem dX6_digest_125 : decode cX6_digest 125 = .ok (.iconst 0, 1) := by decide +kernel
theorem dX6_digest_126 : decode cX6_digest 126 = .ok (.istore_n 3, 1) := by decide +kernel
theorem dX6_digest_127 : decode cX6_digest 127 = .ok (.iload_n 3, 1) := by decide +kernel
theorem dX6_digest_128 : decode cX6_digest 128 = .ok (.aload_n 0, 1) := by decide +kernel
theorem dX6_digest_129 : decode cX6_digest 129 = .ok (.getfield 26, 3) := by decide +kernel
theorem dX6_digest_132 : decode cX6_digest 132 = .ok (.getfield 174, 3) := by decide +kernel
theorem dX6_digest_135 : decode cX6_digest 135 = .ok (.if_icmp .ge 26, 3) := by decide +kernel
theorem dX6_digest_138 : decode cX6_digest 138 = .ok (.ldc2_w 254, 3) := by decide +kernel
theorem dX6_digest_141 : decode cX6_digest 141 = .ok (.lload_n 1, 1) := by decide +kernel
theorem dX6_digest_142 : decode cX6_digest 142 = .ok (.lmul, 1) := by decide +kernel
theorem dX6_digest_143 : decode cX6_digest 143 = .ok (.aload_n 0, 1) := by decide +kernel
theorem dX6_digest_144 : decode cX6_digest 144 = .ok (.getfield 26, 3) := by decide +kernel
theorem dX6_digest_147 : decode cX6_digest 147 = .ok (.getfield 179, 3) := by decide +kernel
theorem dX6_digest_150 : decode cX6_digest 150 = .ok (.iload_n 3, 1) := by decide +kernel
theorem dX6_digest_151 : decode cX6_digest 151 = .ok (.iaload, 1) := by decide +kernel
theorem dX6_digest_152 : decode cX6_digest 152 = .ok (.i2l, 1) := by decide +kernel
theorem dX6_digest_153 : decode cX6_digest 153 = .ok (.ladd, 1) := by decide +kernel
theorem dX6_digest_154 : decode cX6_digest 154 = .ok (.lstore_n 1, 1) := by decide +kernel
theorem dX6_digest_155 : decode cX6_digest 155 = .ok (.iinc 3 1, 3) := by decide +kernel
theorem dX6_digest_158 : decode cX6_digest 158 = .ok (.goto (-31), 3) := by decide +kernel
theorem dX6_digest_161 : decode cX6_digest 161 = .ok (.lload_n 1, 1) := by decide +kernel
theorem dX6_digest_162 : decode cX6_digest 162 = .ok (.lreturn, 1) := by decide +kernel
set_option maxRecDepth 20000 in
theorem ggX6_requireCell_X0_hasCell : GoodIn wsX6_requireCell wsX0_hasCell := goodIn_r _ [8, 9, 10, 11, 7, 12, 13, 14, 21, 22, 23, 24, 25, 26, 27, 28] (by decide +kernel) (by decide +kernel)
set_option maxRecDepth 20000 in
theorem gX6_requireCell_X0_hasCell : GoodIn wsX6_requireCell (wsV RX6 267 RX0 yX0_hasCell wsX0_hasCell) := goodIn_app (goodIn_of _ (by decide +kernel)) ggX6_requireCell_X0_hasCell
theorem dX6_requireCell_0 : decode cX6_requireCell 0 = .ok (.aload_n 0, 1) := by decide +kernel
theorem dX6_requireCell_1 : decode cX6_requireCell 1 = .ok (.getfield 12, 3) := by decide +kernel
theorem dX6_requireCell_4 : decode cX6_requireCell 4 = .ok (.iload_n 1, 1) := by decide +kernel
theorem dX6_requireCell_5 : decode cX6_requireCell 5 = .ok (.invokevirtual 267, 3) := by decide +kernel
theorem dX6_requireCell_8 : decode cX6_requireCell 8 = .ok (.ifCond .ne 14, 3) := by decide +kernel
theorem dX6_requireCell_11 : decode cX6_requireCell 11 = .ok (.new 212, 3) := by decide +kernel
theorem dX6_requireCell_14 : decode cX6_requireCell 14 = .ok (.dup, 1) := by decide +kernel
theorem dX6_requireCell_15 : decode cX6_requireCell 15 = .ok (.ldc_w 270, 3) := by decide +kernel
theorem dX6_requireCell_18 : decode cX6_requireCell 18 = .ok (.invokespecial 216, 3) := by decide +kernel
theorem dX6_requireCell_21 : decode cX6_requireCell 21 = .ok (.athrow, 1) := by decide +kernel
theorem dX6_requireCell_22 : decode cX6_requireCell 22 = .ok (.return_, 1) := by decide +kernel
set_option maxRecDepth 20000 in
theorem ggX6_requirePlacing_X6_requireCell : GoodIn wsX6_requirePlacing wsX6_requireCell := goodIn_ca (goodIn_r _ [8, 1, 2, 3, 9, 10, 11, 12, 13, 14, 15, 16, 17, 18, 19, 25, 26, 27, 28, 29, 30, 31, 32, 33, 34, 35, 36, 37, 38] (by decide +kernel) (by decide +kernel)) (goodIn_sub (fun _ h => List.mem_cons_of_mem _ (List.mem_append_right _ h)) (by decide +kernel))
set_option maxRecDepth 20000 in
theorem gX6_requirePlacing_X6_requireCell : GoodIn wsX6_requirePlacing (wsV RX6 126 RX6 yX6_requireCell wsX6_requireCell) := goodIn_app (goodIn_of _ (by decide +kernel)) ggX6_requirePlacing_X6_requireCell
set_option maxRecDepth 20000 in
theorem ggX6_requirePlacing_X0_hasPlacing : GoodIn wsX6_requirePlacing wsX0_hasPlacing := goodIn_r _ [23, 24, 31, 32, 33, 34, 35, 36, 37, 38] (by decide +kernel) (by decide +kernel)
set_option maxRecDepth 20000 in
theorem gX6_requirePlacing_X0_hasPlacing : GoodIn wsX6_requirePlacing (wsV RX6 272 RX0 yX0_hasPlacing wsX0_hasPlacing) := goodIn_app (goodIn_of _ (by decide +kernel)) ggX6_requirePlacing_X0_hasPlacing
theorem dX6_requirePlacing_0 : decode cX6_requirePlacing 0 = .ok (.aload_n 0, 1) := by decide +kernel
theorem dX6_requirePlacing_1 : decode cX6_requirePlacing 1 = .ok (.iload_n 1, 1) := by decide +kernel
theorem dX6_requirePlacing_2 : decode cX6_requirePlacing 2 = .ok (.invokevirtual 126, 3) := by decide +kernel
theorem dX6_requirePlacing_5 : decode cX6_requirePlacing 5 = .ok (.aload_n 0, 1) := by decide +kernel
theorem dX6_requirePlacing_6 : decode cX6_requirePlacing 6 = .ok (.getfield 12, 3) := by decide +kernel
theorem dX6_requirePlacing_9 : decode cX6_requirePlacing 9 = .ok (.iload_n 2, 1) := by decide +kernel
theorem dX6_requirePlacing_10 : decode cX6_requirePlacing 10 = .ok (.invokevirtual 272, 3) := by decide +kernel
theorem dX6_requirePlacing_13 : decode cX6_requirePlacing 13 = .ok (.ifCond .ne 13, 3) := by decide +kernel
theorem dX6_requirePlacing_16 : decode cX6_requirePlacing 16 = .ok (.new 212, 3) := by decide +kernel
theorem dX6_requirePlacing_19 : decode cX6_requirePlacing 19 = .ok (.dup, 1) := by decide +kernel
theorem dX6_requirePlacing_20 : decode cX6_requirePlacing 20 = .ok (.ldc 221, 2) := by decide +kernel
theorem dX6_requirePlacing_22 : decode cX6_requirePlacing 22 = .ok (.invokespecial 216, 3) := by decide +kernel
theorem dX6_requirePlacing_25 : decode cX6_requirePlacing 25 = .ok (.athrow, 1) := by decide +kernel
theorem dX6_requirePlacing_26 : decode cX6_requirePlacing 26 = .ok (.return_, 1) := by decide +kernel
