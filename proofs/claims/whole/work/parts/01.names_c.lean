theorem dX11_today_4 : decode cX11_today 4 = .ok (.getfield 140, 3) := by decide +kernel
theorem dX11_today_7 : decode cX11_today 7 = .ok (.ireturn, 1) := by decide +kernel
set_option maxRecDepth 20000 in
theorem ggX11_days_X10_passDay : GoodIn wsX11_days wsX10_passDay := goodIn_r _ [7, 8, 9, 10, 11, 12, 13, 14, 15, 16, 17, 18, 19, 20, 21, 22, 23, 24, 25, 26, 27, 28, 29, 30, 43, 44, 45, 46, 47, 48, 49, 50, 51, 52, 53] (by decide +kernel) (by decide +kernel)
set_option maxRecDepth 20000 in
theorem gX11_days_X10_passDay : GoodIn wsX11_days (wsV RX11 153 RX10 yX10_passDay wsX10_passDay) := goodIn_app (goodIn_of _ (by decide +kernel)) ggX11_days_X10_passDay
theorem dX11_days_0 : decode cX11_days 0 = .ok (.iload_n 1, 1) := by decide +kernel
theorem dX11_days_1 : decode cX11_days 1 = .ok (.ifCond .lt 9, 3) := by decide +kernel
theorem dX11_days_4 : decode cX11_days 4 = .ok (.iload_n 1, 1) := by decide +kernel
theorem dX11_days_5 : decode cX11_days 5 = .ok (.bipush 50, 2) := by decide +kernel
theorem dX11_days_7 : decode cX11_days 7 = .ok (.if_icmp .le 5, 3) := by decide +kernel
theorem dX11_days_10 : decode cX11_days 10 = .ok (.iconst (-1), 1) := by decide +kernel
theorem dX11_days_11 : decode cX11_days 11 = .ok (.ireturn, 1) := by decide +kernel
theorem dX11_days_12 : decode cX11_days 12 = .ok (.iconst 0, 1) := by decide +kernel
theorem dX11_days_13 : decode cX11_days 13 = .ok (.istore_n 2, 1) := by decide +kernel
theorem dX11_days_14 : decode cX11_days 14 = .ok (.iload_n 2, 1) := by decide +kernel
theorem dX11_days_15 : decode cX11_days 15 = .ok (.iload_n 1, 1) := by decide +kernel
theorem dX11_days_16 : decode cX11_days 16 = .ok (.if_icmp .ge 28, 3) := by decide +kernel
theorem dX11_days_19 : decode cX11_days 19 = .ok (.aload_n 0, 1) := by decide +kernel
theorem dX11_days_20 : decode cX11_days 20 = .ok (.getfield 53, 3) := by decide +kernel
theorem dX11_days_23 : decode cX11_days 23 = .ok (.getfield 140, 3) := by decide +kernel
theorem dX11_days_26 : decode cX11_days 26 = .ok (.bipush 50, 2) := by decide +kernel
theorem dX11_days_28 : decode cX11_days 28 = .ok (.if_icmp .ge 16, 3) := by decide +kernel
theorem dX11_days_31 : decode cX11_days 31 = .ok (.aload_n 0, 1) := by decide +kernel
theorem dX11_days_32 : decode cX11_days 32 = .ok (.getfield 53, 3) := by decide +kernel
theorem dX11_days_35 : decode cX11_days 35 = .ok (.invokevirtual 153, 3) := by decide +kernel
theorem dX11_days_38 : decode cX11_days 38 = .ok (.iinc 2 1, 3) := by decide +kernel
theorem dX11_days_41 : decode cX11_days 41 = .ok (.goto (-27), 3) := by decide +kernel
theorem dX11_days_44 : decode cX11_days 44 = .ok (.aload_n 0, 1) := by decide +kernel
theorem dX11_days_45 : decode cX11_days 45 = .ok (.getfield 53, 3) := by decide +kernel
theorem dX11_days_48 : decode cX11_days 48 = .ok (.getfield 140, 3) := by decide +kernel
theorem dX11_days_51 : decode cX11_days 51 = .ok (.ireturn, 1) := by decide +kernel
set_option maxRecDepth 20000 in
theorem ggX11_turn_X11_isPane : GoodIn wsX11_turn wsX11_isPane := goodIn_r _ [7, 1, 8, 46, 47, 48, 49, 50, 51, 52, 53, 54, 55, 56, 57, 58, 59, 60, 61, 62, 63] (by decide +kernel) (by decide +kernel)
set_option maxRecDepth 20000 in
theorem gX11_turn_X11_isPane : GoodIn wsX11_turn (wsV RX11 121 RX11 yX11_isPane wsX11_isPane) := goodIn_app (goodIn_of _ (by decide +kernel)) ggX11_turn_X11_isPane
set_option maxRecDepth 20000 in
theorem ggX11_turn_X3_turnAbout : GoodIn wsX11_turn wsX3_turnAbout := goodIn_r _ [13, 14, 15, 16, 17, 12, 18, 19, 20, 21, 22, 23, 24, 64, 65, 66, 67, 68] (by decide +kernel) (by decide +kernel)
set_option maxRecDepth 20000 in
theorem gX11_turn_X3_turnAbout : GoodIn wsX11_turn (wsV RX11 156 RX3 yX3_turnAbout wsX3_turnAbout) := goodIn_app (goodIn_of _ (by decide +kernel)) ggX11_turn_X3_turnAbout
set_option maxRecDepth 20000 in
theorem ggX11_turn_X10_shownBy : GoodIn wsX11_turn wsX10_shownBy := goodIn_r _ [29, 30, 31, 32, 33, 12, 34, 14, 15, 16, 17, 18, 19, 20, 35, 36, 37, 28, 38, 39, 40, 6, 41, 42, 43, 44, 45, 64, 65, 66, 67, 68, 58, 59, 60, 61, 62, 63] (by decide +kernel) (by decide +kernel)
set_option maxRecDepth 20000 in
theorem gX11_turn_X10_shownBy : GoodIn wsX11_turn (wsV RX11 136 RX10 yX10_shownBy wsX10_shownBy) := goodIn_app (goodIn_of _ (by decide +kernel)) ggX11_turn_X10_shownBy
theorem dX11_turn_0 : decode cX11_turn 0 = .ok (.aload_n 0, 1) := by decide +kernel
theorem dX11_turn_1 : decode cX11_turn 1 = .ok (.iload_n 1, 1) := by decide +kernel
theorem dX11_turn_2 : decode cX11_turn 2 = .ok (.invokevirtual 121, 3) := by decide +kernel
theorem dX11_turn_5 : decode cX11_turn 5 = .ok (.ifCond .ne 5, 3) := by decide +kernel
theorem dX11_turn_8 : decode cX11_turn 8 = .ok (.iconst (-1), 1) := by decide +kernel
theorem dX11_turn_9 : decode cX11_turn 9 = .ok (.ireturn, 1) := by decide +kernel
theorem dX11_turn_10 : decode cX11_turn 10 = .ok (.aload_n 0, 1) := by decide +kernel
theorem dX11_turn_11 : decode cX11_turn 11 = .ok (.getfield 53, 3) := by decide +kernel
theorem dX11_turn_14 : decode cX11_turn 14 = .ok (.getfield 124, 3) := by decide +kernel
theorem dX11_turn_17 : decode cX11_turn 17 = .ok (.iload_n 1, 1) := by decide +kernel
theorem dX11_turn_18 : decode cX11_turn 18 = .ok (.aaload, 1) := by decide +kernel
theorem dX11_turn_19 : decode cX11_turn 19 = .ok (.astore_n 2, 1) := by decide +kernel
theorem dX11_turn_20 : decode cX11_turn 20 = .ok (.aload_n 2, 1) := by decide +kernel
theorem dX11_turn_21 : decode cX11_turn 21 = .ok (.invokevirtual 156, 3) := by decide +kernel
theorem dX11_turn_24 : decode cX11_turn 24 = .ok (.aload_n 0, 1) := by decide +kernel
theorem dX11_turn_25 : decode cX11_turn 25 = .ok (.getfield 53, 3) := by decide +kernel
theorem dX11_turn_28 : decode cX11_turn 28 = .ok (.aload_n 2, 1) := by decide +kernel
theorem dX11_turn_29 : decode cX11_turn 29 = .ok (.invokevirtual 136, 3) := by decide +kernel
theorem dX11_turn_32 : decode cX11_turn 32 = .ok (.ireturn, 1) := by decide +kernel
set_option maxRecDepth 20000 in
theorem ggX11_cut_X11_isPane : GoodIn wsX11_cut wsX11_isPane := goodIn_r _ [9, 1, 4, 44, 45, 46, 47, 48, 49, 50, 51, 52, 53, 54, 55, 56, 57, 58, 59, 60, 61] (by decide +kernel) (by decide +kernel)
set_option maxRecDepth 20000 in
theorem gX11_cut_X11_isPane : GoodIn wsX11_cut (wsV RX11 121 RX11 yX11_isPane wsX11_isPane) := goodIn_app (goodIn_of _ (by decide +kernel)) ggX11_cut_X11_isPane
set_option maxRecDepth 20000 in
theorem ggX11_cut_X10_isFull : GoodIn wsX11_cut wsX10_isFull := goodIn_r _ [14, 15, 56, 57, 58, 59, 60, 61] (by decide +kernel) (by decide +kernel)
set_option maxRecDepth 20000 in
theorem gX11_cut_X10_isFull : GoodIn wsX11_cut (wsV RX11 113 RX10 yX10_isFull wsX10_isFull) := goodIn_app (goodIn_of _ (by decide +kernel)) ggX11_cut_X10_isFull
set_option maxRecDepth 20000 in
theorem ggX11_cut_X10_addPane : GoodIn wsX11_cut wsX10_addPane := goodIn_r _ [19, 20, 15, 21, 22, 23, 24, 25, 26, 27, 28, 29, 30, 31, 32, 33, 34, 56, 57, 58, 59, 60, 61, 62, 63, 64, 65, 66] (by decide +kernel) (by decide +kernel)
set_option maxRecDepth 20000 in
theorem gX11_cut_X10_addPane : GoodIn wsX11_cut (wsV RX11 117 RX10 yX10_addPane wsX10_addPane) := goodIn_app (goodIn_of _ (by decide +kernel)) ggX11_cut_X10_addPane
set_option maxRecDepth 20000 in
theorem ggX11_cut_X3_becomeBehind : GoodIn wsX11_cut wsX3_becomeBehind := goodIn_r _ [38, 27, 39, 22, 23, 24, 25, 26, 28, 29, 30, 31, 32, 33, 34, 40, 41, 42, 43, 62, 63, 64, 65, 66] (by decide +kernel) (by decide +kernel)
set_option maxRecDepth 20000 in
theorem gX11_cut_X3_becomeBehind : GoodIn wsX11_cut (wsV RX11 159 RX3 yX3_becomeBehind wsX3_becomeBehind) := goodIn_app (goodIn_of _ (by decide +kernel)) ggX11_cut_X3_becomeBehind
theorem dX11_cut_0 : decode cX11_cut 0 = .ok (.aload_n 0, 1) := by decide +kernel
theorem dX11_cut_1 : decode cX11_cut 1 = .ok (.iload_n 1, 1) := by decide +kernel
theorem dX11_cut_2 : decode cX11_cut 2 = .ok (.invokevirtual 121, 3) := by decide +kernel
theorem dX11_cut_5 : decode cX11_cut 5 = .ok (.ifCond .eq 8, 3) := by decide +kernel
theorem dX11_cut_8 : decode cX11_cut 8 = .ok (.iload_n 2, 1) := by decide +kernel
theorem dX11_cut_9 : decode cX11_cut 9 = .ok (.iconst 1, 1) := by decide +kernel
theorem dX11_cut_10 : decode cX11_cut 10 = .ok (.if_icmp .ge 5, 3) := by decide +kernel
theorem dX11_cut_13 : decode cX11_cut 13 = .ok (.iconst (-1), 1) := by decide +kernel
theorem dX11_cut_14 : decode cX11_cut 14 = .ok (.ireturn, 1) := by decide +kernel
theorem dX11_cut_15 : decode cX11_cut 15 = .ok (.aload_n 0, 1) := by decide +kernel
theorem dX11_cut_16 : decode cX11_cut 16 = .ok (.getfield 53, 3) := by decide +kernel
theorem dX11_cut_19 : decode cX11_cut 19 = .ok (.getfield 124, 3) := by decide +kernel
theorem dX11_cut_22 : decode cX11_cut 22 = .ok (.iload_n 1, 1) := by decide +kernel
theorem dX11_cut_23 : decode cX11_cut 23 = .ok (.aaload, 1) := by decide +kernel
theorem dX11_cut_24 : decode cX11_cut 24 = .ok (.astore_n 3, 1) := by decide +kernel
theorem dX11_cut_25 : decode cX11_cut 25 = .ok (.aload_n 3, 1) := by decide +kernel
theorem dX11_cut_26 : decode cX11_cut 26 = .ok (.getfield 131, 3) := by decide +kernel
theorem dX11_cut_29 : decode cX11_cut 29 = .ok (.iload_n 2, 1) := by decide +kernel
theorem dX11_cut_30 : decode cX11_cut 30 = .ok (.if_icmp .gt 6, 3) := by decide +kernel
theorem dX11_cut_33 : decode cX11_cut 33 = .ok (.bipush (-4), 2) := by decide +kernel
theorem dX11_cut_35 : decode cX11_cut 35 = .ok (.ireturn, 1) := by decide +kernel
theorem dX11_cut_36 : decode cX11_cut 36 = .ok (.aload_n 0, 1) := by decide +kernel
theorem dX11_cut_37 : decode cX11_cut 37 = .ok (.getfield 53, 3) := by decide +kernel
theorem dX11_cut_40 : decode cX11_cut 40 = .ok (.invokevirtual 113, 3) := by decide +kernel
theorem dX11_cut_43 : decode cX11_cut 43 = .ok (.ifCond .eq 6, 3) := by decide +kernel
theorem dX11_cut_46 : decode cX11_cut 46 = .ok (.bipush (-2), 2) := by decide +kernel
theorem dX11_cut_48 : decode cX11_cut 48 = .ok (.ireturn, 1) := by decide +kernel
theorem dX11_cut_49 : decode cX11_cut 49 = .ok (.aload_n 0, 1) := by decide +kernel
theorem dX11_cut_50 : decode cX11_cut 50 = .ok (.getfield 53, 3) := by decide +kernel
theorem dX11_cut_53 : decode cX11_cut 53 = .ok (.iconst 0, 1) := by decide +kernel
theorem dX11_cut_54 : decode cX11_cut 54 = .ok (.iconst 1, 1) := by decide +kernel
theorem dX11_cut_55 : decode cX11_cut 55 = .ok (.invokevirtual 117, 3) := by decide +kernel
theorem dX11_cut_58 : decode cX11_cut 58 = .ok (.astore 4, 2) := by decide +kernel
theorem dX11_cut_60 : decode cX11_cut 60 = .ok (.aload 4, 2) := by decide +kernel
theorem dX11_cut_62 : decode cX11_cut 62 = .ok (.aload_n 3, 1) := by decide +kernel
theorem dX11_cut_63 : decode cX11_cut 63 = .ok (.iload_n 2, 1) := by decide +kernel
theorem dX11_cut_64 : decode cX11_cut 64 = .ok (.invokevirtual 159, 3) := by decide +kernel
theorem dX11_cut_67 : decode cX11_cut 67 = .ok (.aload_n 3, 1) := by decide +kernel
theorem dX11_cut_68 : decode cX11_cut 68 = .ok (.iload_n 2, 1) := by decide +kernel
theorem dX11_cut_69 : decode cX11_cut 69 = .ok (.putfield 131, 3) := by decide +kernel
theorem dX11_cut_72 : decode cX11_cut 72 = .ok (.aload_n 0, 1) := by decide +kernel
theorem dX11_cut_73 : decode cX11_cut 73 = .ok (.getfield 53, 3) := by decide +kernel
theorem dX11_cut_76 : decode cX11_cut 76 = .ok (.getfield 84, 3) := by decide +kernel
theorem dX11_cut_79 : decode cX11_cut 79 = .ok (.iconst 1, 1) := by decide +kernel
theorem dX11_cut_80 : decode cX11_cut 80 = .ok (.isub, 1) := by decide +kernel
theorem dX11_cut_81 : decode cX11_cut 81 = .ok (.ireturn, 1) := by decide +kernel
set_option maxRecDepth 20000 in
theorem ggX11_lay_X11_isPane : GoodIn wsX11_lay wsX11_isPane := goodIn_r _ [8, 1, 9, 33, 34, 35, 36, 37, 38, 39, 40, 41, 42, 43, 44, 45, 46, 47, 48, 49, 50] (by decide +kernel) (by decide +kernel)
set_option maxRecDepth 20000 in
theorem gX11_lay_X11_isPane : GoodIn wsX11_lay (wsV RX11 121 RX11 yX11_isPane wsX11_isPane) := goodIn_app (goodIn_of _ (by decide +kernel)) ggX11_lay_X11_isPane
set_option maxRecDepth 20000 in
theorem ggX11_lay_X3_append : GoodIn wsX11_lay wsX3_append := goodIn_r _ [14, 15, 16, 17, 18, 13, 19, 20, 21, 22, 23, 24, 25, 51, 52, 53, 54, 55] (by decide +kernel) (by decide +kernel)
set_option maxRecDepth 20000 in
theorem gX11_lay_X3_append : GoodIn wsX11_lay (wsV RX11 163 RX3 yX3_append wsX3_append) := goodIn_app (goodIn_of _ (by decide +kernel)) ggX11_lay_X3_append
set_option maxRecDepth 20000 in
theorem ggX11_lay_X10_removePane : GoodIn wsX11_lay wsX10_removePane := goodIn_r _ [30, 31, 32, 45, 46, 47, 48, 49, 50] (by decide +kernel) (by decide +kernel)
set_option maxRecDepth 20000 in
theorem gX11_lay_X10_removePane : GoodIn wsX11_lay (wsV RX11 167 RX10 yX10_removePane wsX10_removePane) := goodIn_app (goodIn_of _ (by decide +kernel)) ggX11_lay_X10_removePane
theorem dX11_lay_0 : decode cX11_lay 0 = .ok (.aload_n 0, 1) := by decide +kernel
theorem dX11_lay_1 : decode cX11_lay 1 = .ok (.iload_n 1, 1) := by decide +kernel
theorem dX11_lay_2 : decode cX11_lay 2 = .ok (.invokevirtual 121, 3) := by decide +kernel
theorem dX11_lay_5 : decode cX11_lay 5 = .ok (.ifCond .eq 16, 3) := by decide +kernel
theorem dX11_lay_8 : decode cX11_lay 8 = .ok (.aload_n 0, 1) := by decide +kernel
theorem dX11_lay_9 : decode cX11_lay 9 = .ok (.iload_n 2, 1) := by decide +kernel
theorem dX11_lay_10 : decode cX11_lay 10 = .ok (.invokevirtual 121, 3) := by decide +kernel
theorem dX11_lay_13 : decode cX11_lay 13 = .ok (.ifCond .eq 8, 3) := by decide +kernel
theorem dX11_lay_16 : decode cX11_lay 16 = .ok (.iload_n 1, 1) := by decide +kernel
theorem dX11_lay_17 : decode cX11_lay 17 = .ok (.iload_n 2, 1) := by decide +kernel
theorem dX11_lay_18 : decode cX11_lay 18 = .ok (.if_icmp .ne 5, 3) := by decide +kernel
theorem dX11_lay_21 : decode cX11_lay 21 = .ok (.iconst (-1), 1) := by decide +kernel
theorem dX11_lay_22 : decode cX11_lay 22 = .ok (.ireturn, 1) := by decide +kernel
theorem dX11_lay_23 : decode cX11_lay 23 = .ok (.aload_n 0, 1) := by decide +kernel
theorem dX11_lay_24 : decode cX11_lay 24 = .ok (.getfield 53, 3) := by decide +kernel
theorem dX11_lay_27 : decode cX11_lay 27 = .ok (.getfield 124, 3) := by decide +kernel
theorem dX11_lay_30 : decode cX11_lay 30 = .ok (.iload_n 1, 1) := by decide +kernel
theorem dX11_lay_31 : decode cX11_lay 31 = .ok (.aaload, 1) := by decide +kernel
theorem dX11_lay_32 : decode cX11_lay 32 = .ok (.astore_n 3, 1) := by decide +kernel
theorem dX11_lay_33 : decode cX11_lay 33 = .ok (.aload_n 0, 1) := by decide +kernel
theorem dX11_lay_34 : decode cX11_lay 34 = .ok (.getfield 53, 3) := by decide +kernel
theorem dX11_lay_37 : decode cX11_lay 37 = .ok (.getfield 124, 3) := by decide +kernel
theorem dX11_lay_40 : decode cX11_lay 40 = .ok (.iload_n 2, 1) := by decide +kernel
theorem dX11_lay_41 : decode cX11_lay 41 = .ok (.aaload, 1) := by decide +kernel
theorem dX11_lay_42 : decode cX11_lay 42 = .ok (.astore 4, 2) := by decide +kernel
theorem dX11_lay_44 : decode cX11_lay 44 = .ok (.aload_n 3, 1) := by decide +kernel
theorem dX11_lay_45 : decode cX11_lay 45 = .ok (.getfield 131, 3) := by decide +kernel
theorem dX11_lay_48 : decode cX11_lay 48 = .ok (.aload 4, 2) := by decide +kernel
theorem dX11_lay_50 : decode cX11_lay 50 = .ok (.getfield 131, 3) := by decide +kernel
theorem dX11_lay_53 : decode cX11_lay 53 = .ok (.iadd, 1) := by decide +kernel
theorem dX11_lay_54 : decode cX11_lay 54 = .ok (.bipush 16, 2) := by decide +kernel
theorem dX11_lay_56 : decode cX11_lay 56 = .ok (.if_icmp .le 6, 3) := by decide +kernel
theorem dX11_lay_59 : decode cX11_lay 59 = .ok (.bipush (-2), 2) := by decide +kernel
theorem dX11_lay_61 : decode cX11_lay 61 = .ok (.ireturn, 1) := by decide +kernel
theorem dX11_lay_62 : decode cX11_lay 62 = .ok (.aload_n 3, 1) := by decide +kernel
theorem dX11_lay_63 : decode cX11_lay 63 = .ok (.aload 4, 2) := by decide +kernel
theorem dX11_lay_65 : decode cX11_lay 65 = .ok (.invokevirtual 163, 3) := by decide +kernel
theorem dX11_lay_68 : decode cX11_lay 68 = .ok (.aload_n 0, 1) := by decide +kernel
theorem dX11_lay_69 : decode cX11_lay 69 = .ok (.getfield 53, 3) := by decide +kernel
theorem dX11_lay_72 : decode cX11_lay 72 = .ok (.iload_n 2, 1) := by decide +kernel
theorem dX11_lay_73 : decode cX11_lay 73 = .ok (.invokevirtual 167, 3) := by decide +kernel
theorem dX11_lay_76 : decode cX11_lay 76 = .ok (.iload_n 1, 1) := by decide +kernel
theorem dX11_lay_77 : decode cX11_lay 77 = .ok (.iload_n 2, 1) := by decide +kernel
theorem dX11_lay_78 : decode cX11_lay 78 = .ok (.if_icmp .le 9, 3) := by decide +kernel
theorem dX11_lay_81 : decode cX11_lay 81 = .ok (.iload_n 1, 1) := by decide +kernel
theorem dX11_lay_82 : decode cX11_lay 82 = .ok (.iconst 1, 1) := by decide +kernel
theorem dX11_lay_83 : decode cX11_lay 83 = .ok (.isub, 1) := by decide +kernel
theorem dX11_lay_84 : decode cX11_lay 84 = .ok (.goto 4, 3) := by decide +kernel
theorem dX11_lay_87 : decode cX11_lay 87 = .ok (.iload_n 1, 1) := by decide +kernel
theorem dX11_lay_88 : decode cX11_lay 88 = .ok (.ireturn, 1) := by decide +kernel
set_option maxRecDepth 20000 in
theorem ggX11_drop_X11_isPane : GoodIn wsX11_drop wsX11_isPane := goodIn_r _ [7, 1, 2, 15, 16, 17, 18, 19, 20, 21, 22, 23, 24, 25, 26, 27, 28, 29, 30, 31, 32] (by decide +kernel) (by decide +kernel)
set_option maxRecDepth 20000 in
theorem gX11_drop_X11_isPane : GoodIn wsX11_drop (wsV RX11 121 RX11 yX11_isPane wsX11_isPane) := goodIn_app (goodIn_of _ (by decide +kernel)) ggX11_drop_X11_isPane
set_option maxRecDepth 20000 in
theorem ggX11_drop_X10_removePane : GoodIn wsX11_drop wsX10_removePane := goodIn_r _ [12, 13, 14, 27, 28, 29, 30, 31, 32] (by decide +kernel) (by decide +kernel)
set_option maxRecDepth 20000 in
theorem gX11_drop_X10_removePane : GoodIn wsX11_drop (wsV RX11 167 RX10 yX10_removePane wsX10_removePane) := goodIn_app (goodIn_of _ (by decide +kernel)) ggX11_drop_X10_removePane
theorem dX11_drop_0 : decode cX11_drop 0 = .ok (.aload_n 0, 1) := by decide +kernel
theorem dX11_drop_1 : decode cX11_drop 1 = .ok (.iload_n 1, 1) := by decide +kernel
theorem dX11_drop_2 : decode cX11_drop 2 = .ok (.invokevirtual 121, 3) := by decide +kernel
theorem dX11_drop_5 : decode cX11_drop 5 = .ok (.ifCond .ne 5, 3) := by decide +kernel
theorem dX11_drop_8 : decode cX11_drop 8 = .ok (.iconst (-1), 1) := by decide +kernel
theorem dX11_drop_9 : decode cX11_drop 9 = .ok (.ireturn, 1) := by decide +kernel
theorem dX11_drop_10 : decode cX11_drop 10 = .ok (.aload_n 0, 1) := by decide +kernel
theorem dX11_drop_11 : decode cX11_drop 11 = .ok (.getfield 53, 3) := by decide +kernel
theorem dX11_drop_14 : decode cX11_drop 14 = .ok (.iload_n 1, 1) := by decide +kernel
theorem dX11_drop_15 : decode cX11_drop 15 = .ok (.invokevirtual 167, 3) := by decide +kernel
theorem dX11_drop_18 : decode cX11_drop 18 = .ok (.aload_n 0, 1) := by decide +kernel
theorem dX11_drop_19 : decode cX11_drop 19 = .ok (.getfield 53, 3) := by decide +kernel
theorem dX11_drop_22 : decode cX11_drop 22 = .ok (.getfield 84, 3) := by decide +kernel
theorem dX11_drop_25 : decode cX11_drop 25 = .ok (.ireturn, 1) := by decide +kernel
set_option maxRecDepth 20000 in
theorem ggX11_dark_X11_isPane : GoodIn wsX11_dark wsX11_isPane := goodIn_r _ [9, 2, 10, 47, 48, 49, 50, 51, 52, 53, 54, 55, 56, 57, 58, 59, 60, 61, 62, 63, 64] (by decide +kernel) (by decide +kernel)
set_option maxRecDepth 20000 in
theorem gX11_dark_X11_isPane : GoodIn wsX11_dark (wsV RX11 121 RX11 yX11_isPane wsX11_isPane) := goodIn_app (goodIn_of _ (by decide +kernel)) ggX11_dark_X11_isPane
set_option maxRecDepth 20000 in
theorem ggX11_dark_X3_copyFrom : GoodIn wsX11_dark wsX3_copyFrom := goodIn_r _ [15, 16, 17, 18, 19, 20, 21, 22, 23, 24, 65, 66, 67, 68, 69] (by decide +kernel) (by decide +kernel)
set_option maxRecDepth 20000 in
theorem gX11_dark_X3_copyFrom : GoodIn wsX11_dark (wsV RX11 171 RX3 yX3_copyFrom wsX3_copyFrom) := goodIn_app (goodIn_of _ (by decide +kernel)) ggX11_dark_X3_copyFrom
set_option maxRecDepth 20000 in
theorem ggX11_dark_X3_last : GoodIn wsX11_dark wsX3_last := goodIn_r _ [28, 17, 29, 30, 31, 14, 32, 20, 19, 65, 66, 67, 68, 69] (by decide +kernel) (by decide +kernel)
set_option maxRecDepth 20000 in
theorem gX11_dark_X3_last : GoodIn wsX11_dark (wsV RX11 174 RX3 yX3_last wsX3_last) := goodIn_app (goodIn_of _ (by decide +kernel)) ggX11_dark_X3_last
set_option maxRecDepth 20000 in
theorem ggX11_dark_X3_passDay : GoodIn wsX11_dark wsX3_passDay := goodIn_r _ [36, 19, 18, 37, 38, 39, 14, 40, 16, 41, 8, 42, 43, 44, 45, 46, 20, 65, 66, 67, 68, 69] (by decide +kernel) (by decide +kernel)
set_option maxRecDepth 20000 in
theorem gX11_dark_X3_passDay : GoodIn wsX11_dark (wsV RX11 177 RX3 yX3_passDay wsX3_passDay) := goodIn_app (goodIn_of _ (by decide +kernel)) ggX11_dark_X3_passDay
theorem dX11_dark_0 : decode cX11_dark 0 = .ok (.aload_n 0, 1) := by decide +kernel
theorem dX11_dark_1 : decode cX11_dark 1 = .ok (.iload_n 1, 1) := by decide +kernel
theorem dX11_dark_2 : decode cX11_dark 2 = .ok (.invokevirtual 121, 3) := by decide +kernel
theorem dX11_dark_5 : decode cX11_dark 5 = .ok (.ifCond .ne 5, 3) := by decide +kernel
theorem dX11_dark_8 : decode cX11_dark 8 = .ok (.iconst (-1), 1) := by decide +kernel
theorem dX11_dark_9 : decode cX11_dark 9 = .ok (.ireturn, 1) := by decide +kernel
theorem dX11_dark_10 : decode cX11_dark 10 = .ok (.aload_n 0, 1) := by decide +kernel
theorem dX11_dark_11 : decode cX11_dark 11 = .ok (.getfield 12, 3) := by decide +kernel
theorem dX11_dark_14 : decode cX11_dark 14 = .ok (.aload_n 0, 1) := by decide +kernel
theorem dX11_dark_15 : decode cX11_dark 15 = .ok (.getfield 53, 3) := by decide +kernel
theorem dX11_dark_18 : decode cX11_dark 18 = .ok (.getfield 124, 3) := by decide +kernel
theorem dX11_dark_21 : decode cX11_dark 21 = .ok (.iload_n 1, 1) := by decide +kernel
theorem dX11_dark_22 : decode cX11_dark 22 = .ok (.aaload, 1) := by decide +kernel
theorem dX11_dark_23 : decode cX11_dark 23 = .ok (.invokevirtual 171, 3) := by decide +kernel
theorem dX11_dark_26 : decode cX11_dark 26 = .ok (.aload_n 0, 1) := by decide +kernel
theorem dX11_dark_27 : decode cX11_dark 27 = .ok (.getfield 53, 3) := by decide +kernel
theorem dX11_dark_30 : decode cX11_dark 30 = .ok (.getfield 140, 3) := by decide +kernel
theorem dX11_dark_33 : decode cX11_dark 33 = .ok (.istore_n 2, 1) := by decide +kernel
theorem dX11_dark_34 : decode cX11_dark 34 = .ok (.iload_n 2, 1) := by decide +kernel
theorem dX11_dark_35 : decode cX11_dark 35 = .ok (.bipush 50, 2) := by decide +kernel
theorem dX11_dark_37 : decode cX11_dark 37 = .ok (.if_icmp .ge 31, 3) := by decide +kernel
theorem dX11_dark_40 : decode cX11_dark 40 = .ok (.aload_n 0, 1) := by decide +kernel
theorem dX11_dark_41 : decode cX11_dark 41 = .ok (.getfield 12, 3) := by decide +kernel
theorem dX11_dark_44 : decode cX11_dark 44 = .ok (.invokevirtual 174, 3) := by decide +kernel
theorem dX11_dark_47 : decode cX11_dark 47 = .ok (.bipush (-9), 2) := by decide +kernel
theorem dX11_dark_49 : decode cX11_dark 49 = .ok (.if_icmp .eq 5, 3) := by decide +kernel
theorem dX11_dark_52 : decode cX11_dark 52 = .ok (.iload_n 2, 1) := by decide +kernel
theorem dX11_dark_53 : decode cX11_dark 53 = .ok (.ireturn, 1) := by decide +kernel
theorem dX11_dark_54 : decode cX11_dark 54 = .ok (.aload_n 0, 1) := by decide +kernel
theorem dX11_dark_55 : decode cX11_dark 55 = .ok (.getfield 12, 3) := by decide +kernel
theorem dX11_dark_58 : decode cX11_dark 58 = .ok (.iload_n 2, 1) := by decide +kernel
theorem dX11_dark_59 : decode cX11_dark 59 = .ok (.invokevirtual 177, 3) := by decide +kernel
theorem dX11_dark_62 : decode cX11_dark 62 = .ok (.iinc 2 1, 3) := by decide +kernel
theorem dX11_dark_65 : decode cX11_dark 65 = .ok (.goto (-31), 3) := by decide +kernel
theorem dX11_dark_68 : decode cX11_dark 68 = .ok (.bipush (-3), 2) := by decide +kernel
theorem dX11_dark_70 : decode cX11_dark 70 = .ok (.ireturn, 1) := by decide +kernel
set_option maxRecDepth 20000 in
theorem ggX11_seen_X11_isPlace : GoodIn wsX11_seen wsX11_isPlace := goodIn_r _ [6] (by decide +kernel) (by decide +kernel)
set_option maxRecDepth 20000 in
theorem gX11_seen_X11_isPlace : GoodIn wsX11_seen (va_wsS RX11 87 yX11_isPlace wsX11_isPlace) := goodIn_app (goodIn_of _ (by decide +kernel)) ggX11_seen_X11_isPlace
set_option maxRecDepth 20000 in
theorem ggX11_seen_X11_isDay : GoodIn wsX11_seen wsX11_isDay := goodIn_r _ [9] (by decide +kernel) (by decide +kernel)
set_option maxRecDepth 20000 in
theorem gX11_seen_X11_isDay : GoodIn wsX11_seen (va_wsS RX11 91 yX11_isDay wsX11_isDay) := goodIn_app (goodIn_of _ (by decide +kernel)) ggX11_seen_X11_isDay
set_option maxRecDepth 20000 in
theorem ggX11_seen_X11_glimpseOf : GoodIn wsX11_seen wsX11_glimpseOf := goodIn_r _ [12] (by decide +kernel) (by decide +kernel)
set_option maxRecDepth 20000 in
theorem gX11_seen_X11_glimpseOf : GoodIn wsX11_seen (va_wsS RX11 179 yX11_glimpseOf wsX11_glimpseOf) := goodIn_app (goodIn_of _ (by decide +kernel)) ggX11_seen_X11_glimpseOf
set_option maxRecDepth 20000 in
theorem ggX11_seen_X11_firstDayOf : GoodIn wsX11_seen wsX11_firstDayOf := goodIn_r _ [16, 17, 1, 18, 19, 20, 21, 22, 23, 24, 25, 26, 27, 28, 29, 30, 31, 32, 33, 34, 35, 36, 37, 38, 39, 40, 41, 42, 43, 44, 45, 46, 47, 48, 49, 11, 5, 12, 50, 51, 52, 53, 54, 55, 56, 57, 58, 59, 60, 61, 62, 63, 64, 65, 66, 67, 68, 69, 70, 71, 72, 73, 74, 75, 76] (by decide +kernel) (by decide +kernel)
set_option maxRecDepth 20000 in
theorem gX11_seen_X11_firstDayOf : GoodIn wsX11_seen (wsV RX11 182 RX11 yX11_firstDayOf wsX11_firstDayOf) := goodIn_app (goodIn_of _ (by decide +kernel)) ggX11_seen_X11_firstDayOf
theorem dX11_seen_0 : decode cX11_seen 0 = .ok (.iload_n 1, 1) := by decide +kernel
theorem dX11_seen_1 : decode cX11_seen 1 = .ok (.invokestatic 87, 3) := by decide +kernel
theorem dX11_seen_4 : decode cX11_seen 4 = .ok (.ifCond .eq 19, 3) := by decide +kernel
theorem dX11_seen_7 : decode cX11_seen 7 = .ok (.iload_n 2, 1) := by decide +kernel
theorem dX11_seen_8 : decode cX11_seen 8 = .ok (.invokestatic 91, 3) := by decide +kernel
theorem dX11_seen_11 : decode cX11_seen 11 = .ok (.ifCond .eq 12, 3) := by decide +kernel
theorem dX11_seen_14 : decode cX11_seen 14 = .ok (.iload_n 3, 1) := by decide +kernel
theorem dX11_seen_15 : decode cX11_seen 15 = .ok (.ifCond .lt 8, 3) := by decide +kernel
theorem dX11_seen_18 : decode cX11_seen 18 = .ok (.iload_n 3, 1) := by decide +kernel
theorem dX11_seen_19 : decode cX11_seen 19 = .ok (.iconst 1, 1) := by decide +kernel
theorem dX11_seen_20 : decode cX11_seen 20 = .ok (.if_icmp .le 5, 3) := by decide +kernel
theorem dX11_seen_23 : decode cX11_seen 23 = .ok (.iconst (-1), 1) := by decide +kernel
theorem dX11_seen_24 : decode cX11_seen 24 = .ok (.ireturn, 1) := by decide +kernel
theorem dX11_seen_25 : decode cX11_seen 25 = .ok (.iload_n 1, 1) := by decide +kernel
theorem dX11_seen_26 : decode cX11_seen 26 = .ok (.iload_n 2, 1) := by decide +kernel
theorem dX11_seen_27 : decode cX11_seen 27 = .ok (.invokestatic 179, 3) := by decide +kernel
theorem dX11_seen_30 : decode cX11_seen 30 = .ok (.istore 4, 2) := by decide +kernel
theorem dX11_seen_32 : decode cX11_seen 32 = .ok (.bipush 50, 2) := by decide +kernel
theorem dX11_seen_34 : decode cX11_seen 34 = .ok (.istore 5, 2) := by decide +kernel
theorem dX11_seen_36 : decode cX11_seen 36 = .ok (.iconst (-1), 1) := by decide +kernel
theorem dX11_seen_37 : decode cX11_seen 37 = .ok (.istore 6, 2) := by decide +kernel
theorem dX11_seen_39 : decode cX11_seen 39 = .ok (.iconst 0, 1) := by decide +kernel
theorem dX11_seen_40 : decode cX11_seen 40 = .ok (.istore 7, 2) := by decide +kernel
theorem dX11_seen_42 : decode cX11_seen 42 = .ok (.iload 7, 2) := by decide +kernel
theorem dX11_seen_44 : decode cX11_seen 44 = .ok (.aload_n 0, 1) := by decide +kernel
theorem dX11_seen_45 : decode cX11_seen 45 = .ok (.getfield 53, 3) := by decide +kernel
theorem dX11_seen_48 : decode cX11_seen 48 = .ok (.getfield 84, 3) := by decide +kernel
theorem dX11_seen_51 : decode cX11_seen 51 = .ok (.if_icmp .ge 34, 3) := by decide +kernel
theorem dX11_seen_54 : decode cX11_seen 54 = .ok (.aload_n 0, 1) := by decide +kernel
theorem dX11_seen_55 : decode cX11_seen 55 = .ok (.iload 7, 2) := by decide +kernel
theorem dX11_seen_57 : decode cX11_seen 57 = .ok (.iload 4, 2) := by decide +kernel
theorem dX11_seen_59 : decode cX11_seen 59 = .ok (.invokevirtual 182, 3) := by decide +kernel
theorem dX11_seen_62 : decode cX11_seen 62 = .ok (.istore 8, 2) := by decide +kernel
theorem dX11_seen_64 : decode cX11_seen 64 = .ok (.iload 8, 2) := by decide +kernel
theorem dX11_seen_66 : decode cX11_seen 66 = .ok (.iload 5, 2) := by decide +kernel
theorem dX11_seen_68 : decode cX11_seen 68 = .ok (.if_icmp .ge 11, 3) := by decide +kernel
theorem dX11_seen_71 : decode cX11_seen 71 = .ok (.iload 8, 2) := by decide +kernel
theorem dX11_seen_73 : decode cX11_seen 73 = .ok (.istore 5, 2) := by decide +kernel
theorem dX11_seen_75 : decode cX11_seen 75 = .ok (.iload 7, 2) := by decide +kernel
theorem dX11_seen_77 : decode cX11_seen 77 = .ok (.istore 6, 2) := by decide +kernel
theorem dX11_seen_79 : decode cX11_seen 79 = .ok (.iinc 7 1, 3) := by decide +kernel
theorem dX11_seen_82 : decode cX11_seen 82 = .ok (.goto (-40), 3) := by decide +kernel
theorem dX11_seen_85 : decode cX11_seen 85 = .ok (.iload 6, 2) := by decide +kernel
theorem dX11_seen_87 : decode cX11_seen 87 = .ok (.iconst (-1), 1) := by decide +kernel
theorem dX11_seen_88 : decode cX11_seen 88 = .ok (.if_icmp .ne 6, 3) := by decide +kernel
theorem dX11_seen_91 : decode cX11_seen 91 = .ok (.bipush (-3), 2) := by decide +kernel
theorem dX11_seen_93 : decode cX11_seen 93 = .ok (.ireturn, 1) := by decide +kernel
theorem dX11_seen_94 : decode cX11_seen 94 = .ok (.iload_n 3, 1) := by decide +kernel
theorem dX11_seen_95 : decode cX11_seen 95 = .ok (.ifCond .ne 8, 3) := by decide +kernel
theorem dX11_seen_98 : decode cX11_seen 98 = .ok (.iload 5, 2) := by decide +kernel
theorem dX11_seen_100 : decode cX11_seen 100 = .ok (.goto 5, 3) := by decide +kernel
theorem dX11_seen_103 : decode cX11_seen 103 = .ok (.iload 6, 2) := by decide +kernel
theorem dX11_seen_105 : decode cX11_seen 105 = .ok (.ireturn, 1) := by decide +kernel
set_option maxRecDepth 20000 in
theorem ggX11_worth_X11_isPane : GoodIn wsX11_worth wsX11_isPane := goodIn_r _ [5, 6, 7, 89, 90, 91, 92, 93, 94, 95, 96, 97, 98, 99, 100, 101, 102, 103, 104, 105, 106] (by decide +kernel) (by decide +kernel)
set_option maxRecDepth 20000 in
theorem gX11_worth_X11_isPane : GoodIn wsX11_worth (wsV RX11 121 RX11 yX11_isPane wsX11_isPane) := goodIn_app (goodIn_of _ (by decide +kernel)) ggX11_worth_X11_isPane
set_option maxRecDepth 20000 in
theorem ggX11_worth_X11_isLooker : GoodIn wsX11_worth wsX11_isLooker := goodIn_r _ [10] (by decide +kernel) (by decide +kernel)
set_option maxRecDepth 20000 in
theorem gX11_worth_X11_isLooker : GoodIn wsX11_worth (va_wsS RX11 101 yX11_isLooker wsX11_isLooker) := goodIn_app (goodIn_of _ (by decide +kernel)) ggX11_worth_X11_isLooker
set_option maxRecDepth 20000 in
theorem ggX11_worth_X11_isTrialLength : GoodIn wsX11_worth wsX11_isTrialLength := goodIn_r _ [13] (by decide +kernel) (by decide +kernel)
set_option maxRecDepth 20000 in
theorem gX11_worth_X11_isTrialLength : GoodIn wsX11_worth (va_wsS RX11 185 yX11_isTrialLength wsX11_isTrialLength) := goodIn_app (goodIn_of _ (by decide +kernel)) ggX11_worth_X11_isTrialLength
set_option maxRecDepth 20000 in
theorem ggX11_worth_X11_worthAsIs : GoodIn wsX11_worth wsX11_worthAsIs := goodIn_r _ [17, 18, 6, 19, 20, 21, 22, 23, 24, 25, 26, 27, 28, 29, 30, 31, 32, 33, 34, 35, 36, 37, 38, 39, 40, 41, 42, 43, 44, 45, 46, 47, 48, 49, 50, 51, 52, 53, 54, 55, 56, 57, 58, 59, 60, 61, 62, 4, 63, 64, 65, 66, 67, 68, 69, 70, 71, 72, 73, 74, 75, 76, 77, 78, 79, 80, 81, 82, 83, 84, 85, 86, 87, 88, 89, 90, 91, 92, 93, 94, 95, 96, 97, 98, 99, 100, 101, 102, 103, 104, 105, 106, 107, 108, 109, 110, 111] (by decide +kernel) (by decide +kernel)
set_option maxRecDepth 20000 in
theorem gX11_worth_X11_worthAsIs : GoodIn wsX11_worth (wsV RX11 188 RX11 yX11_worthAsIs wsX11_worthAsIs) := goodIn_app (goodIn_of _ (by decide +kernel)) ggX11_worth_X11_worthAsIs
theorem dX11_worth_0 : decode cX11_worth 0 = .ok (.aload_n 0, 1) := by decide +kernel
theorem dX11_worth_1 : decode cX11_worth 1 = .ok (.iload_n 1, 1) := by decide +kernel
theorem dX11_worth_2 : decode cX11_worth 2 = .ok (.invokevirtual 121, 3) := by decide +kernel
theorem dX11_worth_5 : decode cX11_worth 5 = .ok (.ifCond .eq 17, 3) := by decide +kernel
theorem dX11_worth_8 : decode cX11_worth 8 = .ok (.iload_n 2, 1) := by decide +kernel
theorem dX11_worth_9 : decode cX11_worth 9 = .ok (.invokestatic 101, 3) := by decide +kernel
theorem dX11_worth_12 : decode cX11_worth 12 = .ok (.ifCond .eq 10, 3) := by decide +kernel
theorem dX11_worth_15 : decode cX11_worth 15 = .ok (.iload_n 3, 1) := by decide +kernel
theorem dX11_worth_16 : decode cX11_worth 16 = .ok (.invokestatic 185, 3) := by decide +kernel
theorem dX11_worth_19 : decode cX11_worth 19 = .ok (.ifCond .ne 5, 3) := by decide +kernel
theorem dX11_worth_22 : decode cX11_worth 22 = .ok (.iconst (-1), 1) := by decide +kernel
theorem dX11_worth_23 : decode cX11_worth 23 = .ok (.ireturn, 1) := by decide +kernel
theorem dX11_worth_24 : decode cX11_worth 24 = .ok (.aload_n 0, 1) := by decide +kernel
theorem dX11_worth_25 : decode cX11_worth 25 = .ok (.iload_n 1, 1) := by decide +kernel
theorem dX11_worth_26 : decode cX11_worth 26 = .ok (.iload_n 2, 1) := by decide +kernel
theorem dX11_worth_27 : decode cX11_worth 27 = .ok (.iload_n 3, 1) := by decide +kernel
theorem dX11_worth_28 : decode cX11_worth 28 = .ok (.invokevirtual 188, 3) := by decide +kernel
theorem dX11_worth_31 : decode cX11_worth 31 = .ok (.ireturn, 1) := by decide +kernel
set_option maxRecDepth 20000 in
theorem ggX11_buy_X11_isLooker : GoodIn wsX11_buy wsX11_isLooker := goodIn_r _ [6] (by decide +kernel) (by decide +kernel)
set_option maxRecDepth 20000 in
theorem gX11_buy_X11_isLooker : GoodIn wsX11_buy (va_wsS RX11 101 yX11_isLooker wsX11_isLooker) := goodIn_app (goodIn_of _ (by decide +kernel)) ggX11_buy_X11_isLooker
set_option maxRecDepth 20000 in
theorem ggX11_buy_X11_isTrialLength : GoodIn wsX11_buy wsX11_isTrialLength := goodIn_r _ [9] (by decide +kernel) (by decide +kernel)
set_option maxRecDepth 20000 in
theorem gX11_buy_X11_isTrialLength : GoodIn wsX11_buy (va_wsS RX11 185 yX11_isTrialLength wsX11_isTrialLength) := goodIn_app (goodIn_of _ (by decide +kernel)) ggX11_buy_X11_isTrialLength
set_option maxRecDepth 20000 in
theorem ggX11_buy_X11_worthAsIs : GoodIn wsX11_buy wsX11_worthAsIs := goodIn_r _ [13, 14, 1, 15, 16, 17, 18, 19, 20, 21, 22, 23, 24, 25, 26, 27, 28, 29, 30, 31, 32, 33, 34, 35, 36, 37, 38, 39, 40, 41, 42, 43, 44, 45, 46, 47, 48, 49, 50, 51, 52, 53, 54, 55, 56, 57, 58, 5, 59, 60, 61, 62, 63, 64, 65, 66, 67, 68, 69, 70, 71, 72, 73, 74, 75, 76, 77, 78, 79, 80, 81, 82, 83, 84, 85, 86, 87, 88, 89, 90, 91, 92, 93, 94, 95, 96, 97, 98, 99, 100, 101, 102, 103, 104, 105, 106, 107] (by decide +kernel) (by decide +kernel)
set_option maxRecDepth 20000 in
theorem gX11_buy_X11_worthAsIs : GoodIn wsX11_buy (wsV RX11 188 RX11 yX11_worthAsIs wsX11_worthAsIs) := goodIn_app (goodIn_of _ (by decide +kernel)) ggX11_buy_X11_worthAsIs
theorem dX11_buy_0 : decode cX11_buy 0 = .ok (.iload_n 1, 1) := by decide +kernel
theorem dX11_buy_1 : decode cX11_buy 1 = .ok (.invokestatic 101, 3) := by decide +kernel
theorem dX11_buy_4 : decode cX11_buy 4 = .ok (.ifCond .eq 10, 3) := by decide +kernel
theorem dX11_buy_7 : decode cX11_buy 7 = .ok (.iload_n 2, 1) := by decide +kernel
theorem dX11_buy_8 : decode cX11_buy 8 = .ok (.invokestatic 185, 3) := by decide +kernel
theorem dX11_buy_11 : decode cX11_buy 11 = .ok (.ifCond .ne 5, 3) := by decide +kernel
theorem dX11_buy_14 : decode cX11_buy 14 = .ok (.iconst (-1), 1) := by decide +kernel
theorem dX11_buy_15 : decode cX11_buy 15 = .ok (.ireturn, 1) := by decide +kernel
theorem dX11_buy_16 : decode cX11_buy 16 = .ok (.bipush (-3), 2) := by decide +kernel
theorem dX11_buy_18 : decode cX11_buy 18 = .ok (.istore_n 3, 1) := by decide +kernel
theorem dX11_buy_19 : decode cX11_buy 19 = .ok (.iconst (-1), 1) := by decide +kernel
theorem dX11_buy_20 : decode cX11_buy 20 = .ok (.istore 4, 2) := by decide +kernel
theorem dX11_buy_22 : decode cX11_buy 22 = .ok (.iconst 0, 1) := by decide +kernel
theorem dX11_buy_23 : decode cX11_buy 23 = .ok (.istore 5, 2) := by decide +kernel
theorem dX11_buy_25 : decode cX11_buy 25 = .ok (.iload 5, 2) := by decide +kernel
theorem dX11_buy_27 : decode cX11_buy 27 = .ok (.aload_n 0, 1) := by decide +kernel
theorem dX11_buy_28 : decode cX11_buy 28 = .ok (.getfield 53, 3) := by decide +kernel
theorem dX11_buy_31 : decode cX11_buy 31 = .ok (.getfield 84, 3) := by decide +kernel
theorem dX11_buy_34 : decode cX11_buy 34 = .ok (.if_icmp .ge 33, 3) := by decide +kernel
theorem dX11_buy_37 : decode cX11_buy 37 = .ok (.aload_n 0, 1) := by decide +kernel
theorem dX11_buy_38 : decode cX11_buy 38 = .ok (.iload 5, 2) := by decide +kernel
theorem dX11_buy_40 : decode cX11_buy 40 = .ok (.iload_n 1, 1) := by decide +kernel
theorem dX11_buy_41 : decode cX11_buy 41 = .ok (.iload_n 2, 1) := by decide +kernel
theorem dX11_buy_42 : decode cX11_buy 42 = .ok (.invokevirtual 188, 3) := by decide +kernel
theorem dX11_buy_45 : decode cX11_buy 45 = .ok (.istore 6, 2) := by decide +kernel
theorem dX11_buy_47 : decode cX11_buy 47 = .ok (.iload 6, 2) := by decide +kernel
theorem dX11_buy_49 : decode cX11_buy 49 = .ok (.iload 4, 2) := by decide +kernel
theorem dX11_buy_51 : decode cX11_buy 51 = .ok (.if_icmp .le 10, 3) := by decide +kernel
theorem dX11_buy_54 : decode cX11_buy 54 = .ok (.iload 6, 2) := by decide +kernel
theorem dX11_buy_56 : decode cX11_buy 56 = .ok (.istore 4, 2) := by decide +kernel
theorem dX11_buy_58 : decode cX11_buy 58 = .ok (.iload 5, 2) := by decide +kernel
theorem dX11_buy_60 : decode cX11_buy 60 = .ok (.istore_n 3, 1) := by decide +kernel
theorem dX11_buy_61 : decode cX11_buy 61 = .ok (.iinc 5 1, 3) := by decide +kernel
theorem dX11_buy_64 : decode cX11_buy 64 = .ok (.goto (-39), 3) := by decide +kernel
theorem dX11_buy_67 : decode cX11_buy 67 = .ok (.iload_n 3, 1) := by decide +kernel
theorem dX11_buy_68 : decode cX11_buy 68 = .ok (.ireturn, 1) := by decide +kernel
set_option maxRecDepth 20000 in
theorem ggX11_let_X11_isPane : GoodIn wsX11_let wsX11_isPane := goodIn_r _ [9, 2, 10, 86, 87, 88, 89, 90, 91, 92, 93, 94, 95, 96, 97, 98, 99, 100, 101, 102, 103] (by decide +kernel) (by decide +kernel)
set_option maxRecDepth 20000 in
theorem gX11_let_X11_isPane : GoodIn wsX11_let (wsV RX11 121 RX11 yX11_isPane wsX11_isPane) := goodIn_app (goodIn_of _ (by decide +kernel)) ggX11_let_X11_isPane
set_option maxRecDepth 20000 in
theorem ggX11_let_X11_isLooker : GoodIn wsX11_let wsX11_isLooker := goodIn_r _ [13] (by decide +kernel) (by decide +kernel)
set_option maxRecDepth 20000 in
theorem gX11_let_X11_isLooker : GoodIn wsX11_let (va_wsS RX11 101 yX11_isLooker wsX11_isLooker) := goodIn_app (goodIn_of _ (by decide +kernel)) ggX11_let_X11_isLooker
set_option maxRecDepth 20000 in
theorem ggX11_let_X11_isTrialLength : GoodIn wsX11_let wsX11_isTrialLength := goodIn_r _ [16] (by decide +kernel) (by decide +kernel)
set_option maxRecDepth 20000 in
theorem gX11_let_X11_isTrialLength : GoodIn wsX11_let (va_wsS RX11 185 yX11_isTrialLength wsX11_isTrialLength) := goodIn_app (goodIn_of _ (by decide +kernel)) ggX11_let_X11_isTrialLength
set_option maxRecDepth 20000 in
theorem ggX11_let_X3_copyFrom : GoodIn wsX11_let wsX3_copyFrom := goodIn_r _ [21, 22, 23, 24, 25, 26, 27, 28, 29, 30, 104, 105, 106, 107, 108] (by decide +kernel) (by decide +kernel)
set_option maxRecDepth 20000 in
theorem gX11_let_X3_copyFrom : GoodIn wsX11_let (wsV RX11 171 RX3 yX3_copyFrom wsX3_copyFrom) := goodIn_app (goodIn_of _ (by decide +kernel)) ggX11_let_X3_copyFrom
set_option maxRecDepth 20000 in
theorem ggX11_let_X10_worthOf : GoodIn wsX11_let wsX10_worthOf := goodIn_r _ [35, 36, 37, 38, 39, 40, 41, 42, 43, 34, 44, 45, 46, 47, 48, 20, 49, 23, 50, 51, 52, 53, 26, 25, 54, 55, 56, 57, 58, 59, 8, 60, 61, 62, 63, 64, 65, 66, 67, 68, 69, 70, 71, 72, 73, 74, 75, 24, 76, 77, 78, 79, 22, 80, 81, 82, 83, 84, 85, 98, 99, 100, 101, 102, 103, 104, 105, 106, 107, 108] (by decide +kernel) (by decide +kernel)
set_option maxRecDepth 20000 in
theorem gX11_let_X10_worthOf : GoodIn wsX11_let (wsV RX11 192 RX10 yX10_worthOf wsX10_worthOf) := goodIn_app (goodIn_of _ (by decide +kernel)) ggX11_let_X10_worthOf
theorem dX11_let_0 : decode cX11_let 0 = .ok (.aload_n 0, 1) := by decide +kernel
theorem dX11_let_1 : decode cX11_let 1 = .ok (.iload_n 1, 1) := by decide +kernel
theorem dX11_let_2 : decode cX11_let 2 = .ok (.invokevirtual 121, 3) := by decide +kernel
theorem dX11_let_5 : decode cX11_let 5 = .ok (.ifCond .eq 17, 3) := by decide +kernel
theorem dX11_let_8 : decode cX11_let 8 = .ok (.iload_n 2, 1) := by decide +kernel
theorem dX11_let_9 : decode cX11_let 9 = .ok (.invokestatic 101, 3) := by decide +kernel
theorem dX11_let_12 : decode cX11_let 12 = .ok (.ifCond .eq 10, 3) := by decide +kernel
theorem dX11_let_15 : decode cX11_let 15 = .ok (.iload_n 3, 1) := by decide +kernel
theorem dX11_let_16 : decode cX11_let 16 = .ok (.invokestatic 185, 3) := by decide +kernel
theorem dX11_let_19 : decode cX11_let 19 = .ok (.ifCond .ne 5, 3) := by decide +kernel
theorem dX11_let_22 : decode cX11_let 22 = .ok (.iconst (-1), 1) := by decide +kernel
theorem dX11_let_23 : decode cX11_let 23 = .ok (.ireturn, 1) := by decide +kernel
theorem dX11_let_24 : decode cX11_let 24 = .ok (.iconst 0, 1) := by decide +kernel
theorem dX11_let_25 : decode cX11_let 25 = .ok (.istore 4, 2) := by decide +kernel
theorem dX11_let_27 : decode cX11_let 27 = .ok (.iconst (-1), 1) := by decide +kernel
theorem dX11_let_28 : decode cX11_let 28 = .ok (.istore 5, 2) := by decide +kernel
theorem dX11_let_30 : decode cX11_let 30 = .ok (.iconst 0, 1) := by decide +kernel
theorem dX11_let_31 : decode cX11_let 31 = .ok (.istore 6, 2) := by decide +kernel
theorem dX11_let_33 : decode cX11_let 33 = .ok (.iload 6, 2) := by decide +kernel
theorem dX11_let_35 : decode cX11_let 35 = .ok (.iconst 4, 1) := by decide +kernel
theorem dX11_let_36 : decode cX11_let 36 = .ok (.if_icmp .gt 64, 3) := by decide +kernel
theorem dX11_let_39 : decode cX11_let 39 = .ok (.aload_n 0, 1) := by decide +kernel
theorem dX11_let_40 : decode cX11_let 40 = .ok (.getfield 12, 3) := by decide +kernel
theorem dX11_let_43 : decode cX11_let 43 = .ok (.aload_n 0, 1) := by decide +kernel
theorem dX11_let_44 : decode cX11_let 44 = .ok (.getfield 53, 3) := by decide +kernel
theorem dX11_let_47 : decode cX11_let 47 = .ok (.getfield 124, 3) := by decide +kernel
theorem dX11_let_50 : decode cX11_let 50 = .ok (.iload_n 1, 1) := by decide +kernel
theorem dX11_let_51 : decode cX11_let 51 = .ok (.aaload, 1) := by decide +kernel
theorem dX11_let_52 : decode cX11_let 52 = .ok (.invokevirtual 171, 3) := by decide +kernel
theorem dX11_let_55 : decode cX11_let 55 = .ok (.aload_n 0, 1) := by decide +kernel
theorem dX11_let_56 : decode cX11_let 56 = .ok (.getfield 12, 3) := by decide +kernel
theorem dX11_let_59 : decode cX11_let 59 = .ok (.iload 6, 2) := by decide +kernel
theorem dX11_let_61 : decode cX11_let 61 = .ok (.putfield 150, 3) := by decide +kernel
theorem dX11_let_64 : decode cX11_let 64 = .ok (.aload_n 0, 1) := by decide +kernel
theorem dX11_let_65 : decode cX11_let 65 = .ok (.getfield 53, 3) := by decide +kernel
theorem dX11_let_68 : decode cX11_let 68 = .ok (.aload_n 0, 1) := by decide +kernel
theorem dX11_let_69 : decode cX11_let 69 = .ok (.getfield 12, 3) := by decide +kernel
theorem dX11_let_72 : decode cX11_let 72 = .ok (.iload_n 2, 1) := by decide +kernel
theorem dX11_let_73 : decode cX11_let 73 = .ok (.iload_n 3, 1) := by decide +kernel
theorem dX11_let_74 : decode cX11_let 74 = .ok (.invokevirtual 192, 3) := by decide +kernel
theorem dX11_let_77 : decode cX11_let 77 = .ok (.istore 7, 2) := by decide +kernel
theorem dX11_let_79 : decode cX11_let 79 = .ok (.iload 7, 2) := by decide +kernel
theorem dX11_let_81 : decode cX11_let 81 = .ok (.iload 5, 2) := by decide +kernel
theorem dX11_let_83 : decode cX11_let 83 = .ok (.if_icmp .le 11, 3) := by decide +kernel
theorem dX11_let_86 : decode cX11_let 86 = .ok (.iload 7, 2) := by decide +kernel
theorem dX11_let_88 : decode cX11_let 88 = .ok (.istore 5, 2) := by decide +kernel
theorem dX11_let_90 : decode cX11_let 90 = .ok (.iload 6, 2) := by decide +kernel
theorem dX11_let_92 : decode cX11_let 92 = .ok (.istore 4, 2) := by decide +kernel
theorem dX11_let_94 : decode cX11_let 94 = .ok (.iinc 6 1, 3) := by decide +kernel
theorem dX11_let_97 : decode cX11_let 97 = .ok (.goto (-64), 3) := by decide +kernel
theorem dX11_let_100 : decode cX11_let 100 = .ok (.iload 4, 2) := by decide +kernel
theorem dX11_let_102 : decode cX11_let 102 = .ok (.ireturn, 1) := by decide +kernel
set_option maxRecDepth 20000 in
theorem ggX11_best_X11_isPane : GoodIn wsX11_best wsX11_isPane := goodIn_r _ [8, 1, 9, 98, 99, 100, 101, 102, 103, 104, 105, 106, 107, 108, 109, 110, 111, 112, 113, 114, 115] (by decide +kernel) (by decide +kernel)
set_option maxRecDepth 20000 in
theorem gX11_best_X11_isPane : GoodIn wsX11_best (wsV RX11 121 RX11 yX11_isPane wsX11_isPane) := goodIn_app (goodIn_of _ (by decide +kernel)) ggX11_best_X11_isPane
set_option maxRecDepth 20000 in
theorem ggX11_best_X11_isLooker : GoodIn wsX11_best wsX11_isLooker := goodIn_r _ [12] (by decide +kernel) (by decide +kernel)
set_option maxRecDepth 20000 in
theorem gX11_best_X11_isLooker : GoodIn wsX11_best (va_wsS RX11 101 yX11_isLooker wsX11_isLooker) := goodIn_app (goodIn_of _ (by decide +kernel)) ggX11_best_X11_isLooker
set_option maxRecDepth 20000 in
theorem ggX11_best_X11_isTrialLength : GoodIn wsX11_best wsX11_isTrialLength := goodIn_r _ [15] (by decide +kernel) (by decide +kernel)
set_option maxRecDepth 20000 in
theorem gX11_best_X11_isTrialLength : GoodIn wsX11_best (va_wsS RX11 185 yX11_isTrialLength wsX11_isTrialLength) := goodIn_app (goodIn_of _ (by decide +kernel)) ggX11_best_X11_isTrialLength
set_option maxRecDepth 20000 in
theorem ggX11_best_X11_worthCut : GoodIn wsX11_best wsX11_worthCut := goodIn_r _ [19, 20, 3, 1, 21, 22, 23, 24, 25, 26, 27, 28, 29, 30, 31, 32, 33, 34, 35, 36, 37, 38, 39, 40, 41, 42, 43, 44, 45, 46, 47, 48, 49, 50, 51, 52, 53, 54, 55, 56, 57, 58, 59, 60, 61, 62, 63, 7, 64, 65, 66, 67, 68, 69, 70, 71, 72, 73, 74, 75, 76, 77, 78, 79, 80, 81, 82, 83, 84, 85, 86, 87, 88, 89, 90, 91, 92, 93, 94, 95, 96, 97, 98, 99, 100, 101, 102, 103, 104, 105, 106, 107, 108, 109, 116, 117, 118, 119, 120, 110, 111, 112, 113, 114, 115] (by decide +kernel) (by decide +kernel)
set_option maxRecDepth 20000 in
theorem gX11_best_X11_worthCut : GoodIn wsX11_best (wsV RX11 196 RX11 yX11_worthCut wsX11_worthCut) := goodIn_app (goodIn_of _ (by decide +kernel)) ggX11_best_X11_worthCut
theorem dX11_best_0 : decode cX11_best 0 = .ok (.aload_n 0, 1) := by decide +kernel
theorem dX11_best_1 : decode cX11_best 1 = .ok (.iload_n 1, 1) := by decide +kernel
theorem dX11_best_2 : decode cX11_best 2 = .ok (.invokevirtual 121, 3) := by decide +kernel
theorem dX11_best_5 : decode cX11_best 5 = .ok (.ifCond .eq 17, 3) := by decide +kernel
theorem dX11_best_8 : decode cX11_best 8 = .ok (.iload_n 2, 1) := by decide +kernel
theorem dX11_best_9 : decode cX11_best 9 = .ok (.invokestatic 101, 3) := by decide +kernel
theorem dX11_best_12 : decode cX11_best 12 = .ok (.ifCond .eq 10, 3) := by decide +kernel
theorem dX11_best_15 : decode cX11_best 15 = .ok (.iload_n 3, 1) := by decide +kernel
theorem dX11_best_16 : decode cX11_best 16 = .ok (.invokestatic 185, 3) := by decide +kernel
theorem dX11_best_19 : decode cX11_best 19 = .ok (.ifCond .ne 5, 3) := by decide +kernel
theorem dX11_best_22 : decode cX11_best 22 = .ok (.iconst (-1), 1) := by decide +kernel
theorem dX11_best_23 : decode cX11_best 23 = .ok (.ireturn, 1) := by decide +kernel
theorem dX11_best_24 : decode cX11_best 24 = .ok (.bipush (-3), 2) := by decide +kernel
theorem dX11_best_26 : decode cX11_best 26 = .ok (.istore 4, 2) := by decide +kernel
theorem dX11_best_28 : decode cX11_best 28 = .ok (.iconst (-1), 1) := by decide +kernel
theorem dX11_best_29 : decode cX11_best 29 = .ok (.istore 5, 2) := by decide +kernel
theorem dX11_best_31 : decode cX11_best 31 = .ok (.iconst 1, 1) := by decide +kernel
theorem dX11_best_32 : decode cX11_best 32 = .ok (.istore 6, 2) := by decide +kernel
theorem dX11_best_34 : decode cX11_best 34 = .ok (.iload 6, 2) := by decide +kernel
theorem dX11_best_36 : decode cX11_best 36 = .ok (.aload_n 0, 1) := by decide +kernel
theorem dX11_best_37 : decode cX11_best 37 = .ok (.getfield 53, 3) := by decide +kernel
theorem dX11_best_40 : decode cX11_best 40 = .ok (.getfield 124, 3) := by decide +kernel
theorem dX11_best_43 : decode cX11_best 43 = .ok (.iload_n 1, 1) := by decide +kernel
theorem dX11_best_44 : decode cX11_best 44 = .ok (.aaload, 1) := by decide +kernel
theorem dX11_best_45 : decode cX11_best 45 = .ok (.getfield 131, 3) := by decide +kernel
theorem dX11_best_48 : decode cX11_best 48 = .ok (.if_icmp .ge 43, 3) := by decide +kernel
theorem dX11_best_51 : decode cX11_best 51 = .ok (.aload_n 0, 1) := by decide +kernel
theorem dX11_best_52 : decode cX11_best 52 = .ok (.aload_n 0, 1) := by decide +kernel
theorem dX11_best_53 : decode cX11_best 53 = .ok (.getfield 53, 3) := by decide +kernel
theorem dX11_best_56 : decode cX11_best 56 = .ok (.getfield 124, 3) := by decide +kernel
theorem dX11_best_59 : decode cX11_best 59 = .ok (.iload_n 1, 1) := by decide +kernel
theorem dX11_best_60 : decode cX11_best 60 = .ok (.aaload, 1) := by decide +kernel
theorem dX11_best_61 : decode cX11_best 61 = .ok (.iload 6, 2) := by decide +kernel
theorem dX11_best_63 : decode cX11_best 63 = .ok (.iload_n 2, 1) := by decide +kernel
theorem dX11_best_64 : decode cX11_best 64 = .ok (.iload_n 3, 1) := by decide +kernel
theorem dX11_best_65 : decode cX11_best 65 = .ok (.invokevirtual 196, 3) := by decide +kernel
theorem dX11_best_68 : decode cX11_best 68 = .ok (.istore 7, 2) := by decide +kernel
theorem dX11_best_70 : decode cX11_best 70 = .ok (.iload 7, 2) := by decide +kernel
theorem dX11_best_72 : decode cX11_best 72 = .ok (.iload 5, 2) := by decide +kernel
theorem dX11_best_74 : decode cX11_best 74 = .ok (.if_icmp .le 11, 3) := by decide +kernel
theorem dX11_best_77 : decode cX11_best 77 = .ok (.iload 7, 2) := by decide +kernel
theorem dX11_best_79 : decode cX11_best 79 = .ok (.istore 5, 2) := by decide +kernel
theorem dX11_best_81 : decode cX11_best 81 = .ok (.iload 6, 2) := by decide +kernel
theorem dX11_best_83 : decode cX11_best 83 = .ok (.istore 4, 2) := by decide +kernel
theorem dX11_best_85 : decode cX11_best 85 = .ok (.iinc 6 1, 3) := by decide +kernel
theorem dX11_best_88 : decode cX11_best 88 = .ok (.goto (-54), 3) := by decide +kernel
theorem dX11_best_91 : decode cX11_best 91 = .ok (.iload 4, 2) := by decide +kernel
theorem dX11_best_93 : decode cX11_best 93 = .ok (.ireturn, 1) := by decide +kernel
set_option maxRecDepth 20000 in
theorem ggX11_turned_X11_isPane : GoodIn wsX11_turned wsX11_isPane := goodIn_r _ [9, 2, 10, 94, 95, 96, 97, 98, 99, 100, 101, 102, 103, 104, 105, 106, 107, 108, 109, 110, 111] (by decide +kernel) (by decide +kernel)
set_option maxRecDepth 20000 in
theorem gX11_turned_X11_isPane : GoodIn wsX11_turned (wsV RX11 121 RX11 yX11_isPane wsX11_isPane) := goodIn_app (goodIn_of _ (by decide +kernel)) ggX11_turned_X11_isPane
set_option maxRecDepth 20000 in
theorem ggX11_turned_X11_isLooker : GoodIn wsX11_turned wsX11_isLooker := goodIn_r _ [13] (by decide +kernel) (by decide +kernel)
set_option maxRecDepth 20000 in
theorem gX11_turned_X11_isLooker : GoodIn wsX11_turned (va_wsS RX11 101 yX11_isLooker wsX11_isLooker) := goodIn_app (goodIn_of _ (by decide +kernel)) ggX11_turned_X11_isLooker
set_option maxRecDepth 20000 in
theorem ggX11_turned_X11_isTrialLength : GoodIn wsX11_turned wsX11_isTrialLength := goodIn_r _ [16] (by decide +kernel) (by decide +kernel)
set_option maxRecDepth 20000 in
theorem gX11_turned_X11_isTrialLength : GoodIn wsX11_turned (va_wsS RX11 185 yX11_isTrialLength wsX11_isTrialLength) := goodIn_app (goodIn_of _ (by decide +kernel)) ggX11_turned_X11_isTrialLength
set_option maxRecDepth 20000 in
theorem ggX11_turned_X3_copyFrom : GoodIn wsX11_turned wsX3_copyFrom := goodIn_r _ [21, 22, 23, 24, 25, 26, 27, 28, 29, 30, 112, 113, 114, 115, 116] (by decide +kernel) (by decide +kernel)
set_option maxRecDepth 20000 in
theorem gX11_turned_X3_copyFrom : GoodIn wsX11_turned (wsV RX11 171 RX3 yX3_copyFrom wsX3_copyFrom) := goodIn_app (goodIn_of _ (by decide +kernel)) ggX11_turned_X3_copyFrom
set_option maxRecDepth 20000 in
theorem ggX11_turned_X3_turnAbout : GoodIn wsX11_turned wsX3_turnAbout := goodIn_r _ [34, 23, 35, 36, 37, 20, 38, 26, 25, 39, 40, 41, 42, 112, 113, 114, 115, 116] (by decide +kernel) (by decide +kernel)
set_option maxRecDepth 20000 in
theorem gX11_turned_X3_turnAbout : GoodIn wsX11_turned (wsV RX11 156 RX3 yX3_turnAbout wsX3_turnAbout) := goodIn_app (goodIn_of _ (by decide +kernel)) ggX11_turned_X3_turnAbout
set_option maxRecDepth 20000 in
theorem ggX11_turned_X10_worthOf : GoodIn wsX11_turned wsX10_worthOf := goodIn_r _ [47, 48, 49, 50, 51, 52, 53, 54, 55, 46, 56, 57, 58, 59, 60, 20, 61, 23, 35, 36, 37, 38, 26, 25, 62, 63, 64, 65, 66, 67, 8, 68, 69, 70, 71, 72, 73, 74, 75, 76, 77, 78, 79, 80, 81, 82, 83, 24, 84, 85, 86, 87, 22, 88, 89, 39, 40, 41, 42, 106, 107, 108, 109, 110, 111, 112, 113, 114, 115, 116] (by decide +kernel) (by decide +kernel)
set_option maxRecDepth 20000 in
theorem gX11_turned_X10_worthOf : GoodIn wsX11_turned (wsV RX11 192 RX10 yX10_worthOf wsX10_worthOf) := goodIn_app (goodIn_of _ (by decide +kernel)) ggX11_turned_X10_worthOf
set_option maxRecDepth 20000 in
theorem ggX11_turned_X11_worthAsIs : GoodIn wsX11_turned wsX11_worthAsIs := goodIn_r _ [93, 1, 2, 3, 17, 18, 19, 20, 21, 22, 23, 24, 25, 26, 27, 28, 29, 30, 43, 44, 45, 46, 47, 48, 49, 50, 51, 52, 53, 54, 55, 56, 57, 58, 59, 60, 61, 35, 36, 37, 38, 62, 63, 64, 65, 66, 67, 8, 68, 69, 70, 71, 72, 73, 74, 75, 76, 77, 78, 79, 80, 81, 82, 83, 84, 85, 86, 87, 88, 89, 39, 40, 41, 42, 94, 95, 96, 97, 98, 99, 100, 101, 102, 103, 104, 105, 106, 107, 108, 109, 110, 111, 112, 113, 114, 115, 116] (by decide +kernel) (by decide +kernel)
set_option maxRecDepth 20000 in
theorem gX11_turned_X11_worthAsIs : GoodIn wsX11_turned (wsV RX11 188 RX11 yX11_worthAsIs wsX11_worthAsIs) := goodIn_app (goodIn_of _ (by decide +kernel)) ggX11_turned_X11_worthAsIs
theorem dX11_turned_0 : decode cX11_turned 0 = .ok (.aload_n 0, 1) := by decide +kernel
theorem dX11_turned_1 : decode cX11_turned 1 = .ok (.iload_n 1, 1) := by decide +kernel
theorem dX11_turned_2 : decode cX11_turned 2 = .ok (.invokevirtual 121, 3) := by decide +kernel
theorem dX11_turned_5 : decode cX11_turned 5 = .ok (.ifCond .eq 17, 3) := by decide +kernel
theorem dX11_turned_8 : decode cX11_turned 8 = .ok (.iload_n 2, 1) := by decide +kernel
theorem dX11_turned_9 : decode cX11_turned 9 = .ok (.invokestatic 101, 3) := by decide +kernel
theorem dX11_turned_12 : decode cX11_turned 12 = .ok (.ifCond .eq 10, 3) := by decide +kernel
theorem dX11_turned_15 : decode cX11_turned 15 = .ok (.iload_n 3, 1) := by decide +kernel
theorem dX11_turned_16 : decode cX11_turned 16 = .ok (.invokestatic 185, 3) := by decide +kernel
theorem dX11_turned_19 : decode cX11_turned 19 = .ok (.ifCond .ne 5, 3) := by decide +kernel
theorem dX11_turned_22 : decode cX11_turned 22 = .ok (.iconst (-1), 1) := by decide +kernel
theorem dX11_turned_23 : decode cX11_turned 23 = .ok (.ireturn, 1) := by decide +kernel
theorem dX11_turned_24 : decode cX11_turned 24 = .ok (.aload_n 0, 1) := by decide +kernel
theorem dX11_turned_25 : decode cX11_turned 25 = .ok (.getfield 12, 3) := by decide +kernel
theorem dX11_turned_28 : decode cX11_turned 28 = .ok (.aload_n 0, 1) := by decide +kernel
theorem dX11_turned_29 : decode cX11_turned 29 = .ok (.getfield 53, 3) := by decide +kernel
theorem dX11_turned_32 : decode cX11_turned 32 = .ok (.getfield 124, 3) := by decide +kernel
theorem dX11_turned_35 : decode cX11_turned 35 = .ok (.iload_n 1, 1) := by decide +kernel
theorem dX11_turned_36 : decode cX11_turned 36 = .ok (.aaload, 1) := by decide +kernel
theorem dX11_turned_37 : decode cX11_turned 37 = .ok (.invokevirtual 171, 3) := by decide +kernel
theorem dX11_turned_40 : decode cX11_turned 40 = .ok (.aload_n 0, 1) := by decide +kernel
theorem dX11_turned_41 : decode cX11_turned 41 = .ok (.getfield 12, 3) := by decide +kernel
theorem dX11_turned_44 : decode cX11_turned 44 = .ok (.invokevirtual 156, 3) := by decide +kernel
theorem dX11_turned_47 : decode cX11_turned 47 = .ok (.aload_n 0, 1) := by decide +kernel
theorem dX11_turned_48 : decode cX11_turned 48 = .ok (.getfield 53, 3) := by decide +kernel
theorem dX11_turned_51 : decode cX11_turned 51 = .ok (.aload_n 0, 1) := by decide +kernel
theorem dX11_turned_52 : decode cX11_turned 52 = .ok (.getfield 12, 3) := by decide +kernel
theorem dX11_turned_55 : decode cX11_turned 55 = .ok (.iload_n 2, 1) := by decide +kernel
theorem dX11_turned_56 : decode cX11_turned 56 = .ok (.iload_n 3, 1) := by decide +kernel
theorem dX11_turned_57 : decode cX11_turned 57 = .ok (.invokevirtual 192, 3) := by decide +kernel
theorem dX11_turned_60 : decode cX11_turned 60 = .ok (.istore 4, 2) := by decide +kernel
theorem dX11_turned_62 : decode cX11_turned 62 = .ok (.iload 4, 2) := by decide +kernel
theorem dX11_turned_64 : decode cX11_turned 64 = .ok (.aload_n 0, 1) := by decide +kernel
theorem dX11_turned_65 : decode cX11_turned 65 = .ok (.iload_n 1, 1) := by decide +kernel
theorem dX11_turned_66 : decode cX11_turned 66 = .ok (.iload_n 2, 1) := by decide +kernel
theorem dX11_turned_67 : decode cX11_turned 67 = .ok (.iload_n 3, 1) := by decide +kernel
theorem dX11_turned_68 : decode cX11_turned 68 = .ok (.invokevirtual 188, 3) := by decide +kernel
theorem dX11_turned_71 : decode cX11_turned 71 = .ok (.isub, 1) := by decide +kernel
theorem dX11_turned_72 : decode cX11_turned 72 = .ok (.ldc 200, 2) := by decide +kernel
theorem dX11_turned_74 : decode cX11_turned 74 = .ok (.iadd, 1) := by decide +kernel
theorem dX11_turned_75 : decode cX11_turned 75 = .ok (.ireturn, 1) := by decide +kernel
set_option maxRecDepth 20000 in
theorem ggX11_will_X11_isPane : GoodIn wsX11_will wsX11_isPane := goodIn_r _ [9, 1, 10, 67, 68, 69, 70, 71, 72, 73, 74, 75, 76, 77, 78, 79, 80, 81, 82, 83, 84] (by decide +kernel) (by decide +kernel)
set_option maxRecDepth 20000 in
theorem gX11_will_X11_isPane : GoodIn wsX11_will (wsV RX11 121 RX11 yX11_isPane wsX11_isPane) := goodIn_app (goodIn_of _ (by decide +kernel)) ggX11_will_X11_isPane
set_option maxRecDepth 20000 in
theorem ggX11_will_X11_isDay : GoodIn wsX11_will wsX11_isDay := goodIn_r _ [13] (by decide +kernel) (by decide +kernel)
set_option maxRecDepth 20000 in
theorem gX11_will_X11_isDay : GoodIn wsX11_will (va_wsS RX11 91 yX11_isDay wsX11_isDay) := goodIn_app (goodIn_of _ (by decide +kernel)) ggX11_will_X11_isDay
set_option maxRecDepth 20000 in
theorem ggX11_will_X3_copyFrom : GoodIn wsX11_will wsX3_copyFrom := goodIn_r _ [18, 19, 20, 21, 22, 23, 24, 25, 26, 27, 85, 86, 87, 88, 89] (by decide +kernel) (by decide +kernel)
set_option maxRecDepth 20000 in
theorem gX11_will_X3_copyFrom : GoodIn wsX11_will (wsV RX11 171 RX3 yX3_copyFrom wsX3_copyFrom) := goodIn_app (goodIn_of _ (by decide +kernel)) ggX11_will_X3_copyFrom
set_option maxRecDepth 20000 in
theorem ggX11_will_X3_passDay : GoodIn wsX11_will wsX3_passDay := goodIn_r _ [31, 22, 21, 32, 33, 34, 17, 35, 19, 36, 8, 37, 38, 39, 40, 41, 23, 85, 86, 87, 88, 89] (by decide +kernel) (by decide +kernel)
set_option maxRecDepth 20000 in
theorem gX11_will_X3_passDay : GoodIn wsX11_will (wsV RX11 177 RX3 yX3_passDay wsX3_passDay) := goodIn_app (goodIn_of _ (by decide +kernel)) ggX11_will_X3_passDay
set_option maxRecDepth 20000 in
theorem ggX11_will_X10_shownBy : GoodIn wsX11_will wsX10_shownBy := goodIn_r _ [46, 47, 48, 49, 50, 17, 51, 20, 52, 53, 54, 55, 23, 22, 56, 57, 58, 45, 59, 60, 61, 8, 62, 63, 64, 65, 66, 85, 86, 87, 88, 89, 79, 80, 81, 82, 83, 84] (by decide +kernel) (by decide +kernel)
set_option maxRecDepth 20000 in
theorem gX11_will_X10_shownBy : GoodIn wsX11_will (wsV RX11 136 RX10 yX10_shownBy wsX10_shownBy) := goodIn_app (goodIn_of _ (by decide +kernel)) ggX11_will_X10_shownBy
theorem dX11_will_0 : decode cX11_will 0 = .ok (.aload_n 0, 1) := by decide +kernel
theorem dX11_will_1 : decode cX11_will 1 = .ok (.iload_n 1, 1) := by decide +kernel
theorem dX11_will_2 : decode cX11_will 2 = .ok (.invokevirtual 121, 3) := by decide +kernel
theorem dX11_will_5 : decode cX11_will 5 = .ok (.ifCond .eq 21, 3) := by decide +kernel
theorem dX11_will_8 : decode cX11_will 8 = .ok (.iload_n 2, 1) := by decide +kernel
theorem dX11_will_9 : decode cX11_will 9 = .ok (.invokestatic 91, 3) := by decide +kernel
theorem dX11_will_12 : decode cX11_will 12 = .ok (.ifCond .eq 14, 3) := by decide +kernel
theorem dX11_will_15 : decode cX11_will 15 = .ok (.iload_n 2, 1) := by decide +kernel
theorem dX11_will_16 : decode cX11_will 16 = .ok (.aload_n 0, 1) := by decide +kernel
theorem dX11_will_17 : decode cX11_will 17 = .ok (.getfield 53, 3) := by decide +kernel
theorem dX11_will_20 : decode cX11_will 20 = .ok (.getfield 140, 3) := by decide +kernel
theorem dX11_will_23 : decode cX11_will 23 = .ok (.if_icmp .ge 5, 3) := by decide +kernel
theorem dX11_will_26 : decode cX11_will 26 = .ok (.iconst (-1), 1) := by decide +kernel
theorem dX11_will_27 : decode cX11_will 27 = .ok (.ireturn, 1) := by decide +kernel
theorem dX11_will_28 : decode cX11_will 28 = .ok (.aload_n 0, 1) := by decide +kernel
theorem dX11_will_29 : decode cX11_will 29 = .ok (.getfield 12, 3) := by decide +kernel
theorem dX11_will_32 : decode cX11_will 32 = .ok (.aload_n 0, 1) := by decide +kernel
theorem dX11_will_33 : decode cX11_will 33 = .ok (.getfield 53, 3) := by decide +kernel
theorem dX11_will_36 : decode cX11_will 36 = .ok (.getfield 124, 3) := by decide +kernel
theorem dX11_will_39 : decode cX11_will 39 = .ok (.iload_n 1, 1) := by decide +kernel
theorem dX11_will_40 : decode cX11_will 40 = .ok (.aaload, 1) := by decide +kernel
theorem dX11_will_41 : decode cX11_will 41 = .ok (.invokevirtual 171, 3) := by decide +kernel
theorem dX11_will_44 : decode cX11_will 44 = .ok (.aload_n 0, 1) := by decide +kernel
theorem dX11_will_45 : decode cX11_will 45 = .ok (.getfield 53, 3) := by decide +kernel
theorem dX11_will_48 : decode cX11_will 48 = .ok (.getfield 140, 3) := by decide +kernel
theorem dX11_will_51 : decode cX11_will 51 = .ok (.istore_n 3, 1) := by decide +kernel
theorem dX11_will_52 : decode cX11_will 52 = .ok (.iload_n 3, 1) := by decide +kernel
theorem dX11_will_53 : decode cX11_will 53 = .ok (.iload_n 2, 1) := by decide +kernel
theorem dX11_will_54 : decode cX11_will 54 = .ok (.if_icmp .ge 17, 3) := by decide +kernel
theorem dX11_will_57 : decode cX11_will 57 = .ok (.aload_n 0, 1) := by decide +kernel
theorem dX11_will_58 : decode cX11_will 58 = .ok (.getfield 12, 3) := by decide +kernel
theorem dX11_will_61 : decode cX11_will 61 = .ok (.iload_n 3, 1) := by decide +kernel
theorem dX11_will_62 : decode cX11_will 62 = .ok (.invokevirtual 177, 3) := by decide +kernel
theorem dX11_will_65 : decode cX11_will 65 = .ok (.iinc 3 1, 3) := by decide +kernel
theorem dX11_will_68 : decode cX11_will 68 = .ok (.goto (-16), 3) := by decide +kernel
theorem dX11_will_71 : decode cX11_will 71 = .ok (.aload_n 0, 1) := by decide +kernel
theorem dX11_will_72 : decode cX11_will 72 = .ok (.getfield 53, 3) := by decide +kernel
theorem dX11_will_75 : decode cX11_will 75 = .ok (.aload_n 0, 1) := by decide +kernel
theorem dX11_will_76 : decode cX11_will 76 = .ok (.getfield 12, 3) := by decide +kernel
theorem dX11_will_79 : decode cX11_will 79 = .ok (.invokevirtual 136, 3) := by decide +kernel
theorem dX11_will_82 : decode cX11_will 82 = .ok (.ireturn, 1) := by decide +kernel
theorem dX11_seed_0 : decode cX11_seed 0 = .ok (.aload_n 0, 1) := by decide +kernel
theorem dX11_seed_1 : decode cX11_seed 1 = .ok (.getfield 53, 3) := by decide +kernel
theorem dX11_seed_4 : decode cX11_seed 4 = .ok (.getfield 77, 3) := by decide +kernel
theorem dX11_seed_7 : decode cX11_seed 7 = .ok (.istore_n 2, 1) := by decide +kernel
theorem dX11_seed_8 : decode cX11_seed 8 = .ok (.aload_n 0, 1) := by decide +kernel
theorem dX11_seed_9 : decode cX11_seed 9 = .ok (.getfield 53, 3) := by decide +kernel
theorem dX11_seed_12 : decode cX11_seed 12 = .ok (.iload_n 1, 1) := by decide +kernel
theorem dX11_seed_13 : decode cX11_seed 13 = .ok (.putfield 77, 3) := by decide +kernel
theorem dX11_seed_16 : decode cX11_seed 16 = .ok (.iload_n 2, 1) := by decide +kernel
theorem dX11_seed_17 : decode cX11_seed 17 = .ok (.ireturn, 1) := by decide +kernel
set_option maxRecDepth 20000 in
theorem ggX11_draw_X11_isPlace : GoodIn wsX11_draw wsX11_isPlace := goodIn_r _ [8] (by decide +kernel) (by decide +kernel)
set_option maxRecDepth 20000 in
theorem gX11_draw_X11_isPlace : GoodIn wsX11_draw (va_wsS RX11 87 yX11_isPlace wsX11_isPlace) := goodIn_app (goodIn_of _ (by decide +kernel)) ggX11_draw_X11_isPlace
set_option maxRecDepth 20000 in
theorem ggX11_draw_X11_isDay : GoodIn wsX11_draw wsX11_isDay := goodIn_r _ [11] (by decide +kernel) (by decide +kernel)
set_option maxRecDepth 20000 in
theorem gX11_draw_X11_isDay : GoodIn wsX11_draw (va_wsS RX11 91 yX11_isDay wsX11_isDay) := goodIn_app (goodIn_of _ (by decide +kernel)) ggX11_draw_X11_isDay
set_option maxRecDepth 20000 in
theorem ggX11_draw_X11_viewSlot : GoodIn wsX11_draw wsX11_viewSlot := goodIn_r _ [14] (by decide +kernel) (by decide +kernel)
set_option maxRecDepth 20000 in
theorem gX11_draw_X11_viewSlot : GoodIn wsX11_draw (va_wsS RX11 94 yX11_viewSlot wsX11_viewSlot) := goodIn_app (goodIn_of _ (by decide +kernel)) ggX11_draw_X11_viewSlot
theorem dX11_draw_0 : decode cX11_draw 0 = .ok (.iload_n 1, 1) := by decide +kernel
theorem dX11_draw_1 : decode cX11_draw 1 = .ok (.invokestatic 87, 3) := by decide +kernel
theorem dX11_draw_4 : decode cX11_draw 4 = .ok (.ifCond .eq 10, 3) := by decide +kernel
theorem dX11_draw_7 : decode cX11_draw 7 = .ok (.iload_n 2, 1) := by decide +kernel
theorem dX11_draw_8 : decode cX11_draw 8 = .ok (.invokestatic 91, 3) := by decide +kernel
theorem dX11_draw_11 : decode cX11_draw 11 = .ok (.ifCond .ne 5, 3) := by decide +kernel
theorem dX11_draw_14 : decode cX11_draw 14 = .ok (.iconst (-1), 1) := by decide +kernel
theorem dX11_draw_15 : decode cX11_draw 15 = .ok (.ireturn, 1) := by decide +kernel
theorem dX11_draw_16 : decode cX11_draw 16 = .ok (.aload_n 0, 1) := by decide +kernel
theorem dX11_draw_17 : decode cX11_draw 17 = .ok (.getfield 53, 3) := by decide +kernel
theorem dX11_draw_20 : decode cX11_draw 20 = .ok (.aload_n 0, 1) := by decide +kernel
theorem dX11_draw_21 : decode cX11_draw 21 = .ok (.getfield 53, 3) := by decide +kernel
theorem dX11_draw_24 : decode cX11_draw 24 = .ok (.getfield 77, 3) := by decide +kernel
theorem dX11_draw_27 : decode cX11_draw 27 = .ok (.ldc 201, 2) := by decide +kernel
theorem dX11_draw_29 : decode cX11_draw 29 = .ok (.imul, 1) := by decide +kernel
theorem dX11_draw_30 : decode cX11_draw 30 = .ok (.sipush 12345, 3) := by decide +kernel
theorem dX11_draw_33 : decode cX11_draw 33 = .ok (.iadd, 1) := by decide +kernel
theorem dX11_draw_34 : decode cX11_draw 34 = .ok (.putfield 77, 3) := by decide +kernel
theorem dX11_draw_37 : decode cX11_draw 37 = .ok (.aload_n 0, 1) := by decide +kernel
theorem dX11_draw_38 : decode cX11_draw 38 = .ok (.getfield 53, 3) := by decide +kernel
theorem dX11_draw_41 : decode cX11_draw 41 = .ok (.getfield 77, 3) := by decide +kernel
theorem dX11_draw_44 : decode cX11_draw 44 = .ok (.bipush 16, 2) := by decide +kernel
theorem dX11_draw_46 : decode cX11_draw 46 = .ok (.iushr, 1) := by decide +kernel
theorem dX11_draw_47 : decode cX11_draw 47 = .ok (.bipush 100, 2) := by decide +kernel
theorem dX11_draw_49 : decode cX11_draw 49 = .ok (.irem, 1) := by decide +kernel
theorem dX11_draw_50 : decode cX11_draw 50 = .ok (.istore_n 3, 1) := by decide +kernel
theorem dX11_draw_51 : decode cX11_draw 51 = .ok (.aload_n 0, 1) := by decide +kernel
theorem dX11_draw_52 : decode cX11_draw 52 = .ok (.getfield 53, 3) := by decide +kernel
theorem dX11_draw_55 : decode cX11_draw 55 = .ok (.getfield 98, 3) := by decide +kernel
theorem dX11_draw_58 : decode cX11_draw 58 = .ok (.iload_n 1, 1) := by decide +kernel
theorem dX11_draw_59 : decode cX11_draw 59 = .ok (.iload_n 2, 1) := by decide +kernel
theorem dX11_draw_60 : decode cX11_draw 60 = .ok (.invokestatic 94, 3) := by decide +kernel
theorem dX11_draw_63 : decode cX11_draw 63 = .ok (.iload_n 3, 1) := by decide +kernel
theorem dX11_draw_64 : decode cX11_draw 64 = .ok (.iastore, 1) := by decide +kernel
theorem dX11_draw_65 : decode cX11_draw 65 = .ok (.iload_n 3, 1) := by decide +kernel
theorem dX11_draw_66 : decode cX11_draw 66 = .ok (.ireturn, 1) := by decide +kernel
set_option maxRecDepth 20000 in
theorem ggX11_prove_X11_isPane : GoodIn wsX11_prove wsX11_isPane := goodIn_r _ [15, 2, 16, 81, 82, 83, 84, 85, 86, 87, 88, 89, 90, 91, 92, 93, 94, 95, 96, 97, 98] (by decide +kernel) (by decide +kernel)
set_option maxRecDepth 20000 in
theorem gX11_prove_X11_isPane : GoodIn wsX11_prove (wsV RX11 121 RX11 yX11_isPane wsX11_isPane) := goodIn_app (goodIn_of _ (by decide +kernel)) ggX11_prove_X11_isPane
set_option maxRecDepth 20000 in
theorem ggX11_prove_X11_isTrialLength : GoodIn wsX11_prove wsX11_isTrialLength := goodIn_r _ [19] (by decide +kernel) (by decide +kernel)
set_option maxRecDepth 20000 in
theorem gX11_prove_X11_isTrialLength : GoodIn wsX11_prove (va_wsS RX11 185 yX11_isTrialLength wsX11_isTrialLength) := goodIn_app (goodIn_of _ (by decide +kernel)) ggX11_prove_X11_isTrialLength
set_option maxRecDepth 20000 in
theorem ggX11_prove_X3_copyFrom : GoodIn wsX11_prove wsX3_copyFrom := goodIn_r _ [24, 25, 26, 27, 28, 29, 30, 31, 32, 33, 99, 100, 101, 102, 103] (by decide +kernel) (by decide +kernel)
set_option maxRecDepth 20000 in
theorem gX11_prove_X3_copyFrom : GoodIn wsX11_prove (wsV RX11 171 RX3 yX3_copyFrom wsX3_copyFrom) := goodIn_app (goodIn_of _ (by decide +kernel)) ggX11_prove_X3_copyFrom
set_option maxRecDepth 20000 in
theorem ggX11_prove_X11_rowSlot : GoodIn wsX11_prove wsX11_rowSlot := goodIn_r _ [36] (by decide +kernel) (by decide +kernel)
set_option maxRecDepth 20000 in
theorem gX11_prove_X11_rowSlot : GoodIn wsX11_prove (va_wsS RX11 207 yX11_rowSlot wsX11_rowSlot) := goodIn_app (goodIn_of _ (by decide +kernel)) ggX11_prove_X11_rowSlot
set_option maxRecDepth 20000 in
theorem ggX11_prove_X11_rowPart : GoodIn wsX11_prove wsX11_rowPart := goodIn_r _ [40, 2, 1, 41, 42, 43, 44, 45, 46, 47, 48, 49, 23, 50, 26, 51, 52, 53, 54, 29, 28, 55, 56, 57, 58, 59, 60, 14, 61, 62, 63, 64, 65, 66, 81, 82, 83, 84, 85, 86, 87, 88, 89, 90, 91, 92, 99, 100, 101, 102, 103, 93, 94, 95, 96, 97, 98] (by decide +kernel) (by decide +kernel)
set_option maxRecDepth 20000 in
theorem gX11_prove_X11_rowPart : GoodIn wsX11_prove (wsV RX11 210 RX11 yX11_rowPart wsX11_rowPart) := goodIn_app (goodIn_of _ (by decide +kernel)) ggX11_prove_X11_rowPart
set_option maxRecDepth 20000 in
theorem ggX11_prove_X3_passDay : GoodIn wsX11_prove wsX3_passDay := goodIn_r _ [70, 28, 27, 71, 72, 73, 23, 74, 25, 75, 14, 76, 77, 78, 79, 80, 29, 99, 100, 101, 102, 103] (by decide +kernel) (by decide +kernel)
set_option maxRecDepth 20000 in
theorem gX11_prove_X3_passDay : GoodIn wsX11_prove (wsV RX11 177 RX3 yX3_passDay wsX3_passDay) := goodIn_app (goodIn_of _ (by decide +kernel)) ggX11_prove_X3_passDay
theorem dX11_prove_0 : decode cX11_prove 0 = .ok (.aload_n 0, 1) := by decide +kernel
theorem dX11_prove_1 : decode cX11_prove 1 = .ok (.iload_n 1, 1) := by decide +kernel
theorem dX11_prove_2 : decode cX11_prove 2 = .ok (.invokevirtual 121, 3) := by decide +kernel
theorem dX11_prove_5 : decode cX11_prove 5 = .ok (.ifCond .eq 10, 3) := by decide +kernel
theorem dX11_prove_8 : decode cX11_prove 8 = .ok (.iload_n 2, 1) := by decide +kernel
theorem dX11_prove_9 : decode cX11_prove 9 = .ok (.invokestatic 185, 3) := by decide +kernel
theorem dX11_prove_12 : decode cX11_prove 12 = .ok (.ifCond .ne 5, 3) := by decide +kernel
theorem dX11_prove_15 : decode cX11_prove 15 = .ok (.iconst (-1), 1) := by decide +kernel
theorem dX11_prove_16 : decode cX11_prove 16 = .ok (.ireturn, 1) := by decide +kernel
theorem dX11_prove_17 : decode cX11_prove 17 = .ok (.aload_n 0, 1) := by decide +kernel
theorem dX11_prove_18 : decode cX11_prove 18 = .ok (.getfield 12, 3) := by decide +kernel
theorem dX11_prove_21 : decode cX11_prove 21 = .ok (.aload_n 0, 1) := by decide +kernel
theorem dX11_prove_22 : decode cX11_prove 22 = .ok (.getfield 53, 3) := by decide +kernel
theorem dX11_prove_25 : decode cX11_prove 25 = .ok (.getfield 124, 3) := by decide +kernel
theorem dX11_prove_28 : decode cX11_prove 28 = .ok (.iload_n 1, 1) := by decide +kernel
theorem dX11_prove_29 : decode cX11_prove 29 = .ok (.aaload, 1) := by decide +kernel
theorem dX11_prove_30 : decode cX11_prove 30 = .ok (.invokevirtual 171, 3) := by decide +kernel
theorem dX11_prove_33 : decode cX11_prove 33 = .ok (.aload_n 0, 1) := by decide +kernel
theorem dX11_prove_34 : decode cX11_prove 34 = .ok (.iload_n 2, 1) := by decide +kernel
theorem dX11_prove_35 : decode cX11_prove 35 = .ok (.bipush 50, 2) := by decide +kernel
theorem dX11_prove_37 : decode cX11_prove 37 = .ok (.aload_n 0, 1) := by decide +kernel
theorem dX11_prove_38 : decode cX11_prove 38 = .ok (.getfield 53, 3) := by decide +kernel
theorem dX11_prove_41 : decode cX11_prove 41 = .ok (.getfield 140, 3) := by decide +kernel
theorem dX11_prove_44 : decode cX11_prove 44 = .ok (.isub, 1) := by decide +kernel
theorem dX11_prove_45 : decode cX11_prove 45 = .ok (.invokestatic 202, 3) := by decide +kernel
theorem dX11_prove_48 : decode cX11_prove 48 = .ok (.putfield 63, 3) := by decide +kernel
theorem dX11_prove_51 : decode cX11_prove 51 = .ok (.iconst 0, 1) := by decide +kernel
theorem dX11_prove_52 : decode cX11_prove 52 = .ok (.istore_n 3, 1) := by decide +kernel
theorem dX11_prove_53 : decode cX11_prove 53 = .ok (.iload_n 3, 1) := by decide +kernel
theorem dX11_prove_54 : decode cX11_prove 54 = .ok (.aload_n 0, 1) := by decide +kernel
theorem dX11_prove_55 : decode cX11_prove 55 = .ok (.getfield 63, 3) := by decide +kernel
theorem dX11_prove_58 : decode cX11_prove 58 = .ok (.if_icmp .ge 63, 3) := by decide +kernel
theorem dX11_prove_61 : decode cX11_prove 61 = .ok (.aload_n 0, 1) := by decide +kernel
theorem dX11_prove_62 : decode cX11_prove 62 = .ok (.getfield 53, 3) := by decide +kernel
theorem dX11_prove_65 : decode cX11_prove 65 = .ok (.getfield 140, 3) := by decide +kernel
theorem dX11_prove_68 : decode cX11_prove 68 = .ok (.iload_n 3, 1) := by decide +kernel
theorem dX11_prove_69 : decode cX11_prove 69 = .ok (.iadd, 1) := by decide +kernel
theorem dX11_prove_70 : decode cX11_prove 70 = .ok (.istore 4, 2) := by decide +kernel
theorem dX11_prove_72 : decode cX11_prove 72 = .ok (.iconst 0, 1) := by decide +kernel
theorem dX11_prove_73 : decode cX11_prove 73 = .ok (.istore 5, 2) := by decide +kernel
theorem dX11_prove_75 : decode cX11_prove 75 = .ok (.iload 5, 2) := by decide +kernel
theorem dX11_prove_77 : decode cX11_prove 77 = .ok (.iconst 3, 1) := by decide +kernel
theorem dX11_prove_78 : decode cX11_prove 78 = .ok (.if_icmp .ge 28, 3) := by decide +kernel
theorem dX11_prove_81 : decode cX11_prove 81 = .ok (.aload_n 0, 1) := by decide +kernel
theorem dX11_prove_82 : decode cX11_prove 82 = .ok (.getfield 23, 3) := by decide +kernel
theorem dX11_prove_85 : decode cX11_prove 85 = .ok (.iload_n 3, 1) := by decide +kernel
theorem dX11_prove_86 : decode cX11_prove 86 = .ok (.iload 5, 2) := by decide +kernel
theorem dX11_prove_88 : decode cX11_prove 88 = .ok (.invokestatic 207, 3) := by decide +kernel
theorem dX11_prove_91 : decode cX11_prove 91 = .ok (.aload_n 0, 1) := by decide +kernel
theorem dX11_prove_92 : decode cX11_prove 92 = .ok (.iload 4, 2) := by decide +kernel
theorem dX11_prove_94 : decode cX11_prove 94 = .ok (.iload 5, 2) := by decide +kernel
theorem dX11_prove_96 : decode cX11_prove 96 = .ok (.invokevirtual 210, 3) := by decide +kernel
theorem dX11_prove_99 : decode cX11_prove 99 = .ok (.iastore, 1) := by decide +kernel
theorem dX11_prove_100 : decode cX11_prove 100 = .ok (.iinc 5 1, 3) := by decide +kernel
theorem dX11_prove_103 : decode cX11_prove 103 = .ok (.goto (-28), 3) := by decide +kernel
theorem dX11_prove_106 : decode cX11_prove 106 = .ok (.aload_n 0, 1) := by decide +kernel
theorem dX11_prove_107 : decode cX11_prove 107 = .ok (.getfield 12, 3) := by decide +kernel
theorem dX11_prove_110 : decode cX11_prove 110 = .ok (.iload 4, 2) := by decide +kernel
theorem dX11_prove_112 : decode cX11_prove 112 = .ok (.invokevirtual 177, 3) := by decide +kernel
theorem dX11_prove_115 : decode cX11_prove 115 = .ok (.iinc 3 1, 3) := by decide +kernel
theorem dX11_prove_118 : decode cX11_prove 118 = .ok (.goto (-65), 3) := by decide +kernel
theorem dX11_prove_121 : decode cX11_prove 121 = .ok (.aload_n 0, 1) := by decide +kernel
theorem dX11_prove_122 : decode cX11_prove 122 = .ok (.getfield 63, 3) := by decide +kernel
theorem dX11_prove_125 : decode cX11_prove 125 = .ok (.ireturn, 1) := by decide +kernel
set_option maxRecDepth 20000 in
theorem ggX11_row_X11_isRowPart : GoodIn wsX11_row wsX11_isRowPart := goodIn_r _ [6, 7, 11, 12, 13, 14, 15, 16, 17, 18, 19, 20, 21, 22] (by decide +kernel) (by decide +kernel)
set_option maxRecDepth 20000 in
theorem gX11_row_X11_isRowPart : GoodIn wsX11_row (wsV RX11 213 RX11 yX11_isRowPart wsX11_isRowPart) := goodIn_app (goodIn_of _ (by decide +kernel)) ggX11_row_X11_isRowPart
set_option maxRecDepth 20000 in
theorem ggX11_row_X11_rowSlot : GoodIn wsX11_row wsX11_rowSlot := goodIn_r _ [10] (by decide +kernel) (by decide +kernel)
set_option maxRecDepth 20000 in
theorem gX11_row_X11_rowSlot : GoodIn wsX11_row (va_wsS RX11 207 yX11_rowSlot wsX11_rowSlot) := goodIn_app (goodIn_of _ (by decide +kernel)) ggX11_row_X11_rowSlot
theorem dX11_row_0 : decode cX11_row 0 = .ok (.aload_n 0, 1) := by decide +kernel
theorem dX11_row_1 : decode cX11_row 1 = .ok (.iload_n 1, 1) := by decide +kernel
theorem dX11_row_2 : decode cX11_row 2 = .ok (.iload_n 2, 1) := by decide +kernel
theorem dX11_row_3 : decode cX11_row 3 = .ok (.invokevirtual 213, 3) := by decide +kernel
theorem dX11_row_6 : decode cX11_row 6 = .ok (.ifCond .ne 6, 3) := by decide +kernel
theorem dX11_row_9 : decode cX11_row 9 = .ok (.bipush (-99), 2) := by decide +kernel
theorem dX11_row_11 : decode cX11_row 11 = .ok (.ireturn, 1) := by decide +kernel
theorem dX11_row_12 : decode cX11_row 12 = .ok (.aload_n 0, 1) := by decide +kernel
theorem dX11_row_13 : decode cX11_row 13 = .ok (.getfield 23, 3) := by decide +kernel
theorem dX11_row_16 : decode cX11_row 16 = .ok (.iload_n 1, 1) := by decide +kernel
theorem dX11_row_17 : decode cX11_row 17 = .ok (.iload_n 2, 1) := by decide +kernel
theorem dX11_row_18 : decode cX11_row 18 = .ok (.invokestatic 207, 3) := by decide +kernel
theorem dX11_row_21 : decode cX11_row 21 = .ok (.iaload, 1) := by decide +kernel
theorem dX11_row_22 : decode cX11_row 22 = .ok (.ireturn, 1) := by decide +kernel
set_option maxRecDepth 20000 in
theorem ggX11_alterRow_X11_isRowPart : GoodIn wsX11_alterRow wsX11_isRowPart := goodIn_r _ [6, 7, 11, 12, 13, 14, 15, 16, 17, 18, 19, 20, 21, 22] (by decide +kernel) (by decide +kernel)
set_option maxRecDepth 20000 in
theorem gX11_alterRow_X11_isRowPart : GoodIn wsX11_alterRow (wsV RX11 213 RX11 yX11_isRowPart wsX11_isRowPart) := goodIn_app (goodIn_of _ (by decide +kernel)) ggX11_alterRow_X11_isRowPart
set_option maxRecDepth 20000 in
theorem ggX11_alterRow_X11_rowSlot : GoodIn wsX11_alterRow wsX11_rowSlot := goodIn_r _ [10] (by decide +kernel) (by decide +kernel)
set_option maxRecDepth 20000 in
theorem gX11_alterRow_X11_rowSlot : GoodIn wsX11_alterRow (va_wsS RX11 207 yX11_rowSlot wsX11_rowSlot) := goodIn_app (goodIn_of _ (by decide +kernel)) ggX11_alterRow_X11_rowSlot
theorem dX11_alterRow_0 : decode cX11_alterRow 0 = .ok (.aload_n 0, 1) := by decide +kernel
theorem dX11_alterRow_1 : decode cX11_alterRow 1 = .ok (.iload_n 1, 1) := by decide +kernel
theorem dX11_alterRow_2 : decode cX11_alterRow 2 = .ok (.iload_n 2, 1) := by decide +kernel
theorem dX11_alterRow_3 : decode cX11_alterRow 3 = .ok (.invokevirtual 213, 3) := by decide +kernel
theorem dX11_alterRow_6 : decode cX11_alterRow 6 = .ok (.ifCond .ne 6, 3) := by decide +kernel
theorem dX11_alterRow_9 : decode cX11_alterRow 9 = .ok (.bipush (-99), 2) := by decide +kernel
theorem dX11_alterRow_11 : decode cX11_alterRow 11 = .ok (.ireturn, 1) := by decide +kernel
theorem dX11_alterRow_12 : decode cX11_alterRow 12 = .ok (.iload_n 1, 1) := by decide +kernel
theorem dX11_alterRow_13 : decode cX11_alterRow 13 = .ok (.iload_n 2, 1) := by decide +kernel
theorem dX11_alterRow_14 : decode cX11_alterRow 14 = .ok (.invokestatic 207, 3) := by decide +kernel
theorem dX11_alterRow_17 : decode cX11_alterRow 17 = .ok (.istore 4, 2) := by decide +kernel
theorem dX11_alterRow_19 : decode cX11_alterRow 19 = .ok (.aload_n 0, 1) := by decide +kernel
theorem dX11_alterRow_20 : decode cX11_alterRow 20 = .ok (.getfield 23, 3) := by decide +kernel
theorem dX11_alterRow_23 : decode cX11_alterRow 23 = .ok (.iload 4, 2) := by decide +kernel
theorem dX11_alterRow_25 : decode cX11_alterRow 25 = .ok (.iaload, 1) := by decide +kernel
theorem dX11_alterRow_26 : decode cX11_alterRow 26 = .ok (.istore 5, 2) := by decide +kernel
theorem dX11_alterRow_28 : decode cX11_alterRow 28 = .ok (.aload_n 0, 1) := by decide +kernel
theorem dX11_alterRow_29 : decode cX11_alterRow 29 = .ok (.getfield 23, 3) := by decide +kernel
theorem dX11_alterRow_32 : decode cX11_alterRow 32 = .ok (.iload 4, 2) := by decide +kernel
theorem dX11_alterRow_34 : decode cX11_alterRow 34 = .ok (.iload_n 3, 1) := by decide +kernel
theorem dX11_alterRow_35 : decode cX11_alterRow 35 = .ok (.iastore, 1) := by decide +kernel
theorem dX11_alterRow_36 : decode cX11_alterRow 36 = .ok (.iload 5, 2) := by decide +kernel
theorem dX11_alterRow_38 : decode cX11_alterRow 38 = .ok (.ireturn, 1) := by decide +kernel
set_option maxRecDepth 20000 in
theorem ggX11_judge_X11_isPane : GoodIn wsX11_judge wsX11_isPane := goodIn_r _ [10, 2, 11, 78, 79, 80, 81, 82, 83, 84, 85, 86, 87, 88, 89, 90, 91, 92, 93, 94, 95] (by decide +kernel) (by decide +kernel)
set_option maxRecDepth 20000 in
theorem gX11_judge_X11_isPane : GoodIn wsX11_judge (wsV RX11 121 RX11 yX11_isPane wsX11_isPane) := goodIn_app (goodIn_of _ (by decide +kernel)) ggX11_judge_X11_isPane
set_option maxRecDepth 20000 in
theorem ggX11_judge_X3_copyFrom : GoodIn wsX11_judge wsX3_copyFrom := goodIn_r _ [16, 17, 18, 19, 20, 21, 22, 23, 24, 25, 96, 97, 98, 99, 100] (by decide +kernel) (by decide +kernel)
set_option maxRecDepth 20000 in
theorem gX11_judge_X3_copyFrom : GoodIn wsX11_judge (wsV RX11 171 RX3 yX3_copyFrom wsX3_copyFrom) := goodIn_app (goodIn_of _ (by decide +kernel)) ggX11_judge_X3_copyFrom
set_option maxRecDepth 20000 in
theorem ggX11_judge_X11_isRowRight : GoodIn wsX11_judge wsX11_isRowRight := goodIn_r _ [29, 30, 31, 32, 9, 33, 34, 35, 36, 37, 2, 1, 38, 39, 40, 41, 42, 43, 44, 45, 46, 15, 47, 18, 48, 49, 50, 51, 21, 20, 52, 53, 54, 55, 56, 57, 58, 59, 60, 61, 62, 63, 78, 79, 80, 81, 82, 83, 84, 85, 86, 87, 88, 89, 96, 97, 98, 99, 100, 90, 91, 92, 93, 94, 95] (by decide +kernel) (by decide +kernel)
set_option maxRecDepth 20000 in
theorem gX11_judge_X11_isRowRight : GoodIn wsX11_judge (wsV RX11 217 RX11 yX11_isRowRight wsX11_isRowRight) := goodIn_app (goodIn_of _ (by decide +kernel)) ggX11_judge_X11_isRowRight
set_option maxRecDepth 20000 in
theorem ggX11_judge_X3_passDay : GoodIn wsX11_judge wsX3_passDay := goodIn_r _ [67, 20, 19, 68, 69, 70, 15, 71, 17, 72, 9, 73, 74, 75, 76, 77, 21, 96, 97, 98, 99, 100] (by decide +kernel) (by decide +kernel)
set_option maxRecDepth 20000 in
theorem gX11_judge_X3_passDay : GoodIn wsX11_judge (wsV RX11 177 RX3 yX3_passDay wsX3_passDay) := goodIn_app (goodIn_of _ (by decide +kernel)) ggX11_judge_X3_passDay
theorem dX11_judge_0 : decode cX11_judge 0 = .ok (.aload_n 0, 1) := by decide +kernel
theorem dX11_judge_1 : decode cX11_judge 1 = .ok (.iload_n 1, 1) := by decide +kernel
theorem dX11_judge_2 : decode cX11_judge 2 = .ok (.invokevirtual 121, 3) := by decide +kernel
theorem dX11_judge_5 : decode cX11_judge 5 = .ok (.ifCond .ne 5, 3) := by decide +kernel
theorem dX11_judge_8 : decode cX11_judge 8 = .ok (.iconst (-1), 1) := by decide +kernel
theorem dX11_judge_9 : decode cX11_judge 9 = .ok (.ireturn, 1) := by decide +kernel
theorem dX11_judge_10 : decode cX11_judge 10 = .ok (.aload_n 0, 1) := by decide +kernel
theorem dX11_judge_11 : decode cX11_judge 11 = .ok (.getfield 12, 3) := by decide +kernel
theorem dX11_judge_14 : decode cX11_judge 14 = .ok (.aload_n 0, 1) := by decide +kernel
theorem dX11_judge_15 : decode cX11_judge 15 = .ok (.getfield 53, 3) := by decide +kernel
theorem dX11_judge_18 : decode cX11_judge 18 = .ok (.getfield 124, 3) := by decide +kernel
theorem dX11_judge_21 : decode cX11_judge 21 = .ok (.iload_n 1, 1) := by decide +kernel
theorem dX11_judge_22 : decode cX11_judge 22 = .ok (.aaload, 1) := by decide +kernel
theorem dX11_judge_23 : decode cX11_judge 23 = .ok (.invokevirtual 171, 3) := by decide +kernel
theorem dX11_judge_26 : decode cX11_judge 26 = .ok (.iconst 0, 1) := by decide +kernel
theorem dX11_judge_27 : decode cX11_judge 27 = .ok (.istore_n 2, 1) := by decide +kernel
theorem dX11_judge_28 : decode cX11_judge 28 = .ok (.iload_n 2, 1) := by decide +kernel
theorem dX11_judge_29 : decode cX11_judge 29 = .ok (.aload_n 0, 1) := by decide +kernel
theorem dX11_judge_30 : decode cX11_judge 30 = .ok (.getfield 63, 3) := by decide +kernel
theorem dX11_judge_33 : decode cX11_judge 33 = .ok (.if_icmp .ge 46, 3) := by decide +kernel
theorem dX11_judge_36 : decode cX11_judge 36 = .ok (.aload_n 0, 1) := by decide +kernel
theorem dX11_judge_37 : decode cX11_judge 37 = .ok (.getfield 53, 3) := by decide +kernel
theorem dX11_judge_40 : decode cX11_judge 40 = .ok (.getfield 140, 3) := by decide +kernel
theorem dX11_judge_43 : decode cX11_judge 43 = .ok (.iload_n 2, 1) := by decide +kernel
theorem dX11_judge_44 : decode cX11_judge 44 = .ok (.iadd, 1) := by decide +kernel
theorem dX11_judge_45 : decode cX11_judge 45 = .ok (.istore_n 3, 1) := by decide +kernel
theorem dX11_judge_46 : decode cX11_judge 46 = .ok (.iload_n 3, 1) := by decide +kernel
theorem dX11_judge_47 : decode cX11_judge 47 = .ok (.bipush 50, 2) := by decide +kernel
theorem dX11_judge_49 : decode cX11_judge 49 = .ok (.if_icmp .ge 12, 3) := by decide +kernel
theorem dX11_judge_52 : decode cX11_judge 52 = .ok (.aload_n 0, 1) := by decide +kernel
theorem dX11_judge_53 : decode cX11_judge 53 = .ok (.iload_n 2, 1) := by decide +kernel
theorem dX11_judge_54 : decode cX11_judge 54 = .ok (.iload_n 3, 1) := by decide +kernel
theorem dX11_judge_55 : decode cX11_judge 55 = .ok (.invokevirtual 217, 3) := by decide +kernel
theorem dX11_judge_58 : decode cX11_judge 58 = .ok (.ifCond .ne 7, 3) := by decide +kernel
theorem dX11_judge_61 : decode cX11_judge 61 = .ok (.iload_n 2, 1) := by decide +kernel
theorem dX11_judge_62 : decode cX11_judge 62 = .ok (.iconst 1, 1) := by decide +kernel
theorem dX11_judge_63 : decode cX11_judge 63 = .ok (.iadd, 1) := by decide +kernel
theorem dX11_judge_64 : decode cX11_judge 64 = .ok (.ireturn, 1) := by decide +kernel
theorem dX11_judge_65 : decode cX11_judge 65 = .ok (.aload_n 0, 1) := by decide +kernel
theorem dX11_judge_66 : decode cX11_judge 66 = .ok (.getfield 12, 3) := by decide +kernel
theorem dX11_judge_69 : decode cX11_judge 69 = .ok (.iload_n 3, 1) := by decide +kernel
theorem dX11_judge_70 : decode cX11_judge 70 = .ok (.invokevirtual 177, 3) := by decide +kernel
theorem dX11_judge_73 : decode cX11_judge 73 = .ok (.iinc 2 1, 3) := by decide +kernel
theorem dX11_judge_76 : decode cX11_judge 76 = .ok (.goto (-48), 3) := by decide +kernel
theorem dX11_judge_79 : decode cX11_judge 79 = .ok (.iconst 0, 1) := by decide +kernel
theorem dX11_judge_80 : decode cX11_judge 80 = .ok (.ireturn, 1) := by decide +kernel
set_option maxRecDepth 20000 in
theorem ggX11_views_X11_isSheet : GoodIn wsX11_views wsX11_isSheet := goodIn_r _ [16] (by decide +kernel) (by decide +kernel)
set_option maxRecDepth 20000 in
theorem gX11_views_X11_isSheet : GoodIn wsX11_views (va_wsS RX11 220 yX11_isSheet wsX11_isSheet) := goodIn_app (goodIn_of _ (by decide +kernel)) ggX11_views_X11_isSheet
set_option maxRecDepth 20000 in
theorem ggX11_views_X11_isPlace : GoodIn wsX11_views wsX11_isPlace := goodIn_r _ [19] (by decide +kernel) (by decide +kernel)
set_option maxRecDepth 20000 in
theorem gX11_views_X11_isPlace : GoodIn wsX11_views (va_wsS RX11 87 yX11_isPlace wsX11_isPlace) := goodIn_app (goodIn_of _ (by decide +kernel)) ggX11_views_X11_isPlace
set_option maxRecDepth 20000 in
theorem ggX11_views_X11_isDay : GoodIn wsX11_views wsX11_isDay := goodIn_r _ [22] (by decide +kernel) (by decide +kernel)
set_option maxRecDepth 20000 in
theorem gX11_views_X11_isDay : GoodIn wsX11_views (va_wsS RX11 91 yX11_isDay wsX11_isDay) := goodIn_app (goodIn_of _ (by decide +kernel)) ggX11_views_X11_isDay
set_option maxRecDepth 20000 in
theorem ggX11_views_X11_viewSlot : GoodIn wsX11_views wsX11_viewSlot := goodIn_r _ [25] (by decide +kernel) (by decide +kernel)
set_option maxRecDepth 20000 in
theorem gX11_views_X11_viewSlot : GoodIn wsX11_views (va_wsS RX11 94 yX11_viewSlot wsX11_viewSlot) := goodIn_app (goodIn_of _ (by decide +kernel)) ggX11_views_X11_viewSlot
theorem dX11_views_0 : decode cX11_views 0 = .ok (.iload_n 1, 1) := by decide +kernel
theorem dX11_views_1 : decode cX11_views 1 = .ok (.invokestatic 220, 3) := by decide +kernel
theorem dX11_views_4 : decode cX11_views 4 = .ok (.ifCond .eq 33, 3) := by decide +kernel
theorem dX11_views_7 : decode cX11_views 7 = .ok (.iload_n 3, 1) := by decide +kernel
theorem dX11_views_8 : decode cX11_views 8 = .ok (.invokestatic 87, 3) := by decide +kernel
theorem dX11_views_11 : decode cX11_views 11 = .ok (.ifCond .eq 26, 3) := by decide +kernel
theorem dX11_views_14 : decode cX11_views 14 = .ok (.iload 4, 2) := by decide +kernel
theorem dX11_views_16 : decode cX11_views 16 = .ok (.invokestatic 91, 3) := by decide +kernel
theorem dX11_views_19 : decode cX11_views 19 = .ok (.ifCond .eq 18, 3) := by decide +kernel
theorem dX11_views_22 : decode cX11_views 22 = .ok (.iload 5, 2) := by decide +kernel
theorem dX11_views_24 : decode cX11_views 24 = .ok (.ifCond .lt 13, 3) := by decide +kernel
theorem dX11_views_27 : decode cX11_views 27 = .ok (.iload 5, 2) := by decide +kernel
theorem dX11_views_29 : decode cX11_views 29 = .ok (.bipush 50, 2) := by decide +kernel
theorem dX11_views_31 : decode cX11_views 31 = .ok (.iload 4, 2) := by decide +kernel
theorem dX11_views_33 : decode cX11_views 33 = .ok (.isub, 1) := by decide +kernel
theorem dX11_views_34 : decode cX11_views 34 = .ok (.if_icmp .le 5, 3) := by decide +kernel
theorem dX11_views_37 : decode cX11_views 37 = .ok (.iconst (-1), 1) := by decide +kernel
theorem dX11_views_38 : decode cX11_views 38 = .ok (.ireturn, 1) := by decide +kernel
theorem dX11_views_39 : decode cX11_views 39 = .ok (.aload_n 0, 1) := by decide +kernel
theorem dX11_views_40 : decode cX11_views 40 = .ok (.getfield 29, 3) := by decide +kernel
theorem dX11_views_43 : decode cX11_views 43 = .ok (.iload_n 1, 1) := by decide +kernel
theorem dX11_views_44 : decode cX11_views 44 = .ok (.aaload, 1) := by decide +kernel
theorem dX11_views_45 : decode cX11_views 45 = .ok (.astore 6, 2) := by decide +kernel
theorem dX11_views_47 : decode cX11_views 47 = .ok (.aload 6, 2) := by decide +kernel
theorem dX11_views_49 : decode cX11_views 49 = .ok (.ifnonnull 6, 3) := by decide +kernel
theorem dX11_views_52 : decode cX11_views 52 = .ok (.bipush (-11), 2) := by decide +kernel
theorem dX11_views_54 : decode cX11_views 54 = .ok (.ireturn, 1) := by decide +kernel
theorem dX11_views_55 : decode cX11_views 55 = .ok (.aload 6, 2) := by decide +kernel
theorem dX11_views_57 : decode cX11_views 57 = .ok (.getfield 223, 3) := by decide +kernel
theorem dX11_views_60 : decode cX11_views 60 = .ok (.ifCond .eq 6, 3) := by decide +kernel
theorem dX11_views_63 : decode cX11_views 63 = .ok (.bipush (-13), 2) := by decide +kernel
theorem dX11_views_65 : decode cX11_views 65 = .ok (.ireturn, 1) := by decide +kernel
theorem dX11_views_66 : decode cX11_views 66 = .ok (.iload_n 2, 1) := by decide +kernel
theorem dX11_views_67 : decode cX11_views 67 = .ok (.ifCond .lt 16, 3) := by decide +kernel
theorem dX11_views_70 : decode cX11_views 70 = .ok (.iload_n 2, 1) := by decide +kernel
theorem dX11_views_71 : decode cX11_views 71 = .ok (.aload 6, 2) := by decide +kernel
theorem dX11_views_73 : decode cX11_views 73 = .ok (.getfield 226, 3) := by decide +kernel
theorem dX11_views_76 : decode cX11_views 76 = .ok (.arraylength, 1) := by decide +kernel
theorem dX11_views_77 : decode cX11_views 77 = .ok (.iload 5, 2) := by decide +kernel
theorem dX11_views_79 : decode cX11_views 79 = .ok (.isub, 1) := by decide +kernel
theorem dX11_views_80 : decode cX11_views 80 = .ok (.if_icmp .le 6, 3) := by decide +kernel
theorem dX11_views_83 : decode cX11_views 83 = .ok (.bipush (-12), 2) := by decide +kernel
theorem dX11_views_85 : decode cX11_views 85 = .ok (.ireturn, 1) := by decide +kernel
theorem dX11_views_86 : decode cX11_views 86 = .ok (.iconst 0, 1) := by decide +kernel
theorem dX11_views_87 : decode cX11_views 87 = .ok (.istore 7, 2) := by decide +kernel
theorem dX11_views_89 : decode cX11_views 89 = .ok (.iload 7, 2) := by decide +kernel
theorem dX11_views_91 : decode cX11_views 91 = .ok (.iload 5, 2) := by decide +kernel
theorem dX11_views_93 : decode cX11_views 93 = .ok (.if_icmp .ge 45, 3) := by decide +kernel
theorem dX11_views_96 : decode cX11_views 96 = .ok (.aload_n 0, 1) := by decide +kernel
theorem dX11_views_97 : decode cX11_views 97 = .ok (.getfield 53, 3) := by decide +kernel
theorem dX11_views_100 : decode cX11_views 100 = .ok (.getfield 98, 3) := by decide +kernel
theorem dX11_views_103 : decode cX11_views 103 = .ok (.iload_n 3, 1) := by decide +kernel
theorem dX11_views_104 : decode cX11_views 104 = .ok (.iload 4, 2) := by decide +kernel
theorem dX11_views_106 : decode cX11_views 106 = .ok (.iload 7, 2) := by decide +kernel
theorem dX11_views_108 : decode cX11_views 108 = .ok (.iadd, 1) := by decide +kernel
theorem dX11_views_109 : decode cX11_views 109 = .ok (.invokestatic 94, 3) := by decide +kernel
theorem dX11_views_112 : decode cX11_views 112 = .ok (.iconst 0, 1) := by decide +kernel
theorem dX11_views_113 : decode cX11_views 113 = .ok (.bipush 99, 2) := by decide +kernel
theorem dX11_views_115 : decode cX11_views 115 = .ok (.aload 6, 2) := by decide +kernel
theorem dX11_views_117 : decode cX11_views 117 = .ok (.getfield 226, 3) := by decide +kernel
theorem dX11_views_120 : decode cX11_views 120 = .ok (.iload_n 2, 1) := by decide +kernel
theorem dX11_views_121 : decode cX11_views 121 = .ok (.iload 7, 2) := by decide +kernel
theorem dX11_views_123 : decode cX11_views 123 = .ok (.iadd, 1) := by decide +kernel
theorem dX11_views_124 : decode cX11_views 124 = .ok (.iaload, 1) := by decide +kernel
theorem dX11_views_125 : decode cX11_views 125 = .ok (.invokestatic 202, 3) := by decide +kernel
theorem dX11_views_128 : decode cX11_views 128 = .ok (.invokestatic 229, 3) := by decide +kernel
theorem dX11_views_131 : decode cX11_views 131 = .ok (.iastore, 1) := by decide +kernel
theorem dX11_views_132 : decode cX11_views 132 = .ok (.iinc 7 1, 3) := by decide +kernel
theorem dX11_views_135 : decode cX11_views 135 = .ok (.goto (-46), 3) := by decide +kernel
theorem dX11_views_138 : decode cX11_views 138 = .ok (.iload 5, 2) := by decide +kernel
theorem dX11_views_140 : decode cX11_views 140 = .ok (.ireturn, 1) := by decide +kernel
set_option maxRecDepth 20000 in
theorem ggX11_sheet_X11_isSheet : GoodIn wsX11_sheet wsX11_isSheet := goodIn_r _ [8] (by decide +kernel) (by decide +kernel)
set_option maxRecDepth 20000 in
theorem gX11_sheet_X11_isSheet : GoodIn wsX11_sheet (va_wsS RX11 220 yX11_isSheet wsX11_isSheet) := goodIn_app (goodIn_of _ (by decide +kernel)) ggX11_sheet_X11_isSheet
set_option maxRecDepth 20000 in
theorem ggX11_sheet_X11_isSort : GoodIn wsX11_sheet wsX11_isSort := goodIn_r _ [11] (by decide +kernel) (by decide +kernel)
set_option maxRecDepth 20000 in
theorem gX11_sheet_X11_isSort : GoodIn wsX11_sheet (va_wsS RX11 232 yX11_isSort wsX11_isSort) := goodIn_app (goodIn_of _ (by decide +kernel)) ggX11_sheet_X11_isSort
set_option maxRecDepth 20000 in
theorem ggX11_sheet_X6_init : GoodIn wsX11_sheet wsX6_init := goodIn_r _ [14, 15, 16, 17, 18, 19, 20, 33, 34] (by decide +kernel) (by decide +kernel)
set_option maxRecDepth 20000 in
theorem gX11_sheet_X6_init : GoodIn wsX11_sheet (wsX6_init) := ggX11_sheet_X6_init
theorem dX11_sheet_0 : decode cX11_sheet 0 = .ok (.iload_n 1, 1) := by decide +kernel
theorem dX11_sheet_1 : decode cX11_sheet 1 = .ok (.invokestatic 220, 3) := by decide +kernel
theorem dX11_sheet_4 : decode cX11_sheet 4 = .ok (.ifCond .eq 15, 3) := by decide +kernel
theorem dX11_sheet_7 : decode cX11_sheet 7 = .ok (.iload_n 2, 1) := by decide +kernel
theorem dX11_sheet_8 : decode cX11_sheet 8 = .ok (.invokestatic 232, 3) := by decide +kernel
theorem dX11_sheet_11 : decode cX11_sheet 11 = .ok (.ifCond .ne 10, 3) := by decide +kernel
theorem dX11_sheet_14 : decode cX11_sheet 14 = .ok (.iload_n 2, 1) := by decide +kernel
theorem dX11_sheet_15 : decode cX11_sheet 15 = .ok (.iconst (-1), 1) := by decide +kernel
theorem dX11_sheet_16 : decode cX11_sheet 16 = .ok (.if_icmp .eq 5, 3) := by decide +kernel
theorem dX11_sheet_19 : decode cX11_sheet 19 = .ok (.iconst (-1), 1) := by decide +kernel
theorem dX11_sheet_20 : decode cX11_sheet 20 = .ok (.ireturn, 1) := by decide +kernel
theorem dX11_sheet_21 : decode cX11_sheet 21 = .ok (.iload_n 2, 1) := by decide +kernel
theorem dX11_sheet_22 : decode cX11_sheet 22 = .ok (.iconst (-1), 1) := by decide +kernel
theorem dX11_sheet_23 : decode cX11_sheet 23 = .ok (.if_icmp .ne 12, 3) := by decide +kernel
theorem dX11_sheet_26 : decode cX11_sheet 26 = .ok (.aload_n 0, 1) := by decide +kernel
theorem dX11_sheet_27 : decode cX11_sheet 27 = .ok (.getfield 29, 3) := by decide +kernel
theorem dX11_sheet_30 : decode cX11_sheet 30 = .ok (.iload_n 1, 1) := by decide +kernel
theorem dX11_sheet_31 : decode cX11_sheet 31 = .ok (.aconst_null, 1) := by decide +kernel
theorem dX11_sheet_32 : decode cX11_sheet 32 = .ok (.aastore, 1) := by decide +kernel
theorem dX11_sheet_33 : decode cX11_sheet 33 = .ok (.iconst 1, 1) := by decide +kernel
theorem dX11_sheet_34 : decode cX11_sheet 34 = .ok (.ireturn, 1) := by decide +kernel
theorem dX11_sheet_35 : decode cX11_sheet 35 = .ok (.iload_n 3, 1) := by decide +kernel
theorem dX11_sheet_36 : decode cX11_sheet 36 = .ok (.bipush 40, 2) := by decide +kernel
theorem dX11_sheet_38 : decode cX11_sheet 38 = .ok (.if_icmp .le 5, 3) := by decide +kernel
theorem dX11_sheet_41 : decode cX11_sheet 41 = .ok (.iconst (-1), 1) := by decide +kernel
theorem dX11_sheet_42 : decode cX11_sheet 42 = .ok (.ireturn, 1) := by decide +kernel
theorem dX11_sheet_43 : decode cX11_sheet 43 = .ok (.iload_n 3, 1) := by decide +kernel
theorem dX11_sheet_44 : decode cX11_sheet 44 = .ok (.ifCond .ge 6, 3) := by decide +kernel
theorem dX11_sheet_47 : decode cX11_sheet 47 = .ok (.bipush (-14), 2) := by decide +kernel
theorem dX11_sheet_49 : decode cX11_sheet 49 = .ok (.ireturn, 1) := by decide +kernel
theorem dX11_sheet_50 : decode cX11_sheet 50 = .ok (.aload_n 0, 1) := by decide +kernel
theorem dX11_sheet_51 : decode cX11_sheet 51 = .ok (.getfield 29, 3) := by decide +kernel
theorem dX11_sheet_54 : decode cX11_sheet 54 = .ok (.iload_n 1, 1) := by decide +kernel
theorem dX11_sheet_55 : decode cX11_sheet 55 = .ok (.new 27, 3) := by decide +kernel
theorem dX11_sheet_58 : decode cX11_sheet 58 = .ok (.dup, 1) := by decide +kernel
theorem dX11_sheet_59 : decode cX11_sheet 59 = .ok (.iload_n 2, 1) := by decide +kernel
theorem dX11_sheet_60 : decode cX11_sheet 60 = .ok (.iload_n 3, 1) := by decide +kernel
theorem dX11_sheet_61 : decode cX11_sheet 61 = .ok (.invokespecial 235, 3) := by decide +kernel
theorem dX11_sheet_64 : decode cX11_sheet 64 = .ok (.aastore, 1) := by decide +kernel
theorem dX11_sheet_65 : decode cX11_sheet 65 = .ok (.iconst 1, 1) := by decide +kernel
theorem dX11_sheet_66 : decode cX11_sheet 66 = .ok (.ireturn, 1) := by decide +kernel
set_option maxRecDepth 20000 in
theorem ggX11_put_X11_isSheet : GoodIn wsX11_put wsX11_isSheet := goodIn_r _ [6] (by decide +kernel) (by decide +kernel)
set_option maxRecDepth 20000 in
theorem gX11_put_X11_isSheet : GoodIn wsX11_put (va_wsS RX11 220 yX11_isSheet wsX11_isSheet) := goodIn_app (goodIn_of _ (by decide +kernel)) ggX11_put_X11_isSheet
set_option maxRecDepth 20000 in
theorem ggX11_put_X6_has : GoodIn wsX11_put wsX6_has := goodIn_r _ [11, 12, 30, 31] (by decide +kernel) (by decide +kernel)
set_option maxRecDepth 20000 in
theorem gX11_put_X6_has : GoodIn wsX11_put (wsV RX11 238 RX6 yX6_has wsX6_has) := goodIn_app (goodIn_of _ (by decide +kernel)) ggX11_put_X6_has
set_option maxRecDepth 20000 in
theorem ggX11_put_X6_narrowed : GoodIn wsX11_put wsX6_narrowed := goodIn_r _ [16, 17, 30, 31] (by decide +kernel) (by decide +kernel)
set_option maxRecDepth 20000 in
theorem gX11_put_X6_narrowed : GoodIn wsX11_put (wsV RX11 241 RX6 yX6_narrowed wsX6_narrowed) := goodIn_app (goodIn_of _ (by decide +kernel)) ggX11_put_X6_narrowed
theorem dX11_put_0 : decode cX11_put 0 = .ok (.iload_n 1, 1) := by decide +kernel
theorem dX11_put_1 : decode cX11_put 1 = .ok (.invokestatic 220, 3) := by decide +kernel
theorem dX11_put_4 : decode cX11_put 4 = .ok (.ifCond .ne 5, 3) := by decide +kernel
theorem dX11_put_7 : decode cX11_put 7 = .ok (.iconst (-1), 1) := by decide +kernel
theorem dX11_put_8 : decode cX11_put 8 = .ok (.ireturn, 1) := by decide +kernel
theorem dX11_put_9 : decode cX11_put 9 = .ok (.aload_n 0, 1) := by decide +kernel
theorem dX11_put_10 : decode cX11_put 10 = .ok (.getfield 29, 3) := by decide +kernel
theorem dX11_put_13 : decode cX11_put 13 = .ok (.iload_n 1, 1) := by decide +kernel
theorem dX11_put_14 : decode cX11_put 14 = .ok (.aaload, 1) := by decide +kernel
theorem dX11_put_15 : decode cX11_put 15 = .ok (.astore 4, 2) := by decide +kernel
theorem dX11_put_17 : decode cX11_put 17 = .ok (.aload 4, 2) := by decide +kernel
theorem dX11_put_19 : decode cX11_put 19 = .ok (.ifnonnull 6, 3) := by decide +kernel
theorem dX11_put_22 : decode cX11_put 22 = .ok (.bipush (-11), 2) := by decide +kernel
theorem dX11_put_24 : decode cX11_put 24 = .ok (.ireturn, 1) := by decide +kernel
theorem dX11_put_25 : decode cX11_put 25 = .ok (.aload 4, 2) := by decide +kernel
theorem dX11_put_27 : decode cX11_put 27 = .ok (.iload_n 2, 1) := by decide +kernel
theorem dX11_put_28 : decode cX11_put 28 = .ok (.invokevirtual 238, 3) := by decide +kernel
theorem dX11_put_31 : decode cX11_put 31 = .ok (.ifCond .ne 6, 3) := by decide +kernel
theorem dX11_put_34 : decode cX11_put 34 = .ok (.bipush (-12), 2) := by decide +kernel
theorem dX11_put_36 : decode cX11_put 36 = .ok (.ireturn, 1) := by decide +kernel
theorem dX11_put_37 : decode cX11_put 37 = .ok (.aload 4, 2) := by decide +kernel
theorem dX11_put_39 : decode cX11_put 39 = .ok (.getfield 226, 3) := by decide +kernel
theorem dX11_put_42 : decode cX11_put 42 = .ok (.iload_n 2, 1) := by decide +kernel
theorem dX11_put_43 : decode cX11_put 43 = .ok (.aload 4, 2) := by decide +kernel
theorem dX11_put_45 : decode cX11_put 45 = .ok (.iload_n 3, 1) := by decide +kernel
theorem dX11_put_46 : decode cX11_put 46 = .ok (.invokevirtual 241, 3) := by decide +kernel
theorem dX11_put_49 : decode cX11_put 49 = .ok (.iastore, 1) := by decide +kernel
theorem dX11_put_50 : decode cX11_put 50 = .ok (.iconst 1, 1) := by decide +kernel
theorem dX11_put_51 : decode cX11_put 51 = .ok (.ireturn, 1) := by decide +kernel
set_option maxRecDepth 20000 in
theorem ggX11_item_X11_isSheet : GoodIn wsX11_item wsX11_isSheet := goodIn_r _ [7] (by decide +kernel) (by decide +kernel)
set_option maxRecDepth 20000 in
theorem gX11_item_X11_isSheet : GoodIn wsX11_item (va_wsS RX11 220 yX11_isSheet wsX11_isSheet) := goodIn_app (goodIn_of _ (by decide +kernel)) ggX11_item_X11_isSheet
set_option maxRecDepth 20000 in
theorem ggX11_item_X11_isSort : GoodIn wsX11_item wsX11_isSort := goodIn_r _ [10] (by decide +kernel) (by decide +kernel)
set_option maxRecDepth 20000 in
theorem gX11_item_X11_isSort : GoodIn wsX11_item (va_wsS RX11 232 yX11_isSort wsX11_isSort) := goodIn_app (goodIn_of _ (by decide +kernel)) ggX11_item_X11_isSort
set_option maxRecDepth 20000 in
theorem ggX11_item_X6_has : GoodIn wsX11_item wsX6_has := goodIn_r _ [15, 16, 29, 30] (by decide +kernel) (by decide +kernel)
set_option maxRecDepth 20000 in
theorem gX11_item_X6_has : GoodIn wsX11_item (wsV RX11 238 RX6 yX6_has wsX6_has) := goodIn_app (goodIn_of _ (by decide +kernel)) ggX11_item_X6_has
theorem dX11_item_0 : decode cX11_item 0 = .ok (.iload_n 1, 1) := by decide +kernel
theorem dX11_item_1 : decode cX11_item 1 = .ok (.invokestatic 220, 3) := by decide +kernel
theorem dX11_item_4 : decode cX11_item 4 = .ok (.ifCond .eq 10, 3) := by decide +kernel
theorem dX11_item_7 : decode cX11_item 7 = .ok (.iload_n 2, 1) := by decide +kernel
theorem dX11_item_8 : decode cX11_item 8 = .ok (.invokestatic 232, 3) := by decide +kernel
theorem dX11_item_11 : decode cX11_item 11 = .ok (.ifCond .ne 5, 3) := by decide +kernel
theorem dX11_item_14 : decode cX11_item 14 = .ok (.iconst (-1), 1) := by decide +kernel
theorem dX11_item_15 : decode cX11_item 15 = .ok (.ireturn, 1) := by decide +kernel
theorem dX11_item_16 : decode cX11_item 16 = .ok (.aload_n 0, 1) := by decide +kernel
theorem dX11_item_17 : decode cX11_item 17 = .ok (.getfield 29, 3) := by decide +kernel
theorem dX11_item_20 : decode cX11_item 20 = .ok (.iload_n 1, 1) := by decide +kernel
theorem dX11_item_21 : decode cX11_item 21 = .ok (.aaload, 1) := by decide +kernel
theorem dX11_item_22 : decode cX11_item 22 = .ok (.astore 4, 2) := by decide +kernel
theorem dX11_item_24 : decode cX11_item 24 = .ok (.aload 4, 2) := by decide +kernel
theorem dX11_item_26 : decode cX11_item 26 = .ok (.ifnonnull 6, 3) := by decide +kernel
theorem dX11_item_29 : decode cX11_item 29 = .ok (.bipush (-11), 2) := by decide +kernel
theorem dX11_item_31 : decode cX11_item 31 = .ok (.ireturn, 1) := by decide +kernel
theorem dX11_item_32 : decode cX11_item 32 = .ok (.aload 4, 2) := by decide +kernel
theorem dX11_item_34 : decode cX11_item 34 = .ok (.getfield 223, 3) := by decide +kernel
theorem dX11_item_37 : decode cX11_item 37 = .ok (.iload_n 2, 1) := by decide +kernel
theorem dX11_item_38 : decode cX11_item 38 = .ok (.if_icmp .eq 6, 3) := by decide +kernel
theorem dX11_item_41 : decode cX11_item 41 = .ok (.bipush (-13), 2) := by decide +kernel
theorem dX11_item_43 : decode cX11_item 43 = .ok (.ireturn, 1) := by decide +kernel
theorem dX11_item_44 : decode cX11_item 44 = .ok (.aload 4, 2) := by decide +kernel
theorem dX11_item_46 : decode cX11_item 46 = .ok (.iload_n 3, 1) := by decide +kernel
theorem dX11_item_47 : decode cX11_item 47 = .ok (.invokevirtual 238, 3) := by decide +kernel
theorem dX11_item_50 : decode cX11_item 50 = .ok (.ifCond .ne 6, 3) := by decide +kernel
theorem dX11_item_53 : decode cX11_item 53 = .ok (.bipush (-12), 2) := by decide +kernel
theorem dX11_item_55 : decode cX11_item 55 = .ok (.ireturn, 1) := by decide +kernel
theorem dX11_item_56 : decode cX11_item 56 = .ok (.aload 4, 2) := by decide +kernel
theorem dX11_item_58 : decode cX11_item 58 = .ok (.getfield 226, 3) := by decide +kernel
theorem dX11_item_61 : decode cX11_item 61 = .ok (.iload_n 3, 1) := by decide +kernel
theorem dX11_item_62 : decode cX11_item 62 = .ok (.iaload, 1) := by decide +kernel
theorem dX11_item_63 : decode cX11_item 63 = .ok (.ireturn, 1) := by decide +kernel
set_option maxRecDepth 20000 in
theorem ggX11_shelf_X11_isShelf : GoodIn wsX11_shelf wsX11_isShelf := goodIn_r _ [7] (by decide +kernel) (by decide +kernel)
set_option maxRecDepth 20000 in
theorem gX11_shelf_X11_isShelf : GoodIn wsX11_shelf (va_wsS RX11 244 yX11_isShelf wsX11_isShelf) := goodIn_app (goodIn_of _ (by decide +kernel)) ggX11_shelf_X11_isShelf
set_option maxRecDepth 20000 in
theorem ggX11_shelf_X11_isPane : GoodIn wsX11_shelf wsX11_isPane := goodIn_r _ [11, 12, 13, 17, 18, 19, 20, 21, 22, 23, 24, 25, 26, 27, 28, 29, 30, 31, 32, 33, 34] (by decide +kernel) (by decide +kernel)
set_option maxRecDepth 20000 in
theorem gX11_shelf_X11_isPane : GoodIn wsX11_shelf (wsV RX11 121 RX11 yX11_isPane wsX11_isPane) := goodIn_app (goodIn_of _ (by decide +kernel)) ggX11_shelf_X11_isPane
set_option maxRecDepth 20000 in
theorem ggX11_shelf_X11_isSheet : GoodIn wsX11_shelf wsX11_isSheet := goodIn_r _ [16] (by decide +kernel) (by decide +kernel)
set_option maxRecDepth 20000 in
theorem gX11_shelf_X11_isSheet : GoodIn wsX11_shelf (va_wsS RX11 220 yX11_isSheet wsX11_isSheet) := goodIn_app (goodIn_of _ (by decide +kernel)) ggX11_shelf_X11_isSheet
theorem dX11_shelf_0 : decode cX11_shelf 0 = .ok (.iload_n 1, 1) := by decide +kernel
theorem dX11_shelf_1 : decode cX11_shelf 1 = .ok (.invokestatic 244, 3) := by decide +kernel
theorem dX11_shelf_4 : decode cX11_shelf 4 = .ok (.ifCond .eq 12, 3) := by decide +kernel
theorem dX11_shelf_7 : decode cX11_shelf 7 = .ok (.iload_n 2, 1) := by decide +kernel
theorem dX11_shelf_8 : decode cX11_shelf 8 = .ok (.ifCond .lt 8, 3) := by decide +kernel
theorem dX11_shelf_11 : decode cX11_shelf 11 = .ok (.iload_n 2, 1) := by decide +kernel
theorem dX11_shelf_12 : decode cX11_shelf 12 = .ok (.iconst 2, 1) := by decide +kernel
theorem dX11_shelf_13 : decode cX11_shelf 13 = .ok (.if_icmp .le 5, 3) := by decide +kernel
theorem dX11_shelf_16 : decode cX11_shelf 16 = .ok (.iconst (-1), 1) := by decide +kernel
theorem dX11_shelf_17 : decode cX11_shelf 17 = .ok (.ireturn, 1) := by decide +kernel
theorem dX11_shelf_18 : decode cX11_shelf 18 = .ok (.iload_n 2, 1) := by decide +kernel
theorem dX11_shelf_19 : decode cX11_shelf 19 = .ok (.ifCond .ne 11, 3) := by decide +kernel
theorem dX11_shelf_22 : decode cX11_shelf 22 = .ok (.aload_n 0, 1) := by decide +kernel
theorem dX11_shelf_23 : decode cX11_shelf 23 = .ok (.iload_n 3, 1) := by decide +kernel
theorem dX11_shelf_24 : decode cX11_shelf 24 = .ok (.invokevirtual 121, 3) := by decide +kernel
theorem dX11_shelf_27 : decode cX11_shelf 27 = .ok (.ifCond .eq 15, 3) := by decide +kernel
theorem dX11_shelf_30 : decode cX11_shelf 30 = .ok (.iload_n 2, 1) := by decide +kernel
theorem dX11_shelf_31 : decode cX11_shelf 31 = .ok (.iconst 1, 1) := by decide +kernel
theorem dX11_shelf_32 : decode cX11_shelf 32 = .ok (.if_icmp .ne 12, 3) := by decide +kernel
theorem dX11_shelf_35 : decode cX11_shelf 35 = .ok (.iload_n 3, 1) := by decide +kernel
theorem dX11_shelf_36 : decode cX11_shelf 36 = .ok (.invokestatic 220, 3) := by decide +kernel
theorem dX11_shelf_39 : decode cX11_shelf 39 = .ok (.ifCond .ne 5, 3) := by decide +kernel
theorem dX11_shelf_42 : decode cX11_shelf 42 = .ok (.iconst (-1), 1) := by decide +kernel
theorem dX11_shelf_43 : decode cX11_shelf 43 = .ok (.ireturn, 1) := by decide +kernel
theorem dX11_shelf_44 : decode cX11_shelf 44 = .ok (.aload_n 0, 1) := by decide +kernel
theorem dX11_shelf_45 : decode cX11_shelf 45 = .ok (.getfield 33, 3) := by decide +kernel
theorem dX11_shelf_48 : decode cX11_shelf 48 = .ok (.iload_n 1, 1) := by decide +kernel
theorem dX11_shelf_49 : decode cX11_shelf 49 = .ok (.iload_n 2, 1) := by decide +kernel
theorem dX11_shelf_50 : decode cX11_shelf 50 = .ok (.ifCond .ne 7, 3) := by decide +kernel
theorem dX11_shelf_53 : decode cX11_shelf 53 = .ok (.iload_n 3, 1) := by decide +kernel
theorem dX11_shelf_54 : decode cX11_shelf 54 = .ok (.goto 4, 3) := by decide +kernel
theorem dX11_shelf_57 : decode cX11_shelf 57 = .ok (.iconst (-1), 1) := by decide +kernel
theorem dX11_shelf_58 : decode cX11_shelf 58 = .ok (.iastore, 1) := by decide +kernel
theorem dX11_shelf_59 : decode cX11_shelf 59 = .ok (.aload_n 0, 1) := by decide +kernel
theorem dX11_shelf_60 : decode cX11_shelf 60 = .ok (.getfield 36, 3) := by decide +kernel
theorem dX11_shelf_63 : decode cX11_shelf 63 = .ok (.iload_n 1, 1) := by decide +kernel
theorem dX11_shelf_64 : decode cX11_shelf 64 = .ok (.iload_n 2, 1) := by decide +kernel
theorem dX11_shelf_65 : decode cX11_shelf 65 = .ok (.iconst 1, 1) := by decide +kernel
theorem dX11_shelf_66 : decode cX11_shelf 66 = .ok (.if_icmp .ne 12, 3) := by decide +kernel
theorem dX11_shelf_69 : decode cX11_shelf 69 = .ok (.aload_n 0, 1) := by decide +kernel
theorem dX11_shelf_70 : decode cX11_shelf 70 = .ok (.getfield 29, 3) := by decide +kernel
theorem dX11_shelf_73 : decode cX11_shelf 73 = .ok (.iload_n 3, 1) := by decide +kernel
theorem dX11_shelf_74 : decode cX11_shelf 74 = .ok (.aaload, 1) := by decide +kernel
theorem dX11_shelf_75 : decode cX11_shelf 75 = .ok (.goto 4, 3) := by decide +kernel
theorem dX11_shelf_78 : decode cX11_shelf 78 = .ok (.aconst_null, 1) := by decide +kernel
theorem dX11_shelf_79 : decode cX11_shelf 79 = .ok (.aastore, 1) := by decide +kernel
theorem dX11_shelf_80 : decode cX11_shelf 80 = .ok (.iconst 1, 1) := by decide +kernel
theorem dX11_shelf_81 : decode cX11_shelf 81 = .ok (.ireturn, 1) := by decide +kernel
set_option maxRecDepth 20000 in
theorem ggX11_taken_X11_isKind : GoodIn wsX11_taken wsX11_isKind := goodIn_r _ [11] (by decide +kernel) (by decide +kernel)
set_option maxRecDepth 20000 in
theorem gX11_taken_X11_isKind : GoodIn wsX11_taken (va_wsS RX11 110 yX11_isKind wsX11_isKind) := goodIn_app (goodIn_of _ (by decide +kernel)) ggX11_taken_X11_isKind
set_option maxRecDepth 20000 in
theorem ggX11_taken_X11_isShelf : GoodIn wsX11_taken wsX11_isShelf := goodIn_r _ [14] (by decide +kernel) (by decide +kernel)
set_option maxRecDepth 20000 in
theorem gX11_taken_X11_isShelf : GoodIn wsX11_taken (va_wsS RX11 244 yX11_isShelf wsX11_isShelf) := goodIn_app (goodIn_of _ (by decide +kernel)) ggX11_taken_X11_isShelf
set_option maxRecDepth 20000 in
theorem ggX11_taken_X11_isSort : GoodIn wsX11_taken wsX11_isSort := goodIn_r _ [17] (by decide +kernel) (by decide +kernel)
set_option maxRecDepth 20000 in
theorem gX11_taken_X11_isSort : GoodIn wsX11_taken (va_wsS RX11 232 yX11_isSort wsX11_isSort) := goodIn_app (goodIn_of _ (by decide +kernel)) ggX11_taken_X11_isSort
set_option maxRecDepth 20000 in
theorem ggX11_taken_X11_isPane : GoodIn wsX11_taken wsX11_isPane := goodIn_r _ [21, 5, 22, 26, 27, 28, 29, 30, 31, 32, 33, 34, 35, 36, 37, 40, 41, 42, 43, 44, 45] (by decide +kernel) (by decide +kernel)
set_option maxRecDepth 20000 in
theorem gX11_taken_X11_isPane : GoodIn wsX11_taken (wsV RX11 121 RX11 yX11_isPane wsX11_isPane) := goodIn_app (goodIn_of _ (by decide +kernel)) ggX11_taken_X11_isPane
set_option maxRecDepth 20000 in
theorem ggX11_taken_X11_isUnder : GoodIn wsX11_taken wsX11_isUnder := goodIn_r _ [25] (by decide +kernel) (by decide +kernel)
set_option maxRecDepth 20000 in
theorem gX11_taken_X11_isUnder : GoodIn wsX11_taken (va_wsS RX11 247 yX11_isUnder wsX11_isUnder) := goodIn_app (goodIn_of _ (by decide +kernel)) ggX11_taken_X11_isUnder
theorem dX11_taken_0 : decode cX11_taken 0 = .ok (.iload_n 2, 1) := by decide +kernel
theorem dX11_taken_1 : decode cX11_taken 1 = .ok (.invokestatic 110, 3) := by decide +kernel
theorem dX11_taken_4 : decode cX11_taken 4 = .ok (.istore_n 3, 1) := by decide +kernel
theorem dX11_taken_5 : decode cX11_taken 5 = .ok (.iload_n 1, 1) := by decide +kernel
theorem dX11_taken_6 : decode cX11_taken 6 = .ok (.invokestatic 244, 3) := by decide +kernel
theorem dX11_taken_9 : decode cX11_taken 9 = .ok (.ifCond .eq 17, 3) := by decide +kernel
theorem dX11_taken_12 : decode cX11_taken 12 = .ok (.iload_n 3, 1) := by decide +kernel
theorem dX11_taken_13 : decode cX11_taken 13 = .ok (.ifCond .ne 15, 3) := by decide +kernel
theorem dX11_taken_16 : decode cX11_taken 16 = .ok (.iload_n 2, 1) := by decide +kernel
theorem dX11_taken_17 : decode cX11_taken 17 = .ok (.bipush 10, 2) := by decide +kernel
theorem dX11_taken_19 : decode cX11_taken 19 = .ok (.isub, 1) := by decide +kernel
theorem dX11_taken_20 : decode cX11_taken 20 = .ok (.invokestatic 232, 3) := by decide +kernel
theorem dX11_taken_23 : decode cX11_taken 23 = .ok (.ifCond .ne 5, 3) := by decide +kernel
theorem dX11_taken_26 : decode cX11_taken 26 = .ok (.iconst (-1), 1) := by decide +kernel
theorem dX11_taken_27 : decode cX11_taken 27 = .ok (.ireturn, 1) := by decide +kernel
theorem dX11_taken_28 : decode cX11_taken 28 = .ok (.aload_n 0, 1) := by decide +kernel
theorem dX11_taken_29 : decode cX11_taken 29 = .ok (.getfield 36, 3) := by decide +kernel
theorem dX11_taken_32 : decode cX11_taken 32 = .ok (.iload_n 1, 1) := by decide +kernel
theorem dX11_taken_33 : decode cX11_taken 33 = .ok (.aaload, 1) := by decide +kernel
theorem dX11_taken_34 : decode cX11_taken 34 = .ok (.astore 4, 2) := by decide +kernel
theorem dX11_taken_36 : decode cX11_taken 36 = .ok (.aload 4, 2) := by decide +kernel
theorem dX11_taken_38 : decode cX11_taken 38 = .ok (.ifnull 43, 3) := by decide +kernel
theorem dX11_taken_41 : decode cX11_taken 41 = .ok (.iload_n 3, 1) := by decide +kernel
theorem dX11_taken_42 : decode cX11_taken 42 = .ok (.ifCond .ne 19, 3) := by decide +kernel
theorem dX11_taken_45 : decode cX11_taken 45 = .ok (.aload 4, 2) := by decide +kernel
theorem dX11_taken_47 : decode cX11_taken 47 = .ok (.getfield 223, 3) := by decide +kernel
theorem dX11_taken_50 : decode cX11_taken 50 = .ok (.iload_n 2, 1) := by decide +kernel
theorem dX11_taken_51 : decode cX11_taken 51 = .ok (.bipush 10, 2) := by decide +kernel
theorem dX11_taken_53 : decode cX11_taken 53 = .ok (.isub, 1) := by decide +kernel
theorem dX11_taken_54 : decode cX11_taken 54 = .ok (.if_icmp .ne 7, 3) := by decide +kernel
theorem dX11_taken_57 : decode cX11_taken 57 = .ok (.iconst 1, 1) := by decide +kernel
theorem dX11_taken_58 : decode cX11_taken 58 = .ok (.goto 4, 3) := by decide +kernel
theorem dX11_taken_61 : decode cX11_taken 61 = .ok (.iconst 0, 1) := by decide +kernel
theorem dX11_taken_62 : decode cX11_taken 62 = .ok (.istore 5, 2) := by decide +kernel
theorem dX11_taken_64 : decode cX11_taken 64 = .ok (.iload 5, 2) := by decide +kernel
theorem dX11_taken_66 : decode cX11_taken 66 = .ok (.ifCond .eq 12, 3) := by decide +kernel
theorem dX11_taken_69 : decode cX11_taken 69 = .ok (.aload 4, 2) := by decide +kernel
theorem dX11_taken_71 : decode cX11_taken 71 = .ok (.getfield 226, 3) := by decide +kernel
theorem dX11_taken_74 : decode cX11_taken 74 = .ok (.arraylength, 1) := by decide +kernel
theorem dX11_taken_75 : decode cX11_taken 75 = .ok (.goto 5, 3) := by decide +kernel
theorem dX11_taken_78 : decode cX11_taken 78 = .ok (.bipush (-13), 2) := by decide +kernel
theorem dX11_taken_80 : decode cX11_taken 80 = .ok (.ireturn, 1) := by decide +kernel
theorem dX11_taken_81 : decode cX11_taken 81 = .ok (.aload_n 0, 1) := by decide +kernel
theorem dX11_taken_82 : decode cX11_taken 82 = .ok (.getfield 33, 3) := by decide +kernel
theorem dX11_taken_85 : decode cX11_taken 85 = .ok (.iload_n 1, 1) := by decide +kernel
theorem dX11_taken_86 : decode cX11_taken 86 = .ok (.iaload, 1) := by decide +kernel
theorem dX11_taken_87 : decode cX11_taken 87 = .ok (.istore 5, 2) := by decide +kernel
theorem dX11_taken_89 : decode cX11_taken 89 = .ok (.aload_n 0, 1) := by decide +kernel
theorem dX11_taken_90 : decode cX11_taken 90 = .ok (.iload 5, 2) := by decide +kernel
theorem dX11_taken_92 : decode cX11_taken 92 = .ok (.invokevirtual 121, 3) := by decide +kernel
theorem dX11_taken_95 : decode cX11_taken 95 = .ok (.ifCond .ne 6, 3) := by decide +kernel
theorem dX11_taken_98 : decode cX11_taken 98 = .ok (.bipush (-11), 2) := by decide +kernel
theorem dX11_taken_100 : decode cX11_taken 100 = .ok (.ireturn, 1) := by decide +kernel
theorem dX11_taken_101 : decode cX11_taken 101 = .ok (.iload_n 3, 1) := by decide +kernel
theorem dX11_taken_102 : decode cX11_taken 102 = .ok (.ifCond .eq 28, 3) := by decide +kernel
theorem dX11_taken_105 : decode cX11_taken 105 = .ok (.aload_n 0, 1) := by decide +kernel
theorem dX11_taken_106 : decode cX11_taken 106 = .ok (.getfield 53, 3) := by decide +kernel
theorem dX11_taken_109 : decode cX11_taken 109 = .ok (.getfield 124, 3) := by decide +kernel
theorem dX11_taken_112 : decode cX11_taken 112 = .ok (.iload 5, 2) := by decide +kernel
theorem dX11_taken_114 : decode cX11_taken 114 = .ok (.aaload, 1) := by decide +kernel
theorem dX11_taken_115 : decode cX11_taken 115 = .ok (.getfield 128, 3) := by decide +kernel
theorem dX11_taken_118 : decode cX11_taken 118 = .ok (.iload_n 2, 1) := by decide +kernel
theorem dX11_taken_119 : decode cX11_taken 119 = .ok (.invokestatic 247, 3) := by decide +kernel
theorem dX11_taken_122 : decode cX11_taken 122 = .ok (.ifCond .eq 8, 3) := by decide +kernel
theorem dX11_taken_125 : decode cX11_taken 125 = .ok (.iload 5, 2) := by decide +kernel
theorem dX11_taken_127 : decode cX11_taken 127 = .ok (.goto 5, 3) := by decide +kernel
theorem dX11_taken_130 : decode cX11_taken 130 = .ok (.bipush (-13), 2) := by decide +kernel
theorem dX11_taken_132 : decode cX11_taken 132 = .ok (.ireturn, 1) := by decide +kernel
set_option maxRecDepth 20000 in
theorem ggX11_act_X9_clear : GoodIn wsX11_act wsX9_clear := goodIn_r _ [8, 9, 10, 211, 212, 213] (by decide +kernel) (by decide +kernel)
set_option maxRecDepth 20000 in
theorem gX11_act_X9_clear : GoodIn wsX11_act (wsV RX11 250 RX9 yX9_clear wsX9_clear) := goodIn_app (goodIn_of _ (by decide +kernel)) ggX11_act_X9_clear
set_option maxRecDepth 20000 in
theorem ggX11_act_X11_isShelf : GoodIn wsX11_act wsX11_isShelf := goodIn_r _ [14] (by decide +kernel) (by decide +kernel)
set_option maxRecDepth 20000 in
theorem gX11_act_X11_isShelf : GoodIn wsX11_act (va_wsS RX11 244 yX11_isShelf wsX11_isShelf) := goodIn_app (goodIn_of _ (by decide +kernel)) ggX11_act_X11_isShelf
set_option maxRecDepth 20000 in
theorem ggX11_act_X11_isPane : GoodIn wsX11_act wsX11_isPane := goodIn_r _ [18, 19, 20, 199, 200, 201, 202, 203, 204, 205, 206, 207, 208, 209, 210, 214, 215, 216, 217, 218, 219] (by decide +kernel) (by decide +kernel)
set_option maxRecDepth 20000 in
theorem gX11_act_X11_isPane : GoodIn wsX11_act (wsV RX11 121 RX11 yX11_isPane wsX11_isPane) := goodIn_app (goodIn_of _ (by decide +kernel)) ggX11_act_X11_isPane
set_option maxRecDepth 20000 in
theorem ggX11_act_X11_thingOf : GoodIn wsX11_act wsX11_thingOf := goodIn_r _ [24, 19, 25, 26, 27, 28, 29, 30, 1, 31, 32, 33, 34, 35, 36, 37, 38, 39, 40, 41, 42, 43, 44, 45, 46, 47, 48, 49, 50, 51, 52, 53, 54, 55, 56, 57, 58, 59, 60, 61, 62, 63, 64, 65, 66, 67, 68, 69, 70, 71, 72, 73, 74, 199, 200, 201, 202, 203, 204, 205, 206, 207, 208, 209, 210, 214, 215, 216, 217, 218, 219, 220, 221, 222, 223, 224, 225, 226, 227, 228, 229, 230, 231, 232, 233, 234, 235, 236, 237, 238, 239, 240, 241, 242] (by decide +kernel) (by decide +kernel)
set_option maxRecDepth 20000 in
theorem gX11_act_X11_thingOf : GoodIn wsX11_act (wsV RX11 251 RX11 yX11_thingOf wsX11_thingOf) := goodIn_app (goodIn_of _ (by decide +kernel)) ggX11_act_X11_thingOf
set_option maxRecDepth 20000 in
theorem ggX11_act_X0_shows : GoodIn wsX11_act wsX0_shows := goodIn_r _ [80, 81, 82, 83, 84, 85, 7, 86, 10, 9, 87, 88, 76, 89, 90, 45, 91, 57, 55, 92, 231, 232, 233, 228, 229, 230, 237, 238, 239, 234, 235, 236, 225, 226, 227, 240, 241, 242, 211, 212, 213] (by decide +kernel) (by decide +kernel)
set_option maxRecDepth 20000 in
theorem gX11_act_X0_shows_u255X0 : GoodIn wsX11_act (va_wsO RX11 255 RX0 "SlowPanes$Thing" ⟨"SlowPanes$Thing", "shows", "(I)I"⟩ yX0_shows wsX0_shows) := goodIn_app (goodIn_of _ (by decide +kernel)) ggX11_act_X0_shows
set_option maxRecDepth 20000 in
theorem ggX11_act_X1_shows : GoodIn wsX11_act wsX1_shows := goodIn_r _ [95, 96, 97, 98, 99, 100, 84, 85, 7, 86, 10, 9, 87, 231, 232, 233, 228, 229, 230, 237, 238, 239, 234, 235, 236, 225, 226, 227, 240, 241, 242, 211, 212, 213] (by decide +kernel) (by decide +kernel)
set_option maxRecDepth 20000 in
theorem gX11_act_X1_shows_u255X1 : GoodIn wsX11_act (va_wsO RX11 255 RX1 "SlowPanes$Thing" ⟨"SlowPanes$Thing", "shows", "(I)I"⟩ yX1_shows wsX1_shows) := goodIn_app (goodIn_of _ (by decide +kernel)) ggX11_act_X1_shows
set_option maxRecDepth 20000 in
theorem ggX11_act_X8_shows : GoodIn wsX11_act wsX8_shows := goodIn_r _ [91, 57, 55, 92, 84, 85, 7, 86, 10, 9, 87, 231, 232, 233, 228, 229, 230, 237, 238, 239, 234, 235, 236, 225, 226, 227, 240, 241, 242, 211, 212, 213] (by decide +kernel) (by decide +kernel)
set_option maxRecDepth 20000 in
theorem gX11_act_X8_shows_u255X2 : GoodIn wsX11_act (va_wsU RX11 255 RX2 "SlowPanes$Thing" ⟨"SlowPanes$Thing", "shows", "(I)I"⟩ yX8_shows wsX8_shows) := goodIn_app (goodIn_of _ (by decide +kernel)) ggX11_act_X8_shows
set_option maxRecDepth 20000 in
theorem ggX11_act_X5_shows : GoodIn wsX11_act wsX5_shows := goodIn_r _ [104, 105, 106, 107, 84, 85, 7, 86, 10, 9, 87, 108, 109, 110, 79, 36, 80, 81, 82, 83, 88, 76, 89, 90, 45, 91, 57, 55, 92, 231, 232, 233, 228, 229, 230, 237, 238, 239, 234, 235, 236, 225, 226, 227, 240, 241, 242, 211, 212, 213] (by decide +kernel) (by decide +kernel)
set_option maxRecDepth 20000 in
theorem gX11_act_X5_shows_u255X5 : GoodIn wsX11_act (va_wsO RX11 255 RX5 "SlowPanes$Thing" ⟨"SlowPanes$Thing", "shows", "(I)I"⟩ yX5_shows wsX5_shows) := goodIn_app (goodIn_of _ (by decide +kernel)) ggX11_act_X5_shows
set_option maxRecDepth 20000 in
theorem gX11_act_X8_shows_u255X7 : GoodIn wsX11_act (va_wsU RX11 255 RX7 "SlowPanes$Thing" ⟨"SlowPanes$Thing", "shows", "(I)I"⟩ yX8_shows wsX8_shows) := goodIn_app (goodIn_of _ (by decide +kernel)) ggX11_act_X8_shows
set_option maxRecDepth 20000 in
theorem gX11_act_X8_shows : GoodIn wsX11_act (wsV RX11 255 RX8 yX8_shows wsX8_shows) := goodIn_app (goodIn_of _ (by decide +kernel)) ggX11_act_X8_shows
set_option maxRecDepth 20000 in
theorem ggX11_act_X8_moves : GoodIn wsX11_act wsX8_moves := goodIn_r _ [118, 57, 92, 84, 85, 7, 86, 10, 9, 87, 119, 76, 77, 78, 79, 36, 80, 81, 82, 83, 88, 89, 90, 45, 91, 55, 93, 94, 33, 95, 96, 97, 98, 99, 100, 101, 102, 103, 39, 104, 105, 106, 107, 108, 109, 110, 111, 120, 113, 231, 232, 233, 228, 229, 230, 237, 238, 239, 234, 235, 236, 225, 226, 227, 240, 241, 242, 211, 212, 213] (by decide +kernel) (by decide +kernel)
set_option maxRecDepth 20000 in
theorem gX11_act_X8_moves_u260X0 : GoodIn wsX11_act (va_wsU RX11 260 RX0 "SlowPanes$Thing" ⟨"SlowPanes$Thing", "moves", "(I)I"⟩ yX8_moves wsX8_moves) := goodIn_app (goodIn_of _ (by decide +kernel)) ggX11_act_X8_moves
set_option maxRecDepth 20000 in
theorem ggX11_act_X7_moves : GoodIn wsX11_act wsX7_moves := goodIn_r _ [124, 125, 126, 127, 128, 129, 84, 85, 7, 86, 10, 9, 87, 130, 115, 131, 117, 45, 118, 57, 92, 119, 76, 77, 78, 79, 36, 80, 81, 82, 83, 88, 89, 90, 91, 55, 93, 94, 33, 95, 96, 97, 98, 99, 100, 101, 102, 103, 39, 104, 105, 106, 107, 108, 109, 110, 111, 120, 113, 231, 232, 233, 228, 229, 230, 237, 238, 239, 234, 235, 236, 225, 226, 227, 240, 241, 242, 211, 212, 213] (by decide +kernel) (by decide +kernel)
set_option maxRecDepth 20000 in
theorem gX11_act_X7_moves_u260X1 : GoodIn wsX11_act (va_wsO RX11 260 RX1 "SlowPanes$Thing" ⟨"SlowPanes$Thing", "moves", "(I)I"⟩ yX7_moves wsX7_moves) := goodIn_app (goodIn_of _ (by decide +kernel)) ggX11_act_X7_moves
set_option maxRecDepth 20000 in
theorem gX11_act_X8_moves_u260X2 : GoodIn wsX11_act (va_wsU RX11 260 RX2 "SlowPanes$Thing" ⟨"SlowPanes$Thing", "moves", "(I)I"⟩ yX8_moves wsX8_moves) := goodIn_app (goodIn_of _ (by decide +kernel)) ggX11_act_X8_moves
set_option maxRecDepth 20000 in
theorem ggX11_act_X5_moves : GoodIn wsX11_act wsX5_moves := goodIn_r _ [135, 105, 106, 136, 137, 107, 84, 85, 7, 86, 10, 9, 87, 138, 103, 139, 39, 104, 108, 109, 110, 79, 36, 80, 81, 82, 83, 88, 76, 89, 90, 45, 91, 57, 55, 92, 231, 232, 233, 228, 229, 230, 237, 238, 239, 234, 235, 236, 225, 226, 227, 240, 241, 242, 211, 212, 213] (by decide +kernel) (by decide +kernel)
set_option maxRecDepth 20000 in
theorem gX11_act_X5_moves_u260X5 : GoodIn wsX11_act (va_wsO RX11 260 RX5 "SlowPanes$Thing" ⟨"SlowPanes$Thing", "moves", "(I)I"⟩ yX5_moves wsX5_moves) := goodIn_app (goodIn_of _ (by decide +kernel)) ggX11_act_X5_moves
set_option maxRecDepth 20000 in
theorem gX11_act_X7_moves_u260X7 : GoodIn wsX11_act (va_wsO RX11 260 RX7 "SlowPanes$Thing" ⟨"SlowPanes$Thing", "moves", "(I)I"⟩ yX7_moves wsX7_moves) := goodIn_app (goodIn_of _ (by decide +kernel)) ggX11_act_X7_moves
set_option maxRecDepth 20000 in
theorem gX11_act_X8_moves : GoodIn wsX11_act (wsV RX11 260 RX8 yX8_moves wsX8_moves) := goodIn_app (goodIn_of _ (by decide +kernel)) ggX11_act_X8_moves
set_option maxRecDepth 20000 in
theorem ggX11_act_X8_shares : GoodIn wsX11_act wsX8_shares := goodIn_r _ [147, 57, 56, 55, 92, 84, 85, 7, 86, 10, 9, 87, 148, 149, 150, 151, 231, 232, 233, 228, 229, 230, 237, 238, 239, 234, 235, 236, 225, 226, 227, 240, 241, 242, 211, 212, 213] (by decide +kernel) (by decide +kernel)
set_option maxRecDepth 20000 in
theorem gX11_act_X8_shares_u263X0 : GoodIn wsX11_act (va_wsU RX11 263 RX0 "SlowPanes$Thing" ⟨"SlowPanes$Thing", "shares", "(I)I"⟩ yX8_shares wsX8_shares) := goodIn_app (goodIn_of _ (by decide +kernel)) ggX11_act_X8_shares
set_option maxRecDepth 20000 in
theorem ggX11_act_X1_shares : GoodIn wsX11_act wsX1_shares := goodIn_r _ [155, 96, 97, 100, 84, 85, 7, 86, 10, 9, 87, 231, 232, 233, 228, 229, 230, 237, 238, 239, 234, 235, 236, 225, 226, 227, 240, 241, 242, 211, 212, 213] (by decide +kernel) (by decide +kernel)
set_option maxRecDepth 20000 in
theorem gX11_act_X1_shares_u263X1 : GoodIn wsX11_act (va_wsO RX11 263 RX1 "SlowPanes$Thing" ⟨"SlowPanes$Thing", "shares", "(I)I"⟩ yX1_shares wsX1_shares) := goodIn_app (goodIn_of _ (by decide +kernel)) ggX11_act_X1_shares
set_option maxRecDepth 20000 in
theorem ggX11_act_X2_shares : GoodIn wsX11_act wsX2_shares := goodIn_r _ [158, 159, 160, 161, 162, 163, 84, 85, 7, 86, 10, 9, 87, 164, 144, 165, 146, 45, 147, 57, 56, 55, 92, 148, 149, 150, 151, 166, 167, 168, 90, 91, 231, 232, 233, 228, 229, 230, 237, 238, 239, 234, 235, 236, 225, 226, 227, 240, 241, 242, 211, 212, 213] (by decide +kernel) (by decide +kernel)
set_option maxRecDepth 20000 in
theorem gX11_act_X2_shares_u263X2 : GoodIn wsX11_act (va_wsO RX11 263 RX2 "SlowPanes$Thing" ⟨"SlowPanes$Thing", "shares", "(I)I"⟩ yX2_shares wsX2_shares) := goodIn_app (goodIn_of _ (by decide +kernel)) ggX11_act_X2_shares
set_option maxRecDepth 20000 in
theorem gX11_act_X8_shares_u263X5 : GoodIn wsX11_act (va_wsU RX11 263 RX5 "SlowPanes$Thing" ⟨"SlowPanes$Thing", "shares", "(I)I"⟩ yX8_shares wsX8_shares) := goodIn_app (goodIn_of _ (by decide +kernel)) ggX11_act_X8_shares
set_option maxRecDepth 20000 in
theorem gX11_act_X8_shares_u263X7 : GoodIn wsX11_act (va_wsU RX11 263 RX7 "SlowPanes$Thing" ⟨"SlowPanes$Thing", "shares", "(I)I"⟩ yX8_shares wsX8_shares) := goodIn_app (goodIn_of _ (by decide +kernel)) ggX11_act_X8_shares
set_option maxRecDepth 20000 in
theorem gX11_act_X8_shares : GoodIn wsX11_act (wsV RX11 263 RX8 yX8_shares wsX8_shares) := goodIn_app (goodIn_of _ (by decide +kernel)) ggX11_act_X8_shares
set_option maxRecDepth 20000 in
theorem ggX11_act_X0_tells : GoodIn wsX11_act wsX0_tells := goodIn_r _ [178, 81, 82, 179, 180, 83, 84, 85, 7, 86, 10, 9, 87, 181, 174, 89, 182, 45, 183, 57, 56, 92, 184, 115, 116, 117, 118, 119, 76, 77, 78, 79, 36, 80, 88, 90, 91, 55, 93, 94, 33, 95, 96, 97, 98, 99, 100, 101, 102, 103, 39, 104, 105, 106, 107, 108, 109, 110, 111, 120, 113, 121, 122, 123, 30, 124, 125, 126, 127, 128, 129, 130, 131, 132, 133, 134, 135, 136, 137, 138, 139, 140, 185, 142, 186, 187, 188, 146, 147, 148, 149, 150, 151, 189, 231, 232, 233, 228, 229, 230, 237, 238, 239, 234, 235, 236, 225, 226, 227, 240, 241, 242, 211, 212, 213] (by decide +kernel) (by decide +kernel)
set_option maxRecDepth 20000 in
theorem gX11_act_X0_tells_u266X0 : GoodIn wsX11_act (va_wsO RX11 266 RX0 "SlowPanes$Thing" ⟨"SlowPanes$Thing", "tells", "(I)I"⟩ yX0_tells wsX0_tells) := goodIn_app (goodIn_of _ (by decide +kernel)) ggX11_act_X0_tells
set_option maxRecDepth 20000 in
theorem ggX11_act_X8_tells : GoodIn wsX11_act wsX8_tells := goodIn_r _ [183, 57, 56, 92, 84, 85, 7, 86, 10, 9, 87, 184, 115, 116, 117, 45, 118, 119, 76, 77, 78, 79, 36, 80, 81, 82, 83, 88, 89, 90, 91, 55, 93, 94, 33, 95, 96, 97, 98, 99, 100, 101, 102, 103, 39, 104, 105, 106, 107, 108, 109, 110, 111, 120, 113, 121, 122, 123, 30, 124, 125, 126, 127, 128, 129, 130, 131, 132, 133, 134, 135, 136, 137, 138, 139, 140, 185, 142, 231, 232, 233, 228, 229, 230, 237, 238, 239, 234, 235, 236, 225, 226, 227, 240, 241, 242, 211, 212, 213] (by decide +kernel) (by decide +kernel)
set_option maxRecDepth 20000 in
theorem gX11_act_X8_tells_u266X1 : GoodIn wsX11_act (va_wsU RX11 266 RX1 "SlowPanes$Thing" ⟨"SlowPanes$Thing", "tells", "(I)I"⟩ yX8_tells wsX8_tells) := goodIn_app (goodIn_of _ (by decide +kernel)) ggX11_act_X8_tells
set_option maxRecDepth 20000 in
theorem ggX11_act_X2_tells : GoodIn wsX11_act wsX2_tells := goodIn_r _ [193, 159, 160, 163, 84, 85, 7, 86, 10, 9, 87, 194, 174, 165, 182, 45, 183, 57, 56, 92, 184, 115, 116, 117, 118, 119, 76, 77, 78, 79, 36, 80, 81, 82, 83, 88, 89, 90, 91, 55, 93, 94, 33, 95, 96, 97, 98, 99, 100, 101, 102, 103, 39, 104, 105, 106, 107, 108, 109, 110, 111, 120, 113, 121, 122, 123, 30, 124, 125, 126, 127, 128, 129, 130, 131, 132, 133, 134, 135, 136, 137, 138, 139, 140, 185, 142, 231, 232, 233, 228, 229, 230, 237, 238, 239, 234, 235, 236, 225, 226, 227, 240, 241, 242, 211, 212, 213] (by decide +kernel) (by decide +kernel)
set_option maxRecDepth 20000 in
theorem gX11_act_X2_tells_u266X2 : GoodIn wsX11_act (va_wsO RX11 266 RX2 "SlowPanes$Thing" ⟨"SlowPanes$Thing", "tells", "(I)I"⟩ yX2_tells wsX2_tells) := goodIn_app (goodIn_of _ (by decide +kernel)) ggX11_act_X2_tells
set_option maxRecDepth 20000 in
theorem gX11_act_X0_tells_u266X5 : GoodIn wsX11_act (va_wsO RX11 266 RX5 "SlowPanes$Thing" ⟨"SlowPanes$Thing", "tells", "(I)I"⟩ yX0_tells wsX0_tells) := goodIn_app (goodIn_of _ (by decide +kernel)) ggX11_act_X0_tells
set_option maxRecDepth 20000 in
theorem gX11_act_X8_tells_u266X7 : GoodIn wsX11_act (va_wsU RX11 266 RX7 "SlowPanes$Thing" ⟨"SlowPanes$Thing", "tells", "(I)I"⟩ yX8_tells wsX8_tells) := goodIn_app (goodIn_of _ (by decide +kernel)) ggX11_act_X8_tells
set_option maxRecDepth 20000 in
theorem gX11_act_X8_tells : GoodIn wsX11_act (wsV RX11 266 RX8 yX8_tells wsX8_tells) := goodIn_app (goodIn_of _ (by decide +kernel)) ggX11_act_X8_tells
theorem dX11_act_0 : decode cX11_act 0 = .ok (.aload_n 0, 1) := by decide +kernel
theorem dX11_act_1 : decode cX11_act 1 = .ok (.getfield 42, 3) := by decide +kernel
theorem dX11_act_4 : decode cX11_act 4 = .ok (.invokevirtual 250, 3) := by decide +kernel
theorem dX11_act_7 : decode cX11_act 7 = .ok (.iload_n 1, 1) := by decide +kernel
theorem dX11_act_8 : decode cX11_act 8 = .ok (.invokestatic 244, 3) := by decide +kernel
theorem dX11_act_11 : decode cX11_act 11 = .ok (.ifCond .eq 25, 3) := by decide +kernel
theorem dX11_act_14 : decode cX11_act 14 = .ok (.iload_n 2, 1) := by decide +kernel
theorem dX11_act_15 : decode cX11_act 15 = .ok (.ifCond .lt 21, 3) := by decide +kernel
theorem dX11_act_18 : decode cX11_act 18 = .ok (.iload_n 2, 1) := by decide +kernel
theorem dX11_act_19 : decode cX11_act 19 = .ok (.iconst 4, 1) := by decide +kernel
theorem dX11_act_20 : decode cX11_act 20 = .ok (.if_icmp .ge 16, 3) := by decide +kernel
theorem dX11_act_23 : decode cX11_act 23 = .ok (.aload_n 0, 1) := by decide +kernel
theorem dX11_act_24 : decode cX11_act 24 = .ok (.aload_n 0, 1) := by decide +kernel
theorem dX11_act_25 : decode cX11_act 25 = .ok (.getfield 33, 3) := by decide +kernel
theorem dX11_act_28 : decode cX11_act 28 = .ok (.iload_n 1, 1) := by decide +kernel
theorem dX11_act_29 : decode cX11_act 29 = .ok (.iaload, 1) := by decide +kernel
theorem dX11_act_30 : decode cX11_act 30 = .ok (.invokevirtual 121, 3) := by decide +kernel
theorem dX11_act_33 : decode cX11_act 33 = .ok (.ifCond .ne 5, 3) := by decide +kernel
theorem dX11_act_36 : decode cX11_act 36 = .ok (.iconst 0, 1) := by decide +kernel
theorem dX11_act_37 : decode cX11_act 37 = .ok (.ireturn, 1) := by decide +kernel
theorem dX11_act_38 : decode cX11_act 38 = .ok (.aload_n 0, 1) := by decide +kernel
theorem dX11_act_39 : decode cX11_act 39 = .ok (.aload_n 0, 1) := by decide +kernel
theorem dX11_act_40 : decode cX11_act 40 = .ok (.getfield 33, 3) := by decide +kernel
theorem dX11_act_43 : decode cX11_act 43 = .ok (.iload_n 1, 1) := by decide +kernel
theorem dX11_act_44 : decode cX11_act 44 = .ok (.iaload, 1) := by decide +kernel
theorem dX11_act_45 : decode cX11_act 45 = .ok (.invokevirtual 251, 3) := by decide +kernel
theorem dX11_act_48 : decode cX11_act 48 = .ok (.astore 4, 2) := by decide +kernel
theorem dX11_act_50 : decode cX11_act 50 = .ok (.iload_n 2, 1) := by decide +kernel
theorem dX11_act_51 : decode cX11_act 51 = .ok (.tableswitch 58 0 2 #[25, 36, 47], 25) := by decide +kernel
theorem dX11_act_76 : decode cX11_act 76 = .ok (.aload 4, 2) := by decide +kernel
theorem dX11_act_78 : decode cX11_act 78 = .ok (.iload_n 3, 1) := by decide +kernel
theorem dX11_act_79 : decode cX11_act 79 = .ok (.invokevirtual 255, 3) := by decide +kernel
theorem dX11_act_82 : decode cX11_act 82 = .ok (.istore 5, 2) := by decide +kernel
theorem dX11_act_84 : decode cX11_act 84 = .ok (.goto 33, 3) := by decide +kernel
theorem dX11_act_87 : decode cX11_act 87 = .ok (.aload 4, 2) := by decide +kernel
theorem dX11_act_89 : decode cX11_act 89 = .ok (.iload_n 3, 1) := by decide +kernel
theorem dX11_act_90 : decode cX11_act 90 = .ok (.invokevirtual 260, 3) := by decide +kernel
theorem dX11_act_93 : decode cX11_act 93 = .ok (.istore 5, 2) := by decide +kernel
theorem dX11_act_95 : decode cX11_act 95 = .ok (.goto 22, 3) := by decide +kernel
theorem dX11_act_98 : decode cX11_act 98 = .ok (.aload 4, 2) := by decide +kernel
theorem dX11_act_100 : decode cX11_act 100 = .ok (.iload_n 3, 1) := by decide +kernel
theorem dX11_act_101 : decode cX11_act 101 = .ok (.invokevirtual 263, 3) := by decide +kernel
theorem dX11_act_104 : decode cX11_act 104 = .ok (.istore 5, 2) := by decide +kernel
theorem dX11_act_106 : decode cX11_act 106 = .ok (.goto 11, 3) := by decide +kernel
theorem dX11_act_109 : decode cX11_act 109 = .ok (.aload 4, 2) := by decide +kernel
theorem dX11_act_111 : decode cX11_act 111 = .ok (.iload_n 3, 1) := by decide +kernel
theorem dX11_act_112 : decode cX11_act 112 = .ok (.invokevirtual 266, 3) := by decide +kernel
theorem dX11_act_115 : decode cX11_act 115 = .ok (.istore 5, 2) := by decide +kernel
theorem dX11_act_117 : decode cX11_act 117 = .ok (.aload_n 0, 1) := by decide +kernel
theorem dX11_act_118 : decode cX11_act 118 = .ok (.getfield 42, 3) := by decide +kernel
theorem dX11_act_121 : decode cX11_act 121 = .ok (.getfield 269, 3) := by decide +kernel
theorem dX11_act_124 : decode cX11_act 124 = .ok (.ifCond .eq 8, 3) := by decide +kernel
theorem dX11_act_127 : decode cX11_act 127 = .ok (.bipush (-15), 2) := by decide +kernel
theorem dX11_act_129 : decode cX11_act 129 = .ok (.goto 5, 3) := by decide +kernel
theorem dX11_act_132 : decode cX11_act 132 = .ok (.iload 5, 2) := by decide +kernel
theorem dX11_act_134 : decode cX11_act 134 = .ok (.ireturn, 1) := by decide +kernel
theorem dX11_trace_0 : decode cX11_trace 0 = .ok (.iload_n 1, 1) := by decide +kernel
theorem dX11_trace_1 : decode cX11_trace 1 = .ok (.ifCond .lt 14, 3) := by decide +kernel
theorem dX11_trace_4 : decode cX11_trace 4 = .ok (.iload_n 1, 1) := by decide +kernel
theorem dX11_trace_5 : decode cX11_trace 5 = .ok (.aload_n 0, 1) := by decide +kernel
theorem dX11_trace_6 : decode cX11_trace 6 = .ok (.getfield 42, 3) := by decide +kernel
theorem dX11_trace_9 : decode cX11_trace 9 = .ok (.getfield 272, 3) := by decide +kernel
theorem dX11_trace_12 : decode cX11_trace 12 = .ok (.if_icmp .lt 8, 3) := by decide +kernel
theorem dX11_trace_15 : decode cX11_trace 15 = .ok (.bipush (-3), 2) := by decide +kernel
theorem dX11_trace_17 : decode cX11_trace 17 = .ok (.goto 12, 3) := by decide +kernel
theorem dX11_trace_20 : decode cX11_trace 20 = .ok (.aload_n 0, 1) := by decide +kernel
theorem dX11_trace_21 : decode cX11_trace 21 = .ok (.getfield 42, 3) := by decide +kernel
theorem dX11_trace_24 : decode cX11_trace 24 = .ok (.getfield 273, 3) := by decide +kernel
theorem dX11_trace_27 : decode cX11_trace 27 = .ok (.iload_n 1, 1) := by decide +kernel
theorem dX11_trace_28 : decode cX11_trace 28 = .ok (.iaload, 1) := by decide +kernel
theorem dX11_trace_29 : decode cX11_trace 29 = .ok (.ireturn, 1) := by decide +kernel
set_option maxRecDepth 20000 in
theorem ggX11_many_X10_countLit : GoodIn wsX11_many wsX10_countLit := goodIn_r _ [12, 13, 14, 15, 16, 17, 18, 19, 20, 21, 22, 35, 36, 37, 38, 39, 40, 49, 50, 51, 52, 53] (by decide +kernel) (by decide +kernel)
set_option maxRecDepth 20000 in
theorem gX11_many_X10_countLit : GoodIn wsX11_many (wsV RX11 276 RX10 yX10_countLit wsX10_countLit) := goodIn_app (goodIn_of _ (by decide +kernel)) ggX11_many_X10_countLit
theorem dX11_many_0 : decode cX11_many 0 = .ok (.iload_n 1, 1) := by decide +kernel
theorem dX11_many_1 : decode cX11_many 1 = .ok (.tableswitch 72 0 4 #[35, 43, 51, 56, 64], 35) := by decide +kernel
theorem dX11_many_36 : decode cX11_many 36 = .ok (.aload_n 0, 1) := by decide +kernel
theorem dX11_many_37 : decode cX11_many 37 = .ok (.getfield 53, 3) := by decide +kernel
theorem dX11_many_40 : decode cX11_many 40 = .ok (.getfield 84, 3) := by decide +kernel
theorem dX11_many_43 : decode cX11_many 43 = .ok (.ireturn, 1) := by decide +kernel
theorem dX11_many_44 : decode cX11_many 44 = .ok (.aload_n 0, 1) := by decide +kernel
theorem dX11_many_45 : decode cX11_many 45 = .ok (.getfield 53, 3) := by decide +kernel
theorem dX11_many_48 : decode cX11_many 48 = .ok (.invokevirtual 276, 3) := by decide +kernel
theorem dX11_many_51 : decode cX11_many 51 = .ok (.ireturn, 1) := by decide +kernel
theorem dX11_many_52 : decode cX11_many 52 = .ok (.aload_n 0, 1) := by decide +kernel
theorem dX11_many_53 : decode cX11_many 53 = .ok (.getfield 63, 3) := by decide +kernel
theorem dX11_many_56 : decode cX11_many 56 = .ok (.ireturn, 1) := by decide +kernel
theorem dX11_many_57 : decode cX11_many 57 = .ok (.aload_n 0, 1) := by decide +kernel
theorem dX11_many_58 : decode cX11_many 58 = .ok (.getfield 19, 3) := by decide +kernel
theorem dX11_many_61 : decode cX11_many 61 = .ok (.getfield 67, 3) := by decide +kernel
theorem dX11_many_64 : decode cX11_many 64 = .ok (.ireturn, 1) := by decide +kernel
theorem dX11_many_65 : decode cX11_many 65 = .ok (.aload_n 0, 1) := by decide +kernel
theorem dX11_many_66 : decode cX11_many 66 = .ok (.getfield 42, 3) := by decide +kernel
theorem dX11_many_69 : decode cX11_many 69 = .ok (.getfield 272, 3) := by decide +kernel
theorem dX11_many_72 : decode cX11_many 72 = .ok (.ireturn, 1) := by decide +kernel
theorem dX11_many_73 : decode cX11_many 73 = .ok (.iconst (-1), 1) := by decide +kernel
theorem dX11_many_74 : decode cX11_many 74 = .ok (.ireturn, 1) := by decide +kernel
set_option maxRecDepth 20000 in
theorem ggX11_keep_X10_copyFrom : GoodIn wsX11_keep wsX10_copyFrom := goodIn_r _ [8, 9, 10, 11, 12, 13, 14, 15, 16, 17, 18, 19, 20, 21, 22, 23, 24, 25, 26, 27, 28, 29, 42, 43, 44, 45, 46, 47, 48, 49, 50, 51, 52] (by decide +kernel) (by decide +kernel)
set_option maxRecDepth 20000 in
theorem gX11_keep_X10_copyFrom : GoodIn wsX11_keep (wsV RX11 279 RX10 yX10_copyFrom wsX10_copyFrom) := goodIn_app (goodIn_of _ (by decide +kernel)) ggX11_keep_X10_copyFrom
theorem dX11_keep_0 : decode cX11_keep 0 = .ok (.aload_n 0, 1) := by decide +kernel
theorem dX11_keep_1 : decode cX11_keep 1 = .ok (.getfield 49, 3) := by decide +kernel
theorem dX11_keep_4 : decode cX11_keep 4 = .ok (.aload_n 0, 1) := by decide +kernel
theorem dX11_keep_5 : decode cX11_keep 5 = .ok (.getfield 53, 3) := by decide +kernel
theorem dX11_keep_8 : decode cX11_keep 8 = .ok (.invokevirtual 279, 3) := by decide +kernel
theorem dX11_keep_11 : decode cX11_keep 11 = .ok (.aload_n 0, 1) := by decide +kernel
theorem dX11_keep_12 : decode cX11_keep 12 = .ok (.iconst 1, 1) := by decide +kernel
theorem dX11_keep_13 : decode cX11_keep 13 = .ok (.putfield 59, 3) := by decide +kernel
theorem dX11_keep_16 : decode cX11_keep 16 = .ok (.iconst 1, 1) := by decide +kernel
theorem dX11_keep_17 : decode cX11_keep 17 = .ok (.ireturn, 1) := by decide +kernel
set_option maxRecDepth 20000 in
theorem ggX11_again_X10_copyFrom : GoodIn wsX11_again wsX10_copyFrom := goodIn_r _ [9, 10, 11, 12, 13, 14, 15, 16, 17, 18, 19, 20, 21, 22, 23, 24, 25, 26, 27, 28, 29, 30, 43, 44, 45, 46, 47, 48, 49, 50, 51, 52, 53] (by decide +kernel) (by decide +kernel)
set_option maxRecDepth 20000 in
theorem gX11_again_X10_copyFrom : GoodIn wsX11_again (wsV RX11 279 RX10 yX10_copyFrom wsX10_copyFrom) := goodIn_app (goodIn_of _ (by decide +kernel)) ggX11_again_X10_copyFrom
theorem dX11_again_0 : decode cX11_again 0 = .ok (.aload_n 0, 1) := by decide +kernel
theorem dX11_again_1 : decode cX11_again 1 = .ok (.getfield 59, 3) := by decide +kernel
theorem dX11_again_4 : decode cX11_again 4 = .ok (.ifCond .ne 6, 3) := by decide +kernel
theorem dX11_again_7 : decode cX11_again 7 = .ok (.bipush (-3), 2) := by decide +kernel
theorem dX11_again_9 : decode cX11_again 9 = .ok (.ireturn, 1) := by decide +kernel
theorem dX11_again_10 : decode cX11_again 10 = .ok (.aload_n 0, 1) := by decide +kernel
theorem dX11_again_11 : decode cX11_again 11 = .ok (.getfield 53, 3) := by decide +kernel
theorem dX11_again_14 : decode cX11_again 14 = .ok (.aload_n 0, 1) := by decide +kernel
theorem dX11_again_15 : decode cX11_again 15 = .ok (.getfield 49, 3) := by decide +kernel
theorem dX11_again_18 : decode cX11_again 18 = .ok (.invokevirtual 279, 3) := by decide +kernel
theorem dX11_again_21 : decode cX11_again 21 = .ok (.aload_n 0, 1) := by decide +kernel
theorem dX11_again_22 : decode cX11_again 22 = .ok (.getfield 53, 3) := by decide +kernel
theorem dX11_again_25 : decode cX11_again 25 = .ok (.getfield 84, 3) := by decide +kernel
theorem dX11_again_28 : decode cX11_again 28 = .ok (.ireturn, 1) := by decide +kernel
theorem dX11_isPane_0 : decode cX11_isPane 0 = .ok (.iload_n 1, 1) := by decide +kernel
theorem dX11_isPane_1 : decode cX11_isPane 1 = .ok (.ifCond .lt 18, 3) := by decide +kernel
theorem dX11_isPane_4 : decode cX11_isPane 4 = .ok (.iload_n 1, 1) := by decide +kernel
theorem dX11_isPane_5 : decode cX11_isPane 5 = .ok (.aload_n 0, 1) := by decide +kernel
theorem dX11_isPane_6 : decode cX11_isPane 6 = .ok (.getfield 53, 3) := by decide +kernel
theorem dX11_isPane_9 : decode cX11_isPane 9 = .ok (.getfield 84, 3) := by decide +kernel
theorem dX11_isPane_12 : decode cX11_isPane 12 = .ok (.if_icmp .ge 7, 3) := by decide +kernel
theorem dX11_isPane_15 : decode cX11_isPane 15 = .ok (.iconst 1, 1) := by decide +kernel
theorem dX11_isPane_16 : decode cX11_isPane 16 = .ok (.goto 4, 3) := by decide +kernel
theorem dX11_isPane_19 : decode cX11_isPane 19 = .ok (.iconst 0, 1) := by decide +kernel
theorem dX11_isPane_20 : decode cX11_isPane 20 = .ok (.ireturn, 1) := by decide +kernel
theorem dX11_isPlace_0 : decode cX11_isPlace 0 = .ok (.iload_n 0, 1) := by decide +kernel
theorem dX11_isPlace_1 : decode cX11_isPlace 1 = .ok (.ifCond .lt 12, 3) := by decide +kernel
theorem dX11_isPlace_4 : decode cX11_isPlace 4 = .ok (.iload_n 0, 1) := by decide +kernel
theorem dX11_isPlace_5 : decode cX11_isPlace 5 = .ok (.iconst 4, 1) := by decide +kernel
theorem dX11_isPlace_6 : decode cX11_isPlace 6 = .ok (.if_icmp .ge 7, 3) := by decide +kernel
theorem dX11_isPlace_9 : decode cX11_isPlace 9 = .ok (.iconst 1, 1) := by decide +kernel
theorem dX11_isPlace_10 : decode cX11_isPlace 10 = .ok (.goto 4, 3) := by decide +kernel
theorem dX11_isPlace_13 : decode cX11_isPlace 13 = .ok (.iconst 0, 1) := by decide +kernel
theorem dX11_isPlace_14 : decode cX11_isPlace 14 = .ok (.ireturn, 1) := by decide +kernel
theorem dX11_isDay_0 : decode cX11_isDay 0 = .ok (.iload_n 0, 1) := by decide +kernel
theorem dX11_isDay_1 : decode cX11_isDay 1 = .ok (.ifCond .lt 13, 3) := by decide +kernel
theorem dX11_isDay_4 : decode cX11_isDay 4 = .ok (.iload_n 0, 1) := by decide +kernel
theorem dX11_isDay_5 : decode cX11_isDay 5 = .ok (.bipush 50, 2) := by decide +kernel
theorem dX11_isDay_7 : decode cX11_isDay 7 = .ok (.if_icmp .ge 7, 3) := by decide +kernel
theorem dX11_isDay_10 : decode cX11_isDay 10 = .ok (.iconst 1, 1) := by decide +kernel
theorem dX11_isDay_11 : decode cX11_isDay 11 = .ok (.goto 4, 3) := by decide +kernel
theorem dX11_isDay_14 : decode cX11_isDay 14 = .ok (.iconst 0, 1) := by decide +kernel
theorem dX11_isDay_15 : decode cX11_isDay 15 = .ok (.ireturn, 1) := by decide +kernel
theorem dX11_isLooker_0 : decode cX11_isLooker 0 = .ok (.iload_n 0, 1) := by decide +kernel
theorem dX11_isLooker_1 : decode cX11_isLooker 1 = .ok (.ifCond .lt 12, 3) := by decide +kernel
theorem dX11_isLooker_4 : decode cX11_isLooker 4 = .ok (.iload_n 0, 1) := by decide +kernel
theorem dX11_isLooker_5 : decode cX11_isLooker 5 = .ok (.iconst 3, 1) := by decide +kernel
theorem dX11_isLooker_6 : decode cX11_isLooker 6 = .ok (.if_icmp .ge 7, 3) := by decide +kernel
theorem dX11_isLooker_9 : decode cX11_isLooker 9 = .ok (.iconst 1, 1) := by decide +kernel
theorem dX11_isLooker_10 : decode cX11_isLooker 10 = .ok (.goto 4, 3) := by decide +kernel
theorem dX11_isLooker_13 : decode cX11_isLooker 13 = .ok (.iconst 0, 1) := by decide +kernel
theorem dX11_isLooker_14 : decode cX11_isLooker 14 = .ok (.ireturn, 1) := by decide +kernel
theorem dX11_isKind_0 : decode cX11_isKind 0 = .ok (.iload_n 0, 1) := by decide +kernel
theorem dX11_isKind_1 : decode cX11_isKind 1 = .ok (.ifCond .lt 13, 3) := by decide +kernel
theorem dX11_isKind_4 : decode cX11_isKind 4 = .ok (.iload_n 0, 1) := by decide +kernel
theorem dX11_isKind_5 : decode cX11_isKind 5 = .ok (.bipush 6, 2) := by decide +kernel
theorem dX11_isKind_7 : decode cX11_isKind 7 = .ok (.if_icmp .ge 7, 3) := by decide +kernel
theorem dX11_isKind_10 : decode cX11_isKind 10 = .ok (.iconst 1, 1) := by decide +kernel
theorem dX11_isKind_11 : decode cX11_isKind 11 = .ok (.goto 4, 3) := by decide +kernel
theorem dX11_isKind_14 : decode cX11_isKind 14 = .ok (.iconst 0, 1) := by decide +kernel
theorem dX11_isKind_15 : decode cX11_isKind 15 = .ok (.ireturn, 1) := by decide +kernel
theorem dX11_isTrialLength_0 : decode cX11_isTrialLength 0 = .ok (.iload_n 0, 1) := by decide +kernel
theorem dX11_isTrialLength_1 : decode cX11_isTrialLength 1 = .ok (.iconst 1, 1) := by decide +kernel
theorem dX11_isTrialLength_2 : decode cX11_isTrialLength 2 = .ok (.if_icmp .lt 13, 3) := by decide +kernel
theorem dX11_isTrialLength_5 : decode cX11_isTrialLength 5 = .ok (.iload_n 0, 1) := by decide +kernel
theorem dX11_isTrialLength_6 : decode cX11_isTrialLength 6 = .ok (.bipush 20, 2) := by decide +kernel
theorem dX11_isTrialLength_8 : decode cX11_isTrialLength 8 = .ok (.if_icmp .gt 7, 3) := by decide +kernel
theorem dX11_isTrialLength_11 : decode cX11_isTrialLength 11 = .ok (.iconst 1, 1) := by decide +kernel
theorem dX11_isTrialLength_12 : decode cX11_isTrialLength 12 = .ok (.goto 4, 3) := by decide +kernel
theorem dX11_isTrialLength_15 : decode cX11_isTrialLength 15 = .ok (.iconst 0, 1) := by decide +kernel
theorem dX11_isTrialLength_16 : decode cX11_isTrialLength 16 = .ok (.ireturn, 1) := by decide +kernel
theorem dX11_isSheet_0 : decode cX11_isSheet 0 = .ok (.iload_n 0, 1) := by decide +kernel
theorem dX11_isSheet_1 : decode cX11_isSheet 1 = .ok (.ifCond .lt 12, 3) := by decide +kernel
theorem dX11_isSheet_4 : decode cX11_isSheet 4 = .ok (.iload_n 0, 1) := by decide +kernel
theorem dX11_isSheet_5 : decode cX11_isSheet 5 = .ok (.iconst 4, 1) := by decide +kernel
theorem dX11_isSheet_6 : decode cX11_isSheet 6 = .ok (.if_icmp .ge 7, 3) := by decide +kernel
theorem dX11_isSheet_9 : decode cX11_isSheet 9 = .ok (.iconst 1, 1) := by decide +kernel
theorem dX11_isSheet_10 : decode cX11_isSheet 10 = .ok (.goto 4, 3) := by decide +kernel
theorem dX11_isSheet_13 : decode cX11_isSheet 13 = .ok (.iconst 0, 1) := by decide +kernel
theorem dX11_isSheet_14 : decode cX11_isSheet 14 = .ok (.ireturn, 1) := by decide +kernel
theorem dX11_isSort_0 : decode cX11_isSort 0 = .ok (.iload_n 0, 1) := by decide +kernel
theorem dX11_isSort_1 : decode cX11_isSort 1 = .ok (.ifCond .lt 12, 3) := by decide +kernel
theorem dX11_isSort_4 : decode cX11_isSort 4 = .ok (.iload_n 0, 1) := by decide +kernel
theorem dX11_isSort_5 : decode cX11_isSort 5 = .ok (.iconst 4, 1) := by decide +kernel
theorem dX11_isSort_6 : decode cX11_isSort 6 = .ok (.if_icmp .ge 7, 3) := by decide +kernel
theorem dX11_isSort_9 : decode cX11_isSort 9 = .ok (.iconst 1, 1) := by decide +kernel
theorem dX11_isSort_10 : decode cX11_isSort 10 = .ok (.goto 4, 3) := by decide +kernel
theorem dX11_isSort_13 : decode cX11_isSort 13 = .ok (.iconst 0, 1) := by decide +kernel
theorem dX11_isSort_14 : decode cX11_isSort 14 = .ok (.ireturn, 1) := by decide +kernel
theorem dX11_isShelf_0 : decode cX11_isShelf 0 = .ok (.iload_n 0, 1) := by decide +kernel
theorem dX11_isShelf_1 : decode cX11_isShelf 1 = .ok (.ifCond .lt 12, 3) := by decide +kernel
theorem dX11_isShelf_4 : decode cX11_isShelf 4 = .ok (.iload_n 0, 1) := by decide +kernel
theorem dX11_isShelf_5 : decode cX11_isShelf 5 = .ok (.iconst 4, 1) := by decide +kernel
theorem dX11_isShelf_6 : decode cX11_isShelf 6 = .ok (.if_icmp .ge 7, 3) := by decide +kernel
theorem dX11_isShelf_9 : decode cX11_isShelf 9 = .ok (.iconst 1, 1) := by decide +kernel
theorem dX11_isShelf_10 : decode cX11_isShelf 10 = .ok (.goto 4, 3) := by decide +kernel
theorem dX11_isShelf_13 : decode cX11_isShelf 13 = .ok (.iconst 0, 1) := by decide +kernel
theorem dX11_isShelf_14 : decode cX11_isShelf 14 = .ok (.ireturn, 1) := by decide +kernel
theorem dX11_isRowPart_0 : decode cX11_isRowPart 0 = .ok (.iload_n 1, 1) := by decide +kernel
theorem dX11_isRowPart_1 : decode cX11_isRowPart 1 = .ok (.ifCond .lt 24, 3) := by decide +kernel
theorem dX11_isRowPart_4 : decode cX11_isRowPart 4 = .ok (.iload_n 1, 1) := by decide +kernel
theorem dX11_isRowPart_5 : decode cX11_isRowPart 5 = .ok (.aload_n 0, 1) := by decide +kernel
theorem dX11_isRowPart_6 : decode cX11_isRowPart 6 = .ok (.getfield 63, 3) := by decide +kernel
theorem dX11_isRowPart_9 : decode cX11_isRowPart 9 = .ok (.if_icmp .ge 16, 3) := by decide +kernel
theorem dX11_isRowPart_12 : decode cX11_isRowPart 12 = .ok (.iload_n 2, 1) := by decide +kernel
theorem dX11_isRowPart_13 : decode cX11_isRowPart 13 = .ok (.ifCond .lt 12, 3) := by decide +kernel
theorem dX11_isRowPart_16 : decode cX11_isRowPart 16 = .ok (.iload_n 2, 1) := by decide +kernel
theorem dX11_isRowPart_17 : decode cX11_isRowPart 17 = .ok (.iconst 3, 1) := by decide +kernel
theorem dX11_isRowPart_18 : decode cX11_isRowPart 18 = .ok (.if_icmp .ge 7, 3) := by decide +kernel
theorem dX11_isRowPart_21 : decode cX11_isRowPart 21 = .ok (.iconst 1, 1) := by decide +kernel
theorem dX11_isRowPart_22 : decode cX11_isRowPart 22 = .ok (.goto 4, 3) := by decide +kernel
theorem dX11_isRowPart_25 : decode cX11_isRowPart 25 = .ok (.iconst 0, 1) := by decide +kernel
theorem dX11_isRowPart_26 : decode cX11_isRowPart 26 = .ok (.ireturn, 1) := by decide +kernel
theorem dX11_viewSlot_0 : decode cX11_viewSlot 0 = .ok (.iload_n 0, 1) := by decide +kernel
theorem dX11_viewSlot_1 : decode cX11_viewSlot 1 = .ok (.bipush 50, 2) := by decide +kernel
theorem dX11_viewSlot_3 : decode cX11_viewSlot 3 = .ok (.imul, 1) := by decide +kernel
theorem dX11_viewSlot_4 : decode cX11_viewSlot 4 = .ok (.iload_n 1, 1) := by decide +kernel
theorem dX11_viewSlot_5 : decode cX11_viewSlot 5 = .ok (.iadd, 1) := by decide +kernel
theorem dX11_viewSlot_6 : decode cX11_viewSlot 6 = .ok (.ireturn, 1) := by decide +kernel
theorem dX11_loveSlot_0 : decode cX11_loveSlot 0 = .ok (.iload_n 0, 1) := by decide +kernel
theorem dX11_loveSlot_1 : decode cX11_loveSlot 1 = .ok (.iconst 4, 1) := by decide +kernel
theorem dX11_loveSlot_2 : decode cX11_loveSlot 2 = .ok (.imul, 1) := by decide +kernel
theorem dX11_loveSlot_3 : decode cX11_loveSlot 3 = .ok (.iload_n 1, 1) := by decide +kernel
theorem dX11_loveSlot_4 : decode cX11_loveSlot 4 = .ok (.iadd, 1) := by decide +kernel
theorem dX11_loveSlot_5 : decode cX11_loveSlot 5 = .ok (.ireturn, 1) := by decide +kernel
theorem dX11_rowSlot_0 : decode cX11_rowSlot 0 = .ok (.iload_n 0, 1) := by decide +kernel
theorem dX11_rowSlot_1 : decode cX11_rowSlot 1 = .ok (.iconst 3, 1) := by decide +kernel
theorem dX11_rowSlot_2 : decode cX11_rowSlot 2 = .ok (.imul, 1) := by decide +kernel
theorem dX11_rowSlot_3 : decode cX11_rowSlot 3 = .ok (.iload_n 1, 1) := by decide +kernel
theorem dX11_rowSlot_4 : decode cX11_rowSlot 4 = .ok (.iadd, 1) := by decide +kernel
theorem dX11_rowSlot_5 : decode cX11_rowSlot 5 = .ok (.ireturn, 1) := by decide +kernel
theorem dX11_glimpseOf_0 : decode cX11_glimpseOf 0 = .ok (.bipush 10, 2) := by decide +kernel
theorem dX11_glimpseOf_2 : decode cX11_glimpseOf 2 = .ok (.iload_n 1, 1) := by decide +kernel
theorem dX11_glimpseOf_3 : decode cX11_glimpseOf 3 = .ok (.imul, 1) := by decide +kernel
theorem dX11_glimpseOf_4 : decode cX11_glimpseOf 4 = .ok (.iload_n 0, 1) := by decide +kernel
theorem dX11_glimpseOf_5 : decode cX11_glimpseOf 5 = .ok (.iadd, 1) := by decide +kernel
theorem dX11_glimpseOf_6 : decode cX11_glimpseOf 6 = .ok (.ireturn, 1) := by decide +kernel
theorem dX11_isUnder_0 : decode cX11_isUnder 0 = .ok (.iload_n 1, 1) := by decide +kernel
theorem dX11_isUnder_1 : decode cX11_isUnder 1 = .ok (.iload_n 0, 1) := by decide +kernel
theorem dX11_isUnder_2 : decode cX11_isUnder 2 = .ok (.if_icmp .eq 27, 3) := by decide +kernel
theorem dX11_isUnder_5 : decode cX11_isUnder 5 = .ok (.iload_n 1, 1) := by decide +kernel
theorem dX11_isUnder_6 : decode cX11_isUnder 6 = .ok (.ifCond .eq 23, 3) := by decide +kernel
theorem dX11_isUnder_9 : decode cX11_isUnder 9 = .ok (.iload_n 1, 1) := by decide +kernel
theorem dX11_isUnder_10 : decode cX11_isUnder 10 = .ok (.iconst 1, 1) := by decide +kernel
theorem dX11_isUnder_11 : decode cX11_isUnder 11 = .ok (.if_icmp .ne 8, 3) := by decide +kernel
theorem dX11_isUnder_14 : decode cX11_isUnder 14 = .ok (.iload_n 0, 1) := by decide +kernel
theorem dX11_isUnder_15 : decode cX11_isUnder 15 = .ok (.iconst 2, 1) := by decide +kernel
theorem dX11_isUnder_16 : decode cX11_isUnder 16 = .ok (.if_icmp .eq 13, 3) := by decide +kernel
theorem dX11_isUnder_19 : decode cX11_isUnder 19 = .ok (.iload_n 1, 1) := by decide +kernel
theorem dX11_isUnder_20 : decode cX11_isUnder 20 = .ok (.iconst 3, 1) := by decide +kernel
theorem dX11_isUnder_21 : decode cX11_isUnder 21 = .ok (.if_icmp .ne 12, 3) := by decide +kernel
theorem dX11_isUnder_24 : decode cX11_isUnder 24 = .ok (.iload_n 0, 1) := by decide +kernel
theorem dX11_isUnder_25 : decode cX11_isUnder 25 = .ok (.iconst 4, 1) := by decide +kernel
theorem dX11_isUnder_26 : decode cX11_isUnder 26 = .ok (.if_icmp .ne 7, 3) := by decide +kernel
theorem dX11_isUnder_29 : decode cX11_isUnder 29 = .ok (.iconst 1, 1) := by decide +kernel
theorem dX11_isUnder_30 : decode cX11_isUnder 30 = .ok (.goto 4, 3) := by decide +kernel
theorem dX11_isUnder_33 : decode cX11_isUnder 33 = .ok (.iconst 0, 1) := by decide +kernel
theorem dX11_isUnder_34 : decode cX11_isUnder 34 = .ok (.ireturn, 1) := by decide +kernel
set_option maxRecDepth 20000 in
theorem ggX11_firstDayOf_X3_copyFrom : GoodIn wsX11_firstDayOf wsX3_copyFrom := goodIn_r _ [9, 10, 11, 12, 13, 14, 15, 16, 17, 18, 60, 61, 62, 63, 64] (by decide +kernel) (by decide +kernel)
set_option maxRecDepth 20000 in
theorem gX11_firstDayOf_X3_copyFrom : GoodIn wsX11_firstDayOf (wsV RX11 171 RX3 yX3_copyFrom wsX3_copyFrom) := goodIn_app (goodIn_of _ (by decide +kernel)) ggX11_firstDayOf_X3_copyFrom
set_option maxRecDepth 20000 in
theorem ggX11_firstDayOf_X3_last : GoodIn wsX11_firstDayOf wsX3_last := goodIn_r _ [22, 11, 23, 24, 25, 8, 26, 14, 13, 60, 61, 62, 63, 64] (by decide +kernel) (by decide +kernel)
set_option maxRecDepth 20000 in
theorem gX11_firstDayOf_X3_last : GoodIn wsX11_firstDayOf (wsV RX11 174 RX3 yX3_last wsX3_last) := goodIn_app (goodIn_of _ (by decide +kernel)) ggX11_firstDayOf_X3_last
set_option maxRecDepth 20000 in
theorem ggX11_firstDayOf_X3_passDay : GoodIn wsX11_firstDayOf wsX3_passDay := goodIn_r _ [30, 13, 12, 31, 32, 33, 8, 34, 10, 35, 36, 37, 38, 39, 40, 41, 14, 60, 61, 62, 63, 64] (by decide +kernel) (by decide +kernel)
set_option maxRecDepth 20000 in
theorem gX11_firstDayOf_X3_passDay : GoodIn wsX11_firstDayOf (wsV RX11 177 RX3 yX3_passDay wsX3_passDay) := goodIn_app (goodIn_of _ (by decide +kernel)) ggX11_firstDayOf_X3_passDay
theorem dX11_firstDayOf_0 : decode cX11_firstDayOf 0 = .ok (.aload_n 0, 1) := by decide +kernel
theorem dX11_firstDayOf_1 : decode cX11_firstDayOf 1 = .ok (.getfield 12, 3) := by decide +kernel
theorem dX11_firstDayOf_4 : decode cX11_firstDayOf 4 = .ok (.aload_n 0, 1) := by decide +kernel
theorem dX11_firstDayOf_5 : decode cX11_firstDayOf 5 = .ok (.getfield 53, 3) := by decide +kernel
theorem dX11_firstDayOf_8 : decode cX11_firstDayOf 8 = .ok (.getfield 124, 3) := by decide +kernel
theorem dX11_firstDayOf_11 : decode cX11_firstDayOf 11 = .ok (.iload_n 1, 1) := by decide +kernel
theorem dX11_firstDayOf_12 : decode cX11_firstDayOf 12 = .ok (.aaload, 1) := by decide +kernel
theorem dX11_firstDayOf_13 : decode cX11_firstDayOf 13 = .ok (.invokevirtual 171, 3) := by decide +kernel
theorem dX11_firstDayOf_16 : decode cX11_firstDayOf 16 = .ok (.aload_n 0, 1) := by decide +kernel
theorem dX11_firstDayOf_17 : decode cX11_firstDayOf 17 = .ok (.getfield 53, 3) := by decide +kernel
theorem dX11_firstDayOf_20 : decode cX11_firstDayOf 20 = .ok (.getfield 140, 3) := by decide +kernel
theorem dX11_firstDayOf_23 : decode cX11_firstDayOf 23 = .ok (.istore_n 3, 1) := by decide +kernel
theorem dX11_firstDayOf_24 : decode cX11_firstDayOf 24 = .ok (.iload_n 3, 1) := by decide +kernel
theorem dX11_firstDayOf_25 : decode cX11_firstDayOf 25 = .ok (.bipush 50, 2) := by decide +kernel
theorem dX11_firstDayOf_27 : decode cX11_firstDayOf 27 = .ok (.if_icmp .ge 30, 3) := by decide +kernel
theorem dX11_firstDayOf_30 : decode cX11_firstDayOf 30 = .ok (.aload_n 0, 1) := by decide +kernel
theorem dX11_firstDayOf_31 : decode cX11_firstDayOf 31 = .ok (.getfield 12, 3) := by decide +kernel
theorem dX11_firstDayOf_34 : decode cX11_firstDayOf 34 = .ok (.invokevirtual 174, 3) := by decide +kernel
theorem dX11_firstDayOf_37 : decode cX11_firstDayOf 37 = .ok (.iload_n 2, 1) := by decide +kernel
theorem dX11_firstDayOf_38 : decode cX11_firstDayOf 38 = .ok (.if_icmp .ne 5, 3) := by decide +kernel
theorem dX11_firstDayOf_41 : decode cX11_firstDayOf 41 = .ok (.iload_n 3, 1) := by decide +kernel
theorem dX11_firstDayOf_42 : decode cX11_firstDayOf 42 = .ok (.ireturn, 1) := by decide +kernel
theorem dX11_firstDayOf_43 : decode cX11_firstDayOf 43 = .ok (.aload_n 0, 1) := by decide +kernel
theorem dX11_firstDayOf_44 : decode cX11_firstDayOf 44 = .ok (.getfield 12, 3) := by decide +kernel
theorem dX11_firstDayOf_47 : decode cX11_firstDayOf 47 = .ok (.iload_n 3, 1) := by decide +kernel
theorem dX11_firstDayOf_48 : decode cX11_firstDayOf 48 = .ok (.invokevirtual 177, 3) := by decide +kernel
theorem dX11_firstDayOf_51 : decode cX11_firstDayOf 51 = .ok (.iinc 3 1, 3) := by decide +kernel
theorem dX11_firstDayOf_54 : decode cX11_firstDayOf 54 = .ok (.goto (-30), 3) := by decide +kernel
theorem dX11_firstDayOf_57 : decode cX11_firstDayOf 57 = .ok (.bipush 50, 2) := by decide +kernel
theorem dX11_firstDayOf_59 : decode cX11_firstDayOf 59 = .ok (.ireturn, 1) := by decide +kernel
set_option maxRecDepth 20000 in
theorem ggX11_worthAsIs_X3_copyFrom : GoodIn wsX11_worthAsIs wsX3_copyFrom := goodIn_r _ [8, 9, 10, 11, 12, 13, 14, 15, 16, 17, 92, 93, 94, 95, 96] (by decide +kernel) (by decide +kernel)
set_option maxRecDepth 20000 in
theorem gX11_worthAsIs_X3_copyFrom : GoodIn wsX11_worthAsIs (wsV RX11 171 RX3 yX3_copyFrom wsX3_copyFrom) := goodIn_app (goodIn_of _ (by decide +kernel)) ggX11_worthAsIs_X3_copyFrom
set_option maxRecDepth 20000 in
theorem ggX11_worthAsIs_X10_worthOf : GoodIn wsX11_worthAsIs wsX10_worthOf := goodIn_r _ [22, 23, 24, 25, 26, 27, 28, 29, 30, 21, 31, 32, 33, 34, 35, 7, 36, 10, 37, 38, 39, 40, 13, 12, 41, 42, 43, 44, 45, 46, 47, 48, 49, 50, 51, 52, 53, 54, 55, 56, 57, 58, 59, 60, 61, 62, 63, 11, 64, 65, 66, 67, 9, 68, 69, 70, 71, 72, 73, 86, 87, 88, 89, 90, 91, 92, 93, 94, 95, 96] (by decide +kernel) (by decide +kernel)
set_option maxRecDepth 20000 in
theorem gX11_worthAsIs_X10_worthOf : GoodIn wsX11_worthAsIs (wsV RX11 192 RX10 yX10_worthOf wsX10_worthOf) := goodIn_app (goodIn_of _ (by decide +kernel)) ggX11_worthAsIs_X10_worthOf
theorem dX11_worthAsIs_0 : decode cX11_worthAsIs 0 = .ok (.aload_n 0, 1) := by decide +kernel
theorem dX11_worthAsIs_1 : decode cX11_worthAsIs 1 = .ok (.getfield 12, 3) := by decide +kernel
theorem dX11_worthAsIs_4 : decode cX11_worthAsIs 4 = .ok (.aload_n 0, 1) := by decide +kernel
theorem dX11_worthAsIs_5 : decode cX11_worthAsIs 5 = .ok (.getfield 53, 3) := by decide +kernel
theorem dX11_worthAsIs_8 : decode cX11_worthAsIs 8 = .ok (.getfield 124, 3) := by decide +kernel
theorem dX11_worthAsIs_11 : decode cX11_worthAsIs 11 = .ok (.iload_n 1, 1) := by decide +kernel
theorem dX11_worthAsIs_12 : decode cX11_worthAsIs 12 = .ok (.aaload, 1) := by decide +kernel
theorem dX11_worthAsIs_13 : decode cX11_worthAsIs 13 = .ok (.invokevirtual 171, 3) := by decide +kernel
theorem dX11_worthAsIs_16 : decode cX11_worthAsIs 16 = .ok (.aload_n 0, 1) := by decide +kernel
theorem dX11_worthAsIs_17 : decode cX11_worthAsIs 17 = .ok (.getfield 53, 3) := by decide +kernel
theorem dX11_worthAsIs_20 : decode cX11_worthAsIs 20 = .ok (.aload_n 0, 1) := by decide +kernel
theorem dX11_worthAsIs_21 : decode cX11_worthAsIs 21 = .ok (.getfield 12, 3) := by decide +kernel
theorem dX11_worthAsIs_24 : decode cX11_worthAsIs 24 = .ok (.iload_n 2, 1) := by decide +kernel
theorem dX11_worthAsIs_25 : decode cX11_worthAsIs 25 = .ok (.iload_n 3, 1) := by decide +kernel
theorem dX11_worthAsIs_26 : decode cX11_worthAsIs 26 = .ok (.invokevirtual 192, 3) := by decide +kernel
theorem dX11_worthAsIs_29 : decode cX11_worthAsIs 29 = .ok (.ireturn, 1) := by decide +kernel
set_option maxRecDepth 20000 in
theorem ggX11_worthCut_X3_copyFrom : GoodIn wsX11_worthCut wsX3_copyFrom := goodIn_r _ [8, 9, 10, 11, 12, 13, 14, 15, 16, 17, 94, 95, 96, 97, 98] (by decide +kernel) (by decide +kernel)
set_option maxRecDepth 20000 in
theorem gX11_worthCut_X3_copyFrom : GoodIn wsX11_worthCut (wsV RX11 171 RX3 yX3_copyFrom wsX3_copyFrom) := goodIn_app (goodIn_of _ (by decide +kernel)) ggX11_worthCut_X3_copyFrom
set_option maxRecDepth 20000 in
theorem ggX11_worthCut_X10_worthOf : GoodIn wsX11_worthCut wsX10_worthOf := goodIn_r _ [22, 23, 24, 25, 26, 27, 28, 29, 30, 21, 31, 32, 33, 34, 35, 7, 36, 10, 37, 38, 39, 40, 13, 12, 41, 42, 43, 44, 45, 46, 47, 48, 49, 50, 51, 52, 53, 54, 55, 56, 57, 58, 59, 60, 61, 62, 63, 11, 64, 65, 66, 67, 9, 68, 69, 70, 71, 72, 73, 99, 100, 101, 102, 103, 104, 94, 95, 96, 97, 98] (by decide +kernel) (by decide +kernel)
set_option maxRecDepth 20000 in
theorem gX11_worthCut_X10_worthOf : GoodIn wsX11_worthCut (wsV RX11 192 RX10 yX10_worthOf wsX10_worthOf) := goodIn_app (goodIn_of _ (by decide +kernel)) ggX11_worthCut_X10_worthOf
set_option maxRecDepth 20000 in
theorem ggX11_worthCut_X3_becomeBehind : GoodIn wsX11_worthCut wsX3_becomeBehind := goodIn_r _ [77, 10, 78, 79, 80, 7, 81, 9, 11, 70, 71, 72, 73, 13, 12, 37, 38, 39, 40, 94, 95, 96, 97, 98] (by decide +kernel) (by decide +kernel)
set_option maxRecDepth 20000 in
theorem gX11_worthCut_X3_becomeBehind : GoodIn wsX11_worthCut (wsV RX11 159 RX3 yX3_becomeBehind wsX3_becomeBehind) := goodIn_app (goodIn_of _ (by decide +kernel)) ggX11_worthCut_X3_becomeBehind
theorem dX11_worthCut_0 : decode cX11_worthCut 0 = .ok (.aload_n 0, 1) := by decide +kernel
theorem dX11_worthCut_1 : decode cX11_worthCut 1 = .ok (.getfield 12, 3) := by decide +kernel
theorem dX11_worthCut_4 : decode cX11_worthCut 4 = .ok (.aload_n 1, 1) := by decide +kernel
theorem dX11_worthCut_5 : decode cX11_worthCut 5 = .ok (.invokevirtual 171, 3) := by decide +kernel
theorem dX11_worthCut_8 : decode cX11_worthCut 8 = .ok (.aload_n 0, 1) := by decide +kernel
theorem dX11_worthCut_9 : decode cX11_worthCut 9 = .ok (.getfield 12, 3) := by decide +kernel
theorem dX11_worthCut_12 : decode cX11_worthCut 12 = .ok (.iload_n 2, 1) := by decide +kernel
theorem dX11_worthCut_13 : decode cX11_worthCut 13 = .ok (.putfield 131, 3) := by decide +kernel
theorem dX11_worthCut_16 : decode cX11_worthCut 16 = .ok (.aload_n 0, 1) := by decide +kernel
theorem dX11_worthCut_17 : decode cX11_worthCut 17 = .ok (.getfield 53, 3) := by decide +kernel
theorem dX11_worthCut_20 : decode cX11_worthCut 20 = .ok (.aload_n 0, 1) := by decide +kernel
theorem dX11_worthCut_21 : decode cX11_worthCut 21 = .ok (.getfield 12, 3) := by decide +kernel
theorem dX11_worthCut_24 : decode cX11_worthCut 24 = .ok (.iload_n 3, 1) := by decide +kernel
theorem dX11_worthCut_25 : decode cX11_worthCut 25 = .ok (.iload 4, 2) := by decide +kernel
theorem dX11_worthCut_27 : decode cX11_worthCut 27 = .ok (.invokevirtual 192, 3) := by decide +kernel
theorem dX11_worthCut_30 : decode cX11_worthCut 30 = .ok (.istore 5, 2) := by decide +kernel
theorem dX11_worthCut_32 : decode cX11_worthCut 32 = .ok (.aload_n 0, 1) := by decide +kernel
theorem dX11_worthCut_33 : decode cX11_worthCut 33 = .ok (.getfield 12, 3) := by decide +kernel
theorem dX11_worthCut_36 : decode cX11_worthCut 36 = .ok (.aload_n 1, 1) := by decide +kernel
theorem dX11_worthCut_37 : decode cX11_worthCut 37 = .ok (.iload_n 2, 1) := by decide +kernel
theorem dX11_worthCut_38 : decode cX11_worthCut 38 = .ok (.invokevirtual 159, 3) := by decide +kernel
theorem dX11_worthCut_41 : decode cX11_worthCut 41 = .ok (.iload 5, 2) := by decide +kernel
theorem dX11_worthCut_43 : decode cX11_worthCut 43 = .ok (.aload_n 0, 1) := by decide +kernel
theorem dX11_worthCut_44 : decode cX11_worthCut 44 = .ok (.getfield 53, 3) := by decide +kernel
theorem dX11_worthCut_47 : decode cX11_worthCut 47 = .ok (.aload_n 0, 1) := by decide +kernel
theorem dX11_worthCut_48 : decode cX11_worthCut 48 = .ok (.getfield 12, 3) := by decide +kernel
theorem dX11_worthCut_51 : decode cX11_worthCut 51 = .ok (.iload_n 3, 1) := by decide +kernel
theorem dX11_worthCut_52 : decode cX11_worthCut 52 = .ok (.iload 4, 2) := by decide +kernel
theorem dX11_worthCut_54 : decode cX11_worthCut 54 = .ok (.invokevirtual 192, 3) := by decide +kernel
theorem dX11_worthCut_57 : decode cX11_worthCut 57 = .ok (.iadd, 1) := by decide +kernel
theorem dX11_worthCut_58 : decode cX11_worthCut 58 = .ok (.ireturn, 1) := by decide +kernel
set_option maxRecDepth 20000 in
theorem ggX11_rowPart_X10_shownBy : GoodIn wsX11_rowPart wsX10_shownBy := goodIn_r _ [7, 8, 9, 10, 11, 12, 13, 14, 15, 16, 17, 18, 19, 20, 21, 22, 23, 6, 24, 25, 26, 27, 28, 29, 30, 31, 32, 46, 47, 48, 49, 50, 51, 52, 53, 54, 55, 56] (by decide +kernel) (by decide +kernel)
set_option maxRecDepth 20000 in
theorem gX11_rowPart_X10_shownBy : GoodIn wsX11_rowPart (wsV RX11 136 RX10 yX10_shownBy wsX10_shownBy) := goodIn_app (goodIn_of _ (by decide +kernel)) ggX11_rowPart_X10_shownBy
set_option maxRecDepth 20000 in
theorem ggX11_rowPart_X3_last : GoodIn wsX11_rowPart wsX3_last := goodIn_r _ [13, 14, 15, 16, 17, 12, 18, 19, 20, 46, 47, 48, 49, 50] (by decide +kernel) (by decide +kernel)
set_option maxRecDepth 20000 in
theorem gX11_rowPart_X3_last : GoodIn wsX11_rowPart (wsV RX11 174 RX3 yX3_last wsX3_last) := goodIn_app (goodIn_of _ (by decide +kernel)) ggX11_rowPart_X3_last
theorem dX11_rowPart_0 : decode cX11_rowPart 0 = .ok (.iload_n 2, 1) := by decide +kernel
theorem dX11_rowPart_1 : decode cX11_rowPart 1 = .ok (.lookupswitch 41 #[(0, 27), (1, 29)], 27) := by decide +kernel
theorem dX11_rowPart_28 : decode cX11_rowPart 28 = .ok (.iload_n 1, 1) := by decide +kernel
theorem dX11_rowPart_29 : decode cX11_rowPart 29 = .ok (.ireturn, 1) := by decide +kernel
theorem dX11_rowPart_30 : decode cX11_rowPart 30 = .ok (.aload_n 0, 1) := by decide +kernel
theorem dX11_rowPart_31 : decode cX11_rowPart 31 = .ok (.getfield 53, 3) := by decide +kernel
theorem dX11_rowPart_34 : decode cX11_rowPart 34 = .ok (.aload_n 0, 1) := by decide +kernel
theorem dX11_rowPart_35 : decode cX11_rowPart 35 = .ok (.getfield 12, 3) := by decide +kernel
theorem dX11_rowPart_38 : decode cX11_rowPart 38 = .ok (.invokevirtual 136, 3) := by decide +kernel
theorem dX11_rowPart_41 : decode cX11_rowPart 41 = .ok (.ireturn, 1) := by decide +kernel
theorem dX11_rowPart_42 : decode cX11_rowPart 42 = .ok (.aload_n 0, 1) := by decide +kernel
theorem dX11_rowPart_43 : decode cX11_rowPart 43 = .ok (.getfield 12, 3) := by decide +kernel
theorem dX11_rowPart_46 : decode cX11_rowPart 46 = .ok (.invokevirtual 174, 3) := by decide +kernel
theorem dX11_rowPart_49 : decode cX11_rowPart 49 = .ok (.ireturn, 1) := by decide +kernel
set_option maxRecDepth 20000 in
theorem ggX11_isRowRight_X11_rowSlot : GoodIn wsX11_isRowRight wsX11_rowSlot := goodIn_r _ [5] (by decide +kernel) (by decide +kernel)
set_option maxRecDepth 20000 in
theorem gX11_isRowRight_X11_rowSlot : GoodIn wsX11_isRowRight (va_wsS RX11 207 yX11_rowSlot wsX11_rowSlot) := goodIn_app (goodIn_of _ (by decide +kernel)) ggX11_isRowRight_X11_rowSlot
set_option maxRecDepth 20000 in
theorem ggX11_isRowRight_X11_rowPart : GoodIn wsX11_isRowRight wsX11_rowPart := goodIn_r _ [9, 10, 11, 12, 13, 14, 15, 16, 17, 18, 19, 20, 21, 22, 23, 24, 25, 26, 27, 28, 29, 30, 31, 32, 33, 34, 35, 4, 36, 37, 38, 39, 40, 41, 42, 43, 44, 45, 46, 47, 48, 49, 50, 51, 52, 53, 54, 55, 56, 57, 58, 59, 60, 61, 62, 63, 64] (by decide +kernel) (by decide +kernel)
set_option maxRecDepth 20000 in
theorem gX11_isRowRight_X11_rowPart : GoodIn wsX11_isRowRight (wsV RX11 210 RX11 yX11_rowPart wsX11_rowPart) := goodIn_app (goodIn_of _ (by decide +kernel)) ggX11_isRowRight_X11_rowPart
theorem dX11_isRowRight_0 : decode cX11_isRowRight 0 = .ok (.iconst 0, 1) := by decide +kernel
theorem dX11_isRowRight_1 : decode cX11_isRowRight 1 = .ok (.istore_n 3, 1) := by decide +kernel
theorem dX11_isRowRight_2 : decode cX11_isRowRight 2 = .ok (.iload_n 3, 1) := by decide +kernel
theorem dX11_isRowRight_3 : decode cX11_isRowRight 3 = .ok (.iconst 3, 1) := by decide +kernel
theorem dX11_isRowRight_4 : decode cX11_isRowRight 4 = .ok (.if_icmp .ge 30, 3) := by decide +kernel
theorem dX11_isRowRight_7 : decode cX11_isRowRight 7 = .ok (.aload_n 0, 1) := by decide +kernel
theorem dX11_isRowRight_8 : decode cX11_isRowRight 8 = .ok (.getfield 23, 3) := by decide +kernel
theorem dX11_isRowRight_11 : decode cX11_isRowRight 11 = .ok (.iload_n 1, 1) := by decide +kernel
theorem dX11_isRowRight_12 : decode cX11_isRowRight 12 = .ok (.iload_n 3, 1) := by decide +kernel
theorem dX11_isRowRight_13 : decode cX11_isRowRight 13 = .ok (.invokestatic 207, 3) := by decide +kernel
theorem dX11_isRowRight_16 : decode cX11_isRowRight 16 = .ok (.iaload, 1) := by decide +kernel
theorem dX11_isRowRight_17 : decode cX11_isRowRight 17 = .ok (.aload_n 0, 1) := by decide +kernel
theorem dX11_isRowRight_18 : decode cX11_isRowRight 18 = .ok (.iload_n 2, 1) := by decide +kernel
theorem dX11_isRowRight_19 : decode cX11_isRowRight 19 = .ok (.iload_n 3, 1) := by decide +kernel
theorem dX11_isRowRight_20 : decode cX11_isRowRight 20 = .ok (.invokevirtual 210, 3) := by decide +kernel
theorem dX11_isRowRight_23 : decode cX11_isRowRight 23 = .ok (.if_icmp .eq 5, 3) := by decide +kernel
theorem dX11_isRowRight_26 : decode cX11_isRowRight 26 = .ok (.iconst 0, 1) := by decide +kernel
theorem dX11_isRowRight_27 : decode cX11_isRowRight 27 = .ok (.ireturn, 1) := by decide +kernel
theorem dX11_isRowRight_28 : decode cX11_isRowRight 28 = .ok (.iinc 3 1, 3) := by decide +kernel
theorem dX11_isRowRight_31 : decode cX11_isRowRight 31 = .ok (.goto (-29), 3) := by decide +kernel
theorem dX11_isRowRight_34 : decode cX11_isRowRight 34 = .ok (.iconst 1, 1) := by decide +kernel
theorem dX11_isRowRight_35 : decode cX11_isRowRight 35 = .ok (.ireturn, 1) := by decide +kernel
set_option maxRecDepth 20000 in
theorem ggX11_thingOf_X7_init : GoodIn wsX11_thingOf wsX7_init := goodIn_r _ [26, 27, 28, 23, 29, 30, 31, 32, 33, 34, 35, 82, 83, 84, 79, 80, 81, 88, 89, 90, 85, 86, 87, 76, 77, 78, 91, 92, 93] (by decide +kernel) (by decide +kernel)
set_option maxRecDepth 20000 in
theorem gX11_thingOf_X7_init : GoodIn wsX11_thingOf (wsX7_init) := ggX11_thingOf_X7_init
set_option maxRecDepth 20000 in
theorem ggX11_thingOf_X1_init : GoodIn wsX11_thingOf wsX1_init := goodIn_r _ [38, 39, 25, 7, 26, 27, 28, 23, 29, 30, 31, 32, 33, 34, 35, 82, 83, 84, 79, 80, 81, 88, 89, 90, 85, 86, 87, 76, 77, 78, 91, 92, 93] (by decide +kernel) (by decide +kernel)
set_option maxRecDepth 20000 in
theorem gX11_thingOf_X1_init : GoodIn wsX11_thingOf (wsX1_init) := ggX11_thingOf_X1_init
set_option maxRecDepth 20000 in
theorem ggX11_thingOf_X0_init : GoodIn wsX11_thingOf wsX0_init := goodIn_r _ [42, 43, 28, 23, 29, 30, 31, 32, 33, 34, 35, 82, 83, 84, 79, 80, 81, 88, 89, 90, 85, 86, 87, 76, 77, 78, 91, 92, 93] (by decide +kernel) (by decide +kernel)
set_option maxRecDepth 20000 in
theorem gX11_thingOf_X0_init : GoodIn wsX11_thingOf (wsX0_init) := ggX11_thingOf_X0_init
set_option maxRecDepth 20000 in
theorem ggX11_thingOf_X5_init : GoodIn wsX11_thingOf wsX5_init := goodIn_r _ [46, 47, 41, 14, 42, 43, 28, 23, 29, 30, 31, 32, 33, 34, 35, 82, 83, 84, 79, 80, 81, 88, 89, 90, 85, 86, 87, 76, 77, 78, 91, 92, 93] (by decide +kernel) (by decide +kernel)
set_option maxRecDepth 20000 in
theorem gX11_thingOf_X5_init : GoodIn wsX11_thingOf (wsX5_init) := ggX11_thingOf_X5_init
set_option maxRecDepth 20000 in
theorem ggX11_thingOf_X2_init : GoodIn wsX11_thingOf wsX2_init := goodIn_r _ [50, 51, 28, 23, 29, 30, 31, 32, 33, 34, 35, 82, 83, 84, 79, 80, 81, 88, 89, 90, 85, 86, 87, 76, 77, 78, 91, 92, 93] (by decide +kernel) (by decide +kernel)
set_option maxRecDepth 20000 in
theorem gX11_thingOf_X2_init : GoodIn wsX11_thingOf (wsX2_init) := ggX11_thingOf_X2_init
set_option maxRecDepth 20000 in
theorem ggX11_thingOf_X8_init : GoodIn wsX11_thingOf wsX8_init := goodIn_r _ [29, 30, 31, 32, 33, 34, 35, 82, 83, 84, 79, 80, 81, 88, 89, 90, 85, 86, 87, 76, 77, 78, 91, 92, 93] (by decide +kernel) (by decide +kernel)
set_option maxRecDepth 20000 in
theorem gX11_thingOf_X8_init : GoodIn wsX11_thingOf (wsX8_init) := ggX11_thingOf_X8_init
theorem dX11_thingOf_0 : decode cX11_thingOf 0 = .ok (.aload_n 0, 1) := by decide +kernel
theorem dX11_thingOf_1 : decode cX11_thingOf 1 = .ok (.getfield 53, 3) := by decide +kernel
theorem dX11_thingOf_4 : decode cX11_thingOf 4 = .ok (.getfield 124, 3) := by decide +kernel
theorem dX11_thingOf_7 : decode cX11_thingOf 7 = .ok (.iload_n 1, 1) := by decide +kernel
theorem dX11_thingOf_8 : decode cX11_thingOf 8 = .ok (.aaload, 1) := by decide +kernel
theorem dX11_thingOf_9 : decode cX11_thingOf 9 = .ok (.getfield 131, 3) := by decide +kernel
theorem dX11_thingOf_12 : decode cX11_thingOf 12 = .ok (.istore_n 2, 1) := by decide +kernel
theorem dX11_thingOf_13 : decode cX11_thingOf 13 = .ok (.aload_n 0, 1) := by decide +kernel
theorem dX11_thingOf_14 : decode cX11_thingOf 14 = .ok (.getfield 53, 3) := by decide +kernel
theorem dX11_thingOf_17 : decode cX11_thingOf 17 = .ok (.getfield 124, 3) := by decide +kernel
theorem dX11_thingOf_20 : decode cX11_thingOf 20 = .ok (.iload_n 1, 1) := by decide +kernel
theorem dX11_thingOf_21 : decode cX11_thingOf 21 = .ok (.aaload, 1) := by decide +kernel
theorem dX11_thingOf_22 : decode cX11_thingOf 22 = .ok (.getfield 128, 3) := by decide +kernel
theorem dX11_thingOf_25 : decode cX11_thingOf 25 = .ok (.tableswitch 105 1 5 #[35, 49, 63, 77, 91], 35) := by decide +kernel
theorem dX11_thingOf_60 : decode cX11_thingOf 60 = .ok (.new 282, 3) := by decide +kernel
theorem dX11_thingOf_63 : decode cX11_thingOf 63 = .ok (.dup, 1) := by decide +kernel
theorem dX11_thingOf_64 : decode cX11_thingOf 64 = .ok (.iload_n 1, 1) := by decide +kernel
theorem dX11_thingOf_65 : decode cX11_thingOf 65 = .ok (.iload_n 2, 1) := by decide +kernel
theorem dX11_thingOf_66 : decode cX11_thingOf 66 = .ok (.aload_n 0, 1) := by decide +kernel
theorem dX11_thingOf_67 : decode cX11_thingOf 67 = .ok (.getfield 42, 3) := by decide +kernel
theorem dX11_thingOf_70 : decode cX11_thingOf 70 = .ok (.invokespecial 284, 3) := by decide +kernel
theorem dX11_thingOf_73 : decode cX11_thingOf 73 = .ok (.areturn, 1) := by decide +kernel
theorem dX11_thingOf_74 : decode cX11_thingOf 74 = .ok (.new 287, 3) := by decide +kernel
theorem dX11_thingOf_77 : decode cX11_thingOf 77 = .ok (.dup, 1) := by decide +kernel
theorem dX11_thingOf_78 : decode cX11_thingOf 78 = .ok (.iload_n 1, 1) := by decide +kernel
theorem dX11_thingOf_79 : decode cX11_thingOf 79 = .ok (.iload_n 2, 1) := by decide +kernel
theorem dX11_thingOf_80 : decode cX11_thingOf 80 = .ok (.aload_n 0, 1) := by decide +kernel
theorem dX11_thingOf_81 : decode cX11_thingOf 81 = .ok (.getfield 42, 3) := by decide +kernel
theorem dX11_thingOf_84 : decode cX11_thingOf 84 = .ok (.invokespecial 289, 3) := by decide +kernel
theorem dX11_thingOf_87 : decode cX11_thingOf 87 = .ok (.areturn, 1) := by decide +kernel
theorem dX11_thingOf_88 : decode cX11_thingOf 88 = .ok (.new 290, 3) := by decide +kernel
theorem dX11_thingOf_91 : decode cX11_thingOf 91 = .ok (.dup, 1) := by decide +kernel
theorem dX11_thingOf_92 : decode cX11_thingOf 92 = .ok (.iload_n 1, 1) := by decide +kernel
theorem dX11_thingOf_93 : decode cX11_thingOf 93 = .ok (.iload_n 2, 1) := by decide +kernel
theorem dX11_thingOf_94 : decode cX11_thingOf 94 = .ok (.aload_n 0, 1) := by decide +kernel
theorem dX11_thingOf_95 : decode cX11_thingOf 95 = .ok (.getfield 42, 3) := by decide +kernel
theorem dX11_thingOf_98 : decode cX11_thingOf 98 = .ok (.invokespecial 292, 3) := by decide +kernel
theorem dX11_thingOf_101 : decode cX11_thingOf 101 = .ok (.areturn, 1) := by decide +kernel
theorem dX11_thingOf_102 : decode cX11_thingOf 102 = .ok (.new 293, 3) := by decide +kernel
theorem dX11_thingOf_105 : decode cX11_thingOf 105 = .ok (.dup, 1) := by decide +kernel
theorem dX11_thingOf_106 : decode cX11_thingOf 106 = .ok (.iload_n 1, 1) := by decide +kernel
theorem dX11_thingOf_107 : decode cX11_thingOf 107 = .ok (.iload_n 2, 1) := by decide +kernel
theorem dX11_thingOf_108 : decode cX11_thingOf 108 = .ok (.aload_n 0, 1) := by decide +kernel
theorem dX11_thingOf_109 : decode cX11_thingOf 109 = .ok (.getfield 42, 3) := by decide +kernel
theorem dX11_thingOf_112 : decode cX11_thingOf 112 = .ok (.invokespecial 295, 3) := by decide +kernel
theorem dX11_thingOf_115 : decode cX11_thingOf 115 = .ok (.areturn, 1) := by decide +kernel
theorem dX11_thingOf_116 : decode cX11_thingOf 116 = .ok (.new 296, 3) := by decide +kernel
theorem dX11_thingOf_119 : decode cX11_thingOf 119 = .ok (.dup, 1) := by decide +kernel
theorem dX11_thingOf_120 : decode cX11_thingOf 120 = .ok (.iload_n 1, 1) := by decide +kernel
theorem dX11_thingOf_121 : decode cX11_thingOf 121 = .ok (.iload_n 2, 1) := by decide +kernel
theorem dX11_thingOf_122 : decode cX11_thingOf 122 = .ok (.aload_n 0, 1) := by decide +kernel
theorem dX11_thingOf_123 : decode cX11_thingOf 123 = .ok (.getfield 42, 3) := by decide +kernel
theorem dX11_thingOf_126 : decode cX11_thingOf 126 = .ok (.invokespecial 298, 3) := by decide +kernel
theorem dX11_thingOf_129 : decode cX11_thingOf 129 = .ok (.areturn, 1) := by decide +kernel
theorem dX11_thingOf_130 : decode cX11_thingOf 130 = .ok (.new 256, 3) := by decide +kernel
theorem dX11_thingOf_133 : decode cX11_thingOf 133 = .ok (.dup, 1) := by decide +kernel
theorem dX11_thingOf_134 : decode cX11_thingOf 134 = .ok (.iload_n 1, 1) := by decide +kernel
theorem dX11_thingOf_135 : decode cX11_thingOf 135 = .ok (.iload_n 2, 1) := by decide +kernel
theorem dX11_thingOf_136 : decode cX11_thingOf 136 = .ok (.aload_n 0, 1) := by decide +kernel
theorem dX11_thingOf_137 : decode cX11_thingOf 137 = .ok (.getfield 42, 3) := by decide +kernel
theorem dX11_thingOf_140 : decode cX11_thingOf 140 = .ok (.invokespecial 299, 3) := by decide +kernel
theorem dX11_thingOf_143 : decode cX11_thingOf 143 = .ok (.areturn, 1) := by decide +kernel
theorem dX12_init_0 : decode cX12_init 0 = .ok (.aload_n 0, 1) := by decide +kernel
theorem dX12_init_1 : decode cX12_init 1 = .ok (.invokespecial 1, 3) := by decide +kernel
theorem dX12_init_4 : decode cX12_init 4 = .ok (.aload_n 0, 1) := by decide +kernel
theorem dX12_init_5 : decode cX12_init 5 = .ok (.sipush 200, 3) := by decide +kernel
theorem dX12_init_8 : decode cX12_init 8 = .ok (.newarray .int, 2) := by decide +kernel
theorem dX12_init_10 : decode cX12_init 10 = .ok (.putfield 7, 3) := by decide +kernel
theorem dX12_init_13 : decode cX12_init 13 = .ok (.aload_n 0, 1) := by decide +kernel
theorem dX12_init_14 : decode cX12_init 14 = .ok (.bipush 12, 2) := by decide +kernel
theorem dX12_init_16 : decode cX12_init 16 = .ok (.newarray .int, 2) := by decide +kernel
theorem dX12_init_18 : decode cX12_init 18 = .ok (.dup, 1) := by decide +kernel
theorem dX12_init_19 : decode cX12_init 19 = .ok (.iconst 0, 1) := by decide +kernel
theorem dX12_init_20 : decode cX12_init 20 = .ok (.iconst 1, 1) := by decide +kernel
theorem dX12_init_21 : decode cX12_init 21 = .ok (.iastore, 1) := by decide +kernel
theorem dX12_init_22 : decode cX12_init 22 = .ok (.dup, 1) := by decide +kernel
theorem dX12_init_23 : decode cX12_init 23 = .ok (.iconst 1, 1) := by decide +kernel
theorem dX12_init_24 : decode cX12_init 24 = .ok (.iconst 1, 1) := by decide +kernel
theorem dX12_init_25 : decode cX12_init 25 = .ok (.iastore, 1) := by decide +kernel
theorem dX12_init_26 : decode cX12_init 26 = .ok (.dup, 1) := by decide +kernel
theorem dX12_init_27 : decode cX12_init 27 = .ok (.iconst 2, 1) := by decide +kernel
theorem dX12_init_28 : decode cX12_init 28 = .ok (.iconst 1, 1) := by decide +kernel
theorem dX12_init_29 : decode cX12_init 29 = .ok (.iastore, 1) := by decide +kernel
theorem dX12_init_30 : decode cX12_init 30 = .ok (.dup, 1) := by decide +kernel
theorem dX12_init_31 : decode cX12_init 31 = .ok (.iconst 3, 1) := by decide +kernel
theorem dX12_init_32 : decode cX12_init 32 = .ok (.iconst 1, 1) := by decide +kernel
theorem dX12_init_33 : decode cX12_init 33 = .ok (.iastore, 1) := by decide +kernel
theorem dX12_init_34 : decode cX12_init 34 = .ok (.dup, 1) := by decide +kernel
theorem dX12_init_35 : decode cX12_init 35 = .ok (.iconst 4, 1) := by decide +kernel
theorem dX12_init_36 : decode cX12_init 36 = .ok (.iconst 1, 1) := by decide +kernel
theorem dX12_init_37 : decode cX12_init 37 = .ok (.iastore, 1) := by decide +kernel
theorem dX12_init_38 : decode cX12_init 38 = .ok (.dup, 1) := by decide +kernel
theorem dX12_init_39 : decode cX12_init 39 = .ok (.iconst 5, 1) := by decide +kernel
theorem dX12_init_40 : decode cX12_init 40 = .ok (.iconst 1, 1) := by decide +kernel
theorem dX12_init_41 : decode cX12_init 41 = .ok (.iastore, 1) := by decide +kernel
theorem dX12_init_42 : decode cX12_init 42 = .ok (.dup, 1) := by decide +kernel
theorem dX12_init_43 : decode cX12_init 43 = .ok (.bipush 6, 2) := by decide +kernel
theorem dX12_init_45 : decode cX12_init 45 = .ok (.iconst 1, 1) := by decide +kernel
theorem dX12_init_46 : decode cX12_init 46 = .ok (.iastore, 1) := by decide +kernel
theorem dX12_init_47 : decode cX12_init 47 = .ok (.dup, 1) := by decide +kernel
theorem dX12_init_48 : decode cX12_init 48 = .ok (.bipush 7, 2) := by decide +kernel
theorem dX12_init_50 : decode cX12_init 50 = .ok (.iconst 1, 1) := by decide +kernel
theorem dX12_init_51 : decode cX12_init 51 = .ok (.iastore, 1) := by decide +kernel
theorem dX12_init_52 : decode cX12_init 52 = .ok (.dup, 1) := by decide +kernel
theorem dX12_init_53 : decode cX12_init 53 = .ok (.bipush 8, 2) := by decide +kernel
theorem dX12_init_55 : decode cX12_init 55 = .ok (.iconst 1, 1) := by decide +kernel
theorem dX12_init_56 : decode cX12_init 56 = .ok (.iastore, 1) := by decide +kernel
theorem dX12_init_57 : decode cX12_init 57 = .ok (.dup, 1) := by decide +kernel
theorem dX12_init_58 : decode cX12_init 58 = .ok (.bipush 9, 2) := by decide +kernel
theorem dX12_init_60 : decode cX12_init 60 = .ok (.iconst 1, 1) := by decide +kernel
theorem dX12_init_61 : decode cX12_init 61 = .ok (.iastore, 1) := by decide +kernel
theorem dX12_init_62 : decode cX12_init 62 = .ok (.dup, 1) := by decide +kernel
theorem dX12_init_63 : decode cX12_init 63 = .ok (.bipush 10, 2) := by decide +kernel
theorem dX12_init_65 : decode cX12_init 65 = .ok (.iconst 1, 1) := by decide +kernel
theorem dX12_init_66 : decode cX12_init 66 = .ok (.iastore, 1) := by decide +kernel
theorem dX12_init_67 : decode cX12_init 67 = .ok (.dup, 1) := by decide +kernel
theorem dX12_init_68 : decode cX12_init 68 = .ok (.bipush 11, 2) := by decide +kernel
theorem dX12_init_70 : decode cX12_init 70 = .ok (.iconst 1, 1) := by decide +kernel
theorem dX12_init_71 : decode cX12_init 71 = .ok (.iastore, 1) := by decide +kernel
theorem dX12_init_72 : decode cX12_init 72 = .ok (.putfield 13, 3) := by decide +kernel
theorem dX12_init_75 : decode cX12_init 75 = .ok (.aload_n 0, 1) := by decide +kernel
theorem dX12_init_76 : decode cX12_init 76 = .ok (.sipush 232, 3) := by decide +kernel
theorem dX12_init_79 : decode cX12_init 79 = .ok (.newarray .int, 2) := by decide +kernel
theorem dX12_init_81 : decode cX12_init 81 = .ok (.putfield 16, 3) := by decide +kernel
theorem dX12_init_84 : decode cX12_init 84 = .ok (.aload_n 0, 1) := by decide +kernel
theorem dX12_init_85 : decode cX12_init 85 = .ok (.iconst 1, 1) := by decide +kernel
theorem dX12_init_86 : decode cX12_init 86 = .ok (.putfield 19, 3) := by decide +kernel
theorem dX12_init_89 : decode cX12_init 89 = .ok (.aload_n 0, 1) := by decide +kernel
theorem dX12_init_90 : decode cX12_init 90 = .ok (.sipush 200, 3) := by decide +kernel
theorem dX12_init_93 : decode cX12_init 93 = .ok (.newarray .int, 2) := by decide +kernel
theorem dX12_init_95 : decode cX12_init 95 = .ok (.putfield 23, 3) := by decide +kernel
theorem dX12_init_98 : decode cX12_init 98 = .ok (.aload_n 0, 1) := by decide +kernel
theorem dX12_init_99 : decode cX12_init 99 = .ok (.sipush 200, 3) := by decide +kernel
theorem dX12_init_102 : decode cX12_init 102 = .ok (.newarray .int, 2) := by decide +kernel
theorem dX12_init_104 : decode cX12_init 104 = .ok (.putfield 26, 3) := by decide +kernel
theorem dX12_init_107 : decode cX12_init 107 = .ok (.aload_n 0, 1) := by decide +kernel
theorem dX12_init_108 : decode cX12_init 108 = .ok (.bipush 12, 2) := by decide +kernel
theorem dX12_init_110 : decode cX12_init 110 = .ok (.newarray .int, 2) := by decide +kernel
theorem dX12_init_112 : decode cX12_init 112 = .ok (.putfield 29, 3) := by decide +kernel
theorem dX12_init_115 : decode cX12_init 115 = .ok (.aload_n 0, 1) := by decide +kernel
theorem dX12_init_116 : decode cX12_init 116 = .ok (.bipush 18, 2) := by decide +kernel
theorem dX12_init_118 : decode cX12_init 118 = .ok (.newarray .int, 2) := by decide +kernel
theorem dX12_init_120 : decode cX12_init 120 = .ok (.putfield 32, 3) := by decide +kernel
theorem dX12_init_123 : decode cX12_init 123 = .ok (.aload_n 0, 1) := by decide +kernel
theorem dX12_init_124 : decode cX12_init 124 = .ok (.iconst 4, 1) := by decide +kernel
theorem dX12_init_125 : decode cX12_init 125 = .ok (.newarray .int, 2) := by decide +kernel
theorem dX12_init_127 : decode cX12_init 127 = .ok (.putfield 35, 3) := by decide +kernel
theorem dX12_init_130 : decode cX12_init 130 = .ok (.aload_n 0, 1) := by decide +kernel
theorem dX12_init_131 : decode cX12_init 131 = .ok (.bipush 60, 2) := by decide +kernel
theorem dX12_init_133 : decode cX12_init 133 = .ok (.newarray .int, 2) := by decide +kernel
theorem dX12_init_135 : decode cX12_init 135 = .ok (.putfield 38, 3) := by decide +kernel
theorem dX12_init_138 : decode cX12_init 138 = .ok (.aload_n 0, 1) := by decide +kernel
theorem dX12_init_139 : decode cX12_init 139 = .ok (.bipush 60, 2) := by decide +kernel
theorem dX12_init_141 : decode cX12_init 141 = .ok (.newarray .int, 2) := by decide +kernel
theorem dX12_init_143 : decode cX12_init 143 = .ok (.putfield 41, 3) := by decide +kernel
theorem dX12_init_146 : decode cX12_init 146 = .ok (.aload_n 0, 1) := by decide +kernel
theorem dX12_init_147 : decode cX12_init 147 = .ok (.iconst 4, 1) := by decide +kernel
theorem dX12_init_148 : decode cX12_init 148 = .ok (.newarray .int, 2) := by decide +kernel
theorem dX12_init_150 : decode cX12_init 150 = .ok (.dup, 1) := by decide +kernel
theorem dX12_init_151 : decode cX12_init 151 = .ok (.iconst 0, 1) := by decide +kernel
theorem dX12_init_152 : decode cX12_init 152 = .ok (.iconst (-1), 1) := by decide +kernel
theorem dX12_init_153 : decode cX12_init 153 = .ok (.iastore, 1) := by decide +kernel
theorem dX12_init_154 : decode cX12_init 154 = .ok (.dup, 1) := by decide +kernel
theorem dX12_init_155 : decode cX12_init 155 = .ok (.iconst 1, 1) := by decide +kernel
theorem dX12_init_156 : decode cX12_init 156 = .ok (.iconst (-1), 1) := by decide +kernel
theorem dX12_init_157 : decode cX12_init 157 = .ok (.iastore, 1) := by decide +kernel
theorem dX12_init_158 : decode cX12_init 158 = .ok (.dup, 1) := by decide +kernel
theorem dX12_init_159 : decode cX12_init 159 = .ok (.iconst 2, 1) := by decide +kernel
theorem dX12_init_160 : decode cX12_init 160 = .ok (.iconst (-1), 1) := by decide +kernel
theorem dX12_init_161 : decode cX12_init 161 = .ok (.iastore, 1) := by decide +kernel
theorem dX12_init_162 : decode cX12_init 162 = .ok (.dup, 1) := by decide +kernel
theorem dX12_init_163 : decode cX12_init 163 = .ok (.iconst 3, 1) := by decide +kernel
theorem dX12_init_164 : decode cX12_init 164 = .ok (.iconst (-1), 1) := by decide +kernel
theorem dX12_init_165 : decode cX12_init 165 = .ok (.iastore, 1) := by decide +kernel
theorem dX12_init_166 : decode cX12_init 166 = .ok (.putfield 44, 3) := by decide +kernel
theorem dX12_init_169 : decode cX12_init 169 = .ok (.aload_n 0, 1) := by decide +kernel
theorem dX12_init_170 : decode cX12_init 170 = .ok (.iconst 4, 1) := by decide +kernel
theorem dX12_init_171 : decode cX12_init 171 = .ok (.newarray .int, 2) := by decide +kernel
theorem dX12_init_173 : decode cX12_init 173 = .ok (.putfield 47, 3) := by decide +kernel
theorem dX12_init_176 : decode cX12_init 176 = .ok (.aload_n 0, 1) := by decide +kernel
theorem dX12_init_177 : decode cX12_init 177 = .ok (.sipush 160, 3) := by decide +kernel
theorem dX12_init_180 : decode cX12_init 180 = .ok (.newarray .long, 2) := by decide +kernel
theorem dX12_init_182 : decode cX12_init 182 = .ok (.putfield 50, 3) := by decide +kernel
theorem dX12_init_185 : decode cX12_init 185 = .ok (.aload_n 0, 1) := by decide +kernel
theorem dX12_init_186 : decode cX12_init 186 = .ok (.iconst 4, 1) := by decide +kernel
theorem dX12_init_187 : decode cX12_init 187 = .ok (.newarray .int, 2) := by decide +kernel
theorem dX12_init_189 : decode cX12_init 189 = .ok (.dup, 1) := by decide +kernel
theorem dX12_init_190 : decode cX12_init 190 = .ok (.iconst 0, 1) := by decide +kernel
theorem dX12_init_191 : decode cX12_init 191 = .ok (.iconst (-1), 1) := by decide +kernel
theorem dX12_init_192 : decode cX12_init 192 = .ok (.iastore, 1) := by decide +kernel
theorem dX12_init_193 : decode cX12_init 193 = .ok (.dup, 1) := by decide +kernel
theorem dX12_init_194 : decode cX12_init 194 = .ok (.iconst 1, 1) := by decide +kernel
theorem dX12_init_195 : decode cX12_init 195 = .ok (.iconst (-1), 1) := by decide +kernel
theorem dX12_init_196 : decode cX12_init 196 = .ok (.iastore, 1) := by decide +kernel
theorem dX12_init_197 : decode cX12_init 197 = .ok (.dup, 1) := by decide +kernel
theorem dX12_init_198 : decode cX12_init 198 = .ok (.iconst 2, 1) := by decide +kernel
theorem dX12_init_199 : decode cX12_init 199 = .ok (.iconst (-1), 1) := by decide +kernel
theorem dX12_init_200 : decode cX12_init 200 = .ok (.iastore, 1) := by decide +kernel
theorem dX12_init_201 : decode cX12_init 201 = .ok (.dup, 1) := by decide +kernel
theorem dX12_init_202 : decode cX12_init 202 = .ok (.iconst 3, 1) := by decide +kernel
theorem dX12_init_203 : decode cX12_init 203 = .ok (.iconst (-1), 1) := by decide +kernel
theorem dX12_init_204 : decode cX12_init 204 = .ok (.iastore, 1) := by decide +kernel
theorem dX12_init_205 : decode cX12_init 205 = .ok (.putfield 54, 3) := by decide +kernel
theorem dX12_init_208 : decode cX12_init 208 = .ok (.aload_n 0, 1) := by decide +kernel
theorem dX12_init_209 : decode cX12_init 209 = .ok (.iconst 4, 1) := by decide +kernel
theorem dX12_init_210 : decode cX12_init 210 = .ok (.newarray .int, 2) := by decide +kernel
theorem dX12_init_212 : decode cX12_init 212 = .ok (.putfield 57, 3) := by decide +kernel
theorem dX12_init_215 : decode cX12_init 215 = .ok (.aload_n 0, 1) := by decide +kernel
theorem dX12_init_216 : decode cX12_init 216 = .ok (.iconst 4, 1) := by decide +kernel
theorem dX12_init_217 : decode cX12_init 217 = .ok (.newarray .int, 2) := by decide +kernel
theorem dX12_init_219 : decode cX12_init 219 = .ok (.putfield 60, 3) := by decide +kernel
theorem dX12_init_222 : decode cX12_init 222 = .ok (.aload_n 0, 1) := by decide +kernel
theorem dX12_init_223 : decode cX12_init 223 = .ok (.bipush 30, 2) := by decide +kernel
theorem dX12_init_225 : decode cX12_init 225 = .ok (.newarray .int, 2) := by decide +kernel
theorem dX12_init_227 : decode cX12_init 227 = .ok (.putfield 63, 3) := by decide +kernel
theorem dX12_init_230 : decode cX12_init 230 = .ok (.aload_n 0, 1) := by decide +kernel
theorem dX12_init_231 : decode cX12_init 231 = .ok (.sipush 330, 3) := by decide +kernel
theorem dX12_init_234 : decode cX12_init 234 = .ok (.newarray .int, 2) := by decide +kernel
theorem dX12_init_236 : decode cX12_init 236 = .ok (.putfield 66, 3) := by decide +kernel
theorem dX12_init_239 : decode cX12_init 239 = .ok (.aload_n 0, 1) := by decide +kernel
theorem dX12_init_240 : decode cX12_init 240 = .ok (.iconst 1, 1) := by decide +kernel
theorem dX12_init_241 : decode cX12_init 241 = .ok (.newarray .int, 2) := by decide +kernel
theorem dX12_init_243 : decode cX12_init 243 = .ok (.putfield 69, 3) := by decide +kernel
theorem dX12_init_246 : decode cX12_init 246 = .ok (.return_, 1) := by decide +kernel
theorem dX12_in_0 : decode cX12_in 0 = .ok (.iload_n 0, 1) := by decide +kernel
theorem dX12_in_1 : decode cX12_in 1 = .ok (.iload_n 1, 1) := by decide +kernel
theorem dX12_in_2 : decode cX12_in 2 = .ok (.if_icmp .lt 12, 3) := by decide +kernel
theorem dX12_in_5 : decode cX12_in 5 = .ok (.iload_n 0, 1) := by decide +kernel
theorem dX12_in_6 : decode cX12_in 6 = .ok (.iload_n 2, 1) := by decide +kernel
theorem dX12_in_7 : decode cX12_in 7 = .ok (.if_icmp .gt 7, 3) := by decide +kernel
theorem dX12_in_10 : decode cX12_in 10 = .ok (.iconst 1, 1) := by decide +kernel
theorem dX12_in_11 : decode cX12_in 11 = .ok (.goto 4, 3) := by decide +kernel
theorem dX12_in_14 : decode cX12_in 14 = .ok (.iconst 0, 1) := by decide +kernel
theorem dX12_in_15 : decode cX12_in 15 = .ok (.ireturn, 1) := by decide +kernel
set_option maxRecDepth 20000 in
theorem ggX12_isPlace_X12_in : GoodIn wsX12_isPlace wsX12_in := goodIn_r _ [4] (by decide +kernel) (by decide +kernel)
set_option maxRecDepth 20000 in
theorem gX12_isPlace_X12_in : GoodIn wsX12_isPlace (va_wsS RX12 72 yX12_in wsX12_in) := goodIn_app (goodIn_of _ (by decide +kernel)) ggX12_isPlace_X12_in
theorem dX12_isPlace_0 : decode cX12_isPlace 0 = .ok (.iload_n 0, 1) := by decide +kernel
theorem dX12_isPlace_1 : decode cX12_isPlace 1 = .ok (.iconst 0, 1) := by decide +kernel
theorem dX12_isPlace_2 : decode cX12_isPlace 2 = .ok (.iconst 3, 1) := by decide +kernel
theorem dX12_isPlace_3 : decode cX12_isPlace 3 = .ok (.invokestatic 72, 3) := by decide +kernel
theorem dX12_isPlace_6 : decode cX12_isPlace 6 = .ok (.ireturn, 1) := by decide +kernel
set_option maxRecDepth 20000 in
theorem ggX12_isDay_X12_in : GoodIn wsX12_isDay wsX12_in := goodIn_r _ [4] (by decide +kernel) (by decide +kernel)
set_option maxRecDepth 20000 in
theorem gX12_isDay_X12_in : GoodIn wsX12_isDay (va_wsS RX12 72 yX12_in wsX12_in) := goodIn_app (goodIn_of _ (by decide +kernel)) ggX12_isDay_X12_in
theorem dX12_isDay_0 : decode cX12_isDay 0 = .ok (.iload_n 0, 1) := by decide +kernel
theorem dX12_isDay_1 : decode cX12_isDay 1 = .ok (.iconst 0, 1) := by decide +kernel
theorem dX12_isDay_2 : decode cX12_isDay 2 = .ok (.bipush 49, 2) := by decide +kernel
theorem dX12_isDay_4 : decode cX12_isDay 4 = .ok (.invokestatic 72, 3) := by decide +kernel
theorem dX12_isDay_7 : decode cX12_isDay 7 = .ok (.ireturn, 1) := by decide +kernel
set_option maxRecDepth 20000 in
theorem ggX12_isPane_X12_in : GoodIn wsX12_isPane wsX12_in := goodIn_r _ [5] (by decide +kernel) (by decide +kernel)
set_option maxRecDepth 20000 in
theorem gX12_isPane_X12_in : GoodIn wsX12_isPane (va_wsS RX12 72 yX12_in wsX12_in) := goodIn_app (goodIn_of _ (by decide +kernel)) ggX12_isPane_X12_in
theorem dX12_isPane_0 : decode cX12_isPane 0 = .ok (.iload_n 1, 1) := by decide +kernel
theorem dX12_isPane_1 : decode cX12_isPane 1 = .ok (.iconst 0, 1) := by decide +kernel
theorem dX12_isPane_2 : decode cX12_isPane 2 = .ok (.aload_n 0, 1) := by decide +kernel
theorem dX12_isPane_3 : decode cX12_isPane 3 = .ok (.getfield 16, 3) := by decide +kernel
theorem dX12_isPane_6 : decode cX12_isPane 6 = .ok (.iconst 1, 1) := by decide +kernel
theorem dX12_isPane_7 : decode cX12_isPane 7 = .ok (.iaload, 1) := by decide +kernel
theorem dX12_isPane_8 : decode cX12_isPane 8 = .ok (.iconst 1, 1) := by decide +kernel
theorem dX12_isPane_9 : decode cX12_isPane 9 = .ok (.isub, 1) := by decide +kernel
theorem dX12_isPane_10 : decode cX12_isPane 10 = .ok (.invokestatic 72, 3) := by decide +kernel
theorem dX12_isPane_13 : decode cX12_isPane 13 = .ok (.ireturn, 1) := by decide +kernel
set_option maxRecDepth 20000 in
theorem ggX12_isLooker_X12_in : GoodIn wsX12_isLooker wsX12_in := goodIn_r _ [4] (by decide +kernel) (by decide +kernel)
set_option maxRecDepth 20000 in
theorem gX12_isLooker_X12_in : GoodIn wsX12_isLooker (va_wsS RX12 72 yX12_in wsX12_in) := goodIn_app (goodIn_of _ (by decide +kernel)) ggX12_isLooker_X12_in
theorem dX12_isLooker_0 : decode cX12_isLooker 0 = .ok (.iload_n 0, 1) := by decide +kernel
theorem dX12_isLooker_1 : decode cX12_isLooker 1 = .ok (.iconst 0, 1) := by decide +kernel
theorem dX12_isLooker_2 : decode cX12_isLooker 2 = .ok (.iconst 2, 1) := by decide +kernel
theorem dX12_isLooker_3 : decode cX12_isLooker 3 = .ok (.invokestatic 72, 3) := by decide +kernel
theorem dX12_isLooker_6 : decode cX12_isLooker 6 = .ok (.ireturn, 1) := by decide +kernel
set_option maxRecDepth 20000 in
theorem ggX12_isLong_X12_in : GoodIn wsX12_isLong wsX12_in := goodIn_r _ [4] (by decide +kernel) (by decide +kernel)
set_option maxRecDepth 20000 in
theorem gX12_isLong_X12_in : GoodIn wsX12_isLong (va_wsS RX12 72 yX12_in wsX12_in) := goodIn_app (goodIn_of _ (by decide +kernel)) ggX12_isLong_X12_in
theorem dX12_isLong_0 : decode cX12_isLong 0 = .ok (.iload_n 0, 1) := by decide +kernel
theorem dX12_isLong_1 : decode cX12_isLong 1 = .ok (.iconst 1, 1) := by decide +kernel
theorem dX12_isLong_2 : decode cX12_isLong 2 = .ok (.bipush 20, 2) := by decide +kernel
theorem dX12_isLong_4 : decode cX12_isLong 4 = .ok (.invokestatic 72, 3) := by decide +kernel
theorem dX12_isLong_7 : decode cX12_isLong 7 = .ok (.ireturn, 1) := by decide +kernel
theorem dX12_its_0 : decode cX12_its 0 = .ok (.aload_n 0, 1) := by decide +kernel
theorem dX12_its_1 : decode cX12_its 1 = .ok (.getfield 16, 3) := by decide +kernel
theorem dX12_its_4 : decode cX12_its 4 = .ok (.aload_n 0, 1) := by decide +kernel
theorem dX12_its_5 : decode cX12_its 5 = .ok (.getfield 76, 3) := by decide +kernel
theorem dX12_its_8 : decode cX12_its 8 = .ok (.iconst 2, 1) := by decide +kernel
theorem dX12_its_9 : decode cX12_its 9 = .ok (.iadd, 1) := by decide +kernel
theorem dX12_its_10 : decode cX12_its 10 = .ok (.bipush 19, 2) := by decide +kernel
theorem dX12_its_12 : decode cX12_its 12 = .ok (.iload_n 1, 1) := by decide +kernel
theorem dX12_its_13 : decode cX12_its 13 = .ok (.imul, 1) := by decide +kernel
theorem dX12_its_14 : decode cX12_its 14 = .ok (.iadd, 1) := by decide +kernel
theorem dX12_its_15 : decode cX12_its 15 = .ok (.iload_n 2, 1) := by decide +kernel
theorem dX12_its_16 : decode cX12_its 16 = .ok (.iadd, 1) := by decide +kernel
theorem dX12_its_17 : decode cX12_its 17 = .ok (.iaload, 1) := by decide +kernel
theorem dX12_its_18 : decode cX12_its 18 = .ok (.ireturn, 1) := by decide +kernel
theorem dX12_becomes_0 : decode cX12_becomes 0 = .ok (.aload_n 0, 1) := by decide +kernel
theorem dX12_becomes_1 : decode cX12_becomes 1 = .ok (.getfield 16, 3) := by decide +kernel
theorem dX12_becomes_4 : decode cX12_becomes 4 = .ok (.aload_n 0, 1) := by decide +kernel
theorem dX12_becomes_5 : decode cX12_becomes 5 = .ok (.getfield 76, 3) := by decide +kernel
theorem dX12_becomes_8 : decode cX12_becomes 8 = .ok (.iconst 2, 1) := by decide +kernel
theorem dX12_becomes_9 : decode cX12_becomes 9 = .ok (.iadd, 1) := by decide +kernel
theorem dX12_becomes_10 : decode cX12_becomes 10 = .ok (.bipush 19, 2) := by decide +kernel
theorem dX12_becomes_12 : decode cX12_becomes 12 = .ok (.iload_n 1, 1) := by decide +kernel
theorem dX12_becomes_13 : decode cX12_becomes 13 = .ok (.imul, 1) := by decide +kernel
theorem dX12_becomes_14 : decode cX12_becomes 14 = .ok (.iadd, 1) := by decide +kernel
theorem dX12_becomes_15 : decode cX12_becomes 15 = .ok (.iload_n 2, 1) := by decide +kernel
theorem dX12_becomes_16 : decode cX12_becomes 16 = .ok (.iadd, 1) := by decide +kernel
theorem dX12_becomes_17 : decode cX12_becomes 17 = .ok (.iload_n 3, 1) := by decide +kernel
theorem dX12_becomes_18 : decode cX12_becomes 18 = .ok (.iastore, 1) := by decide +kernel
theorem dX12_becomes_19 : decode cX12_becomes 19 = .ok (.return_, 1) := by decide +kernel
set_option maxRecDepth 20000 in
theorem ggX12_feed_X12_in : GoodIn wsX12_feed wsX12_in := goodIn_r _ [7] (by decide +kernel) (by decide +kernel)
set_option maxRecDepth 20000 in
theorem gX12_feed_X12_in : GoodIn wsX12_feed (va_wsS RX12 72 yX12_in wsX12_in) := goodIn_app (goodIn_of _ (by decide +kernel)) ggX12_feed_X12_in
theorem dX12_feed_0 : decode cX12_feed 0 = .ok (.iload_n 3, 1) := by decide +kernel
theorem dX12_feed_1 : decode cX12_feed 1 = .ok (.iconst 1, 1) := by decide +kernel
theorem dX12_feed_2 : decode cX12_feed 2 = .ok (.bipush 8, 2) := by decide +kernel
theorem dX12_feed_4 : decode cX12_feed 4 = .ok (.invokestatic 72, 3) := by decide +kernel
theorem dX12_feed_7 : decode cX12_feed 7 = .ok (.ifCond .ne 5, 3) := by decide +kernel
theorem dX12_feed_10 : decode cX12_feed 10 = .ok (.iconst (-1), 1) := by decide +kernel
theorem dX12_feed_11 : decode cX12_feed 11 = .ok (.ireturn, 1) := by decide +kernel
theorem dX12_feed_12 : decode cX12_feed 12 = .ok (.aload_n 0, 1) := by decide +kernel
theorem dX12_feed_13 : decode cX12_feed 13 = .ok (.getfield 79, 3) := by decide +kernel
theorem dX12_feed_16 : decode cX12_feed 16 = .ok (.iload_n 3, 1) := by decide +kernel
theorem dX12_feed_17 : decode cX12_feed 17 = .ok (.iadd, 1) := by decide +kernel
theorem dX12_feed_18 : decode cX12_feed 18 = .ok (.sipush 200, 3) := by decide +kernel
theorem dX12_feed_21 : decode cX12_feed 21 = .ok (.if_icmp .le 6, 3) := by decide +kernel
theorem dX12_feed_24 : decode cX12_feed 24 = .ok (.bipush (-2), 2) := by decide +kernel
theorem dX12_feed_26 : decode cX12_feed 26 = .ok (.ireturn, 1) := by decide +kernel
theorem dX12_feed_27 : decode cX12_feed 27 = .ok (.iconst 0, 1) := by decide +kernel
theorem dX12_feed_28 : decode cX12_feed 28 = .ok (.istore 4, 2) := by decide +kernel
theorem dX12_feed_30 : decode cX12_feed 30 = .ok (.iload 4, 2) := by decide +kernel
theorem dX12_feed_32 : decode cX12_feed 32 = .ok (.iload_n 3, 1) := by decide +kernel
theorem dX12_feed_33 : decode cX12_feed 33 = .ok (.if_icmp .ge 40, 3) := by decide +kernel
