theorem dX12_buy_78 : decode cX12_buy 78 = .ok (.istore 4, 2) := by decide +kernel
theorem dX12_buy_80 : decode cX12_buy 80 = .ok (.iinc 5 1, 3) := by decide +kernel
theorem dX12_buy_83 : decode cX12_buy 83 = .ok (.goto (-54), 3) := by decide +kernel
theorem dX12_buy_86 : decode cX12_buy 86 = .ok (.aload_n 0, 1) := by decide +kernel
theorem dX12_buy_87 : decode cX12_buy 87 = .ok (.iconst 0, 1) := by decide +kernel
theorem dX12_buy_88 : decode cX12_buy 88 = .ok (.putfield 76, 3) := by decide +kernel
theorem dX12_buy_91 : decode cX12_buy 91 = .ok (.iload_n 3, 1) := by decide +kernel
theorem dX12_buy_92 : decode cX12_buy 92 = .ok (.ireturn, 1) := by decide +kernel
set_option maxRecDepth 20000 in
theorem ggX12_let_X12_isPane : GoodIn wsX12_let wsX12_isPane := goodIn_r _ [6, 7, 8, 9, 5, 10, 54, 55, 56, 57, 58, 59, 60, 61, 62, 63, 64, 65, 66, 67, 68, 69, 70, 71, 72, 73, 74, 75, 76, 77, 78, 79, 80, 81, 82, 83, 84, 85, 86, 87, 88, 89, 90, 91, 92] (by decide +kernel) (by decide +kernel)
set_option maxRecDepth 20000 in
theorem gX12_let_X12_isPane : GoodIn wsX12_let (wsV RX12 216 RX12 yX12_isPane wsX12_isPane) := goodIn_app (goodIn_of _ (by decide +kernel)) ggX12_let_X12_isPane
set_option maxRecDepth 20000 in
theorem ggX12_let_X12_isLooker : GoodIn wsX12_let wsX12_isLooker := goodIn_r _ [13, 8, 9, 5, 10] (by decide +kernel) (by decide +kernel)
set_option maxRecDepth 20000 in
theorem gX12_let_X12_isLooker : GoodIn wsX12_let (va_wsS RX12 204 yX12_isLooker wsX12_isLooker) := goodIn_app (goodIn_of _ (by decide +kernel)) ggX12_let_X12_isLooker
set_option maxRecDepth 20000 in
theorem ggX12_let_X12_isLong : GoodIn wsX12_let wsX12_isLong := goodIn_r _ [16, 8, 9, 5, 10] (by decide +kernel) (by decide +kernel)
set_option maxRecDepth 20000 in
theorem gX12_let_X12_isLong : GoodIn wsX12_let (va_wsS RX12 250 yX12_isLong wsX12_isLong) := goodIn_app (goodIn_of _ (by decide +kernel)) ggX12_let_X12_isLong
set_option maxRecDepth 20000 in
theorem ggX12_let_X12_lends : GoodIn wsX12_let wsX12_lends := goodIn_r _ [20, 1, 7, 54, 55, 56, 57, 58, 59, 60, 61, 62, 63, 64, 65, 66, 67, 68, 69, 70, 71, 72, 73, 74, 75, 76, 77, 78, 79, 80, 81, 82, 83, 84, 85, 86, 87, 88, 89, 90, 91, 92] (by decide +kernel) (by decide +kernel)
set_option maxRecDepth 20000 in
theorem gX12_let_X12_lends : GoodIn wsX12_let (wsV RX12 247 RX12 yX12_lends wsX12_lends) := goodIn_app (goodIn_of _ (by decide +kernel)) ggX12_let_X12_lends
set_option maxRecDepth 20000 in
theorem ggX12_let_X12_becomes : GoodIn wsX12_let wsX12_becomes := goodIn_r _ [24, 7, 1, 54, 55, 56, 57, 58, 59, 60, 61, 62, 63, 64, 65, 66, 67, 68, 69, 70, 71, 72, 73, 74, 75, 76, 77, 78, 79, 80, 81, 82, 83, 84, 85, 86, 87, 88, 89, 90, 91, 92] (by decide +kernel) (by decide +kernel)
set_option maxRecDepth 20000 in
theorem gX12_let_X12_becomes : GoodIn wsX12_let (wsV RX12 194 RX12 yX12_becomes wsX12_becomes) := goodIn_app (goodIn_of _ (by decide +kernel)) ggX12_let_X12_becomes
set_option maxRecDepth 20000 in
theorem ggX12_let_X12_worthOf : GoodIn wsX12_let wsX12_worthOf := goodIn_r _ [28, 7, 1, 29, 30, 31, 32, 5, 33, 34, 35, 36, 37, 38, 39, 40, 41, 42, 43, 44, 45, 46, 47, 48, 49, 50, 51, 52, 53, 21, 22, 23, 24, 54, 55, 56, 57, 58, 59, 60, 61, 62, 63, 64, 65, 66, 67, 68, 69, 70, 71, 72, 73, 74, 75, 76, 77, 78, 79, 80, 81, 82, 83, 84, 85, 86, 87, 88, 89, 90, 91, 92] (by decide +kernel) (by decide +kernel)
set_option maxRecDepth 20000 in
theorem gX12_let_X12_worthOf : GoodIn wsX12_let (wsV RX12 253 RX12 yX12_worthOf wsX12_worthOf) := goodIn_app (goodIn_of _ (by decide +kernel)) ggX12_let_X12_worthOf
theorem dX12_let_0 : decode cX12_let 0 = .ok (.aload_n 0, 1) := by decide +kernel
theorem dX12_let_1 : decode cX12_let 1 = .ok (.iload_n 1, 1) := by decide +kernel
theorem dX12_let_2 : decode cX12_let 2 = .ok (.invokevirtual 216, 3) := by decide +kernel
theorem dX12_let_5 : decode cX12_let 5 = .ok (.ifCond .eq 17, 3) := by decide +kernel
theorem dX12_let_8 : decode cX12_let 8 = .ok (.iload_n 2, 1) := by decide +kernel
theorem dX12_let_9 : decode cX12_let 9 = .ok (.invokestatic 204, 3) := by decide +kernel
theorem dX12_let_12 : decode cX12_let 12 = .ok (.ifCond .eq 10, 3) := by decide +kernel
theorem dX12_let_15 : decode cX12_let 15 = .ok (.iload_n 3, 1) := by decide +kernel
theorem dX12_let_16 : decode cX12_let 16 = .ok (.invokestatic 250, 3) := by decide +kernel
theorem dX12_let_19 : decode cX12_let 19 = .ok (.ifCond .ne 5, 3) := by decide +kernel
theorem dX12_let_22 : decode cX12_let 22 = .ok (.iconst (-1), 1) := by decide +kernel
theorem dX12_let_23 : decode cX12_let 23 = .ok (.ireturn, 1) := by decide +kernel
theorem dX12_let_24 : decode cX12_let 24 = .ok (.iconst 0, 1) := by decide +kernel
theorem dX12_let_25 : decode cX12_let 25 = .ok (.istore 4, 2) := by decide +kernel
theorem dX12_let_27 : decode cX12_let 27 = .ok (.iconst (-1), 1) := by decide +kernel
theorem dX12_let_28 : decode cX12_let 28 = .ok (.istore 5, 2) := by decide +kernel
theorem dX12_let_30 : decode cX12_let 30 = .ok (.iconst 0, 1) := by decide +kernel
theorem dX12_let_31 : decode cX12_let 31 = .ok (.istore 6, 2) := by decide +kernel
theorem dX12_let_33 : decode cX12_let 33 = .ok (.iload 6, 2) := by decide +kernel
theorem dX12_let_35 : decode cX12_let 35 = .ok (.iconst 4, 1) := by decide +kernel
theorem dX12_let_36 : decode cX12_let 36 = .ok (.if_icmp .gt 67, 3) := by decide +kernel
theorem dX12_let_39 : decode cX12_let 39 = .ok (.aload_n 0, 1) := by decide +kernel
theorem dX12_let_40 : decode cX12_let 40 = .ok (.invokevirtual 247, 3) := by decide +kernel
theorem dX12_let_43 : decode cX12_let 43 = .ok (.aload_n 0, 1) := by decide +kernel
theorem dX12_let_44 : decode cX12_let 44 = .ok (.iload_n 1, 1) := by decide +kernel
theorem dX12_let_45 : decode cX12_let 45 = .ok (.iconst 2, 1) := by decide +kernel
theorem dX12_let_46 : decode cX12_let 46 = .ok (.iload 6, 2) := by decide +kernel
theorem dX12_let_48 : decode cX12_let 48 = .ok (.invokevirtual 194, 3) := by decide +kernel
theorem dX12_let_51 : decode cX12_let 51 = .ok (.aload_n 0, 1) := by decide +kernel
theorem dX12_let_52 : decode cX12_let 52 = .ok (.iload_n 1, 1) := by decide +kernel
theorem dX12_let_53 : decode cX12_let 53 = .ok (.iload_n 2, 1) := by decide +kernel
theorem dX12_let_54 : decode cX12_let 54 = .ok (.iload_n 3, 1) := by decide +kernel
theorem dX12_let_55 : decode cX12_let 55 = .ok (.invokevirtual 253, 3) := by decide +kernel
theorem dX12_let_58 : decode cX12_let 58 = .ok (.istore 7, 2) := by decide +kernel
theorem dX12_let_60 : decode cX12_let 60 = .ok (.aload_n 0, 1) := by decide +kernel
theorem dX12_let_61 : decode cX12_let 61 = .ok (.iconst 0, 1) := by decide +kernel
theorem dX12_let_62 : decode cX12_let 62 = .ok (.putfield 76, 3) := by decide +kernel
theorem dX12_let_65 : decode cX12_let 65 = .ok (.iload 7, 2) := by decide +kernel
theorem dX12_let_67 : decode cX12_let 67 = .ok (.iload 5, 2) := by decide +kernel
theorem dX12_let_69 : decode cX12_let 69 = .ok (.if_icmp .le 8, 3) := by decide +kernel
theorem dX12_let_72 : decode cX12_let 72 = .ok (.iload 6, 2) := by decide +kernel
theorem dX12_let_74 : decode cX12_let 74 = .ok (.goto 5, 3) := by decide +kernel
theorem dX12_let_77 : decode cX12_let 77 = .ok (.iload 4, 2) := by decide +kernel
theorem dX12_let_79 : decode cX12_let 79 = .ok (.istore 4, 2) := by decide +kernel
theorem dX12_let_81 : decode cX12_let 81 = .ok (.iload 7, 2) := by decide +kernel
theorem dX12_let_83 : decode cX12_let 83 = .ok (.iload 5, 2) := by decide +kernel
theorem dX12_let_85 : decode cX12_let 85 = .ok (.if_icmp .le 8, 3) := by decide +kernel
theorem dX12_let_88 : decode cX12_let 88 = .ok (.iload 7, 2) := by decide +kernel
theorem dX12_let_90 : decode cX12_let 90 = .ok (.goto 5, 3) := by decide +kernel
theorem dX12_let_93 : decode cX12_let 93 = .ok (.iload 5, 2) := by decide +kernel
theorem dX12_let_95 : decode cX12_let 95 = .ok (.istore 5, 2) := by decide +kernel
theorem dX12_let_97 : decode cX12_let 97 = .ok (.iinc 6 1, 3) := by decide +kernel
theorem dX12_let_100 : decode cX12_let 100 = .ok (.goto (-67), 3) := by decide +kernel
theorem dX12_let_103 : decode cX12_let 103 = .ok (.iload 4, 2) := by decide +kernel
theorem dX12_let_105 : decode cX12_let 105 = .ok (.ireturn, 1) := by decide +kernel
set_option maxRecDepth 20000 in
theorem ggX12_best_X12_isPane : GoodIn wsX12_best wsX12_isPane := goodIn_r _ [6, 7, 8, 9, 5, 10, 62, 63, 64, 65, 66, 67, 68, 69, 70, 71, 72, 73, 74, 75, 76, 77, 78, 79, 80, 81, 82, 83, 84, 85, 86, 87, 88, 89, 90, 91, 92, 93, 94, 95, 96, 97, 98, 99, 100] (by decide +kernel) (by decide +kernel)
set_option maxRecDepth 20000 in
theorem gX12_best_X12_isPane : GoodIn wsX12_best (wsV RX12 216 RX12 yX12_isPane wsX12_isPane) := goodIn_app (goodIn_of _ (by decide +kernel)) ggX12_best_X12_isPane
set_option maxRecDepth 20000 in
theorem ggX12_best_X12_isLooker : GoodIn wsX12_best wsX12_isLooker := goodIn_r _ [13, 8, 9, 5, 10] (by decide +kernel) (by decide +kernel)
set_option maxRecDepth 20000 in
theorem gX12_best_X12_isLooker : GoodIn wsX12_best (va_wsS RX12 204 yX12_isLooker wsX12_isLooker) := goodIn_app (goodIn_of _ (by decide +kernel)) ggX12_best_X12_isLooker
set_option maxRecDepth 20000 in
theorem ggX12_best_X12_isLong : GoodIn wsX12_best wsX12_isLong := goodIn_r _ [16, 8, 9, 5, 10] (by decide +kernel) (by decide +kernel)
set_option maxRecDepth 20000 in
theorem gX12_best_X12_isLong : GoodIn wsX12_best (va_wsS RX12 250 yX12_isLong wsX12_isLong) := goodIn_app (goodIn_of _ (by decide +kernel)) ggX12_best_X12_isLong
set_option maxRecDepth 20000 in
theorem ggX12_best_X12_its : GoodIn wsX12_best wsX12_its := goodIn_r _ [20, 7, 1, 62, 63, 64, 65, 66, 67, 68, 69, 70, 71, 72, 73, 74, 75, 76, 77, 78, 79, 80, 81, 82, 83, 84, 85, 86, 87, 88, 89, 90, 91, 92, 93, 94, 95, 96, 97, 98, 99, 100] (by decide +kernel) (by decide +kernel)
set_option maxRecDepth 20000 in
theorem gX12_best_X12_its : GoodIn wsX12_best (wsV RX12 207 RX12 yX12_its wsX12_its) := goodIn_app (goodIn_of _ (by decide +kernel)) ggX12_best_X12_its
set_option maxRecDepth 20000 in
theorem ggX12_best_X12_lends : GoodIn wsX12_best wsX12_lends := goodIn_r _ [24, 1, 7, 62, 63, 64, 65, 66, 67, 68, 69, 70, 71, 72, 73, 74, 75, 76, 77, 78, 79, 80, 81, 82, 83, 84, 85, 86, 87, 88, 89, 90, 91, 92, 93, 94, 95, 96, 97, 98, 99, 100] (by decide +kernel) (by decide +kernel)
set_option maxRecDepth 20000 in
theorem gX12_best_X12_lends : GoodIn wsX12_best (wsV RX12 247 RX12 yX12_lends wsX12_lends) := goodIn_app (goodIn_of _ (by decide +kernel)) ggX12_best_X12_lends
set_option maxRecDepth 20000 in
theorem ggX12_best_X12_cuts : GoodIn wsX12_best wsX12_cuts := goodIn_r _ [28, 17, 18, 19, 5, 20, 7, 1, 29, 30, 31, 32, 33, 34, 35, 36, 62, 63, 64, 65, 66, 67, 68, 69, 70, 71, 72, 73, 74, 75, 76, 77, 78, 79, 80, 81, 82, 83, 84, 85, 86, 87, 88, 89, 90, 91, 92, 93, 94, 95, 96, 97, 98, 99, 100] (by decide +kernel) (by decide +kernel)
set_option maxRecDepth 20000 in
theorem gX12_best_X12_cuts : GoodIn wsX12_best (wsV RX12 241 RX12 yX12_cuts wsX12_cuts) := goodIn_app (goodIn_of _ (by decide +kernel)) ggX12_best_X12_cuts
set_option maxRecDepth 20000 in
theorem ggX12_best_X12_worthOf : GoodIn wsX12_best wsX12_worthOf := goodIn_r _ [40, 7, 1, 41, 42, 43, 44, 5, 45, 17, 18, 19, 20, 46, 47, 48, 49, 50, 51, 52, 53, 54, 55, 56, 57, 58, 59, 60, 61, 33, 34, 35, 36, 62, 63, 64, 65, 66, 67, 68, 69, 70, 71, 72, 73, 74, 75, 76, 77, 78, 79, 80, 81, 82, 83, 84, 85, 86, 87, 88, 89, 90, 91, 92, 93, 94, 95, 96, 97, 98, 99, 100] (by decide +kernel) (by decide +kernel)
set_option maxRecDepth 20000 in
theorem gX12_best_X12_worthOf : GoodIn wsX12_best (wsV RX12 253 RX12 yX12_worthOf wsX12_worthOf) := goodIn_app (goodIn_of _ (by decide +kernel)) ggX12_best_X12_worthOf
theorem dX12_best_0 : decode cX12_best 0 = .ok (.aload_n 0, 1) := by decide +kernel
theorem dX12_best_1 : decode cX12_best 1 = .ok (.iload_n 1, 1) := by decide +kernel
theorem dX12_best_2 : decode cX12_best 2 = .ok (.invokevirtual 216, 3) := by decide +kernel
theorem dX12_best_5 : decode cX12_best 5 = .ok (.ifCond .eq 17, 3) := by decide +kernel
theorem dX12_best_8 : decode cX12_best 8 = .ok (.iload_n 2, 1) := by decide +kernel
theorem dX12_best_9 : decode cX12_best 9 = .ok (.invokestatic 204, 3) := by decide +kernel
theorem dX12_best_12 : decode cX12_best 12 = .ok (.ifCond .eq 10, 3) := by decide +kernel
theorem dX12_best_15 : decode cX12_best 15 = .ok (.iload_n 3, 1) := by decide +kernel
theorem dX12_best_16 : decode cX12_best 16 = .ok (.invokestatic 250, 3) := by decide +kernel
theorem dX12_best_19 : decode cX12_best 19 = .ok (.ifCond .ne 5, 3) := by decide +kernel
theorem dX12_best_22 : decode cX12_best 22 = .ok (.iconst (-1), 1) := by decide +kernel
theorem dX12_best_23 : decode cX12_best 23 = .ok (.ireturn, 1) := by decide +kernel
theorem dX12_best_24 : decode cX12_best 24 = .ok (.bipush (-3), 2) := by decide +kernel
theorem dX12_best_26 : decode cX12_best 26 = .ok (.istore 4, 2) := by decide +kernel
theorem dX12_best_28 : decode cX12_best 28 = .ok (.iconst (-1), 1) := by decide +kernel
theorem dX12_best_29 : decode cX12_best 29 = .ok (.istore 5, 2) := by decide +kernel
theorem dX12_best_31 : decode cX12_best 31 = .ok (.aload_n 0, 1) := by decide +kernel
theorem dX12_best_32 : decode cX12_best 32 = .ok (.iload_n 1, 1) := by decide +kernel
theorem dX12_best_33 : decode cX12_best 33 = .ok (.iconst 1, 1) := by decide +kernel
theorem dX12_best_34 : decode cX12_best 34 = .ok (.invokevirtual 207, 3) := by decide +kernel
theorem dX12_best_37 : decode cX12_best 37 = .ok (.istore 6, 2) := by decide +kernel
theorem dX12_best_39 : decode cX12_best 39 = .ok (.iconst 1, 1) := by decide +kernel
theorem dX12_best_40 : decode cX12_best 40 = .ok (.istore 7, 2) := by decide +kernel
theorem dX12_best_42 : decode cX12_best 42 = .ok (.iload 7, 2) := by decide +kernel
theorem dX12_best_44 : decode cX12_best 44 = .ok (.iload 6, 2) := by decide +kernel
theorem dX12_best_46 : decode cX12_best 46 = .ok (.if_icmp .ge 88, 3) := by decide +kernel
theorem dX12_best_49 : decode cX12_best 49 = .ok (.aload_n 0, 1) := by decide +kernel
theorem dX12_best_50 : decode cX12_best 50 = .ok (.invokevirtual 247, 3) := by decide +kernel
theorem dX12_best_53 : decode cX12_best 53 = .ok (.iload_n 1, 1) := by decide +kernel
theorem dX12_best_54 : decode cX12_best 54 = .ok (.ifCond .ne 7, 3) := by decide +kernel
theorem dX12_best_57 : decode cX12_best 57 = .ok (.iconst 1, 1) := by decide +kernel
theorem dX12_best_58 : decode cX12_best 58 = .ok (.goto 4, 3) := by decide +kernel
theorem dX12_best_61 : decode cX12_best 61 = .ok (.iconst 0, 1) := by decide +kernel
theorem dX12_best_62 : decode cX12_best 62 = .ok (.istore 8, 2) := by decide +kernel
theorem dX12_best_64 : decode cX12_best 64 = .ok (.aload_n 0, 1) := by decide +kernel
theorem dX12_best_65 : decode cX12_best 65 = .ok (.iload_n 1, 1) := by decide +kernel
theorem dX12_best_66 : decode cX12_best 66 = .ok (.iload 7, 2) := by decide +kernel
theorem dX12_best_68 : decode cX12_best 68 = .ok (.iload 8, 2) := by decide +kernel
theorem dX12_best_70 : decode cX12_best 70 = .ok (.invokevirtual 241, 3) := by decide +kernel
theorem dX12_best_73 : decode cX12_best 73 = .ok (.aload_n 0, 1) := by decide +kernel
theorem dX12_best_74 : decode cX12_best 74 = .ok (.iload_n 1, 1) := by decide +kernel
theorem dX12_best_75 : decode cX12_best 75 = .ok (.iload_n 2, 1) := by decide +kernel
theorem dX12_best_76 : decode cX12_best 76 = .ok (.iload_n 3, 1) := by decide +kernel
theorem dX12_best_77 : decode cX12_best 77 = .ok (.invokevirtual 253, 3) := by decide +kernel
theorem dX12_best_80 : decode cX12_best 80 = .ok (.aload_n 0, 1) := by decide +kernel
theorem dX12_best_81 : decode cX12_best 81 = .ok (.iload 8, 2) := by decide +kernel
theorem dX12_best_83 : decode cX12_best 83 = .ok (.iload_n 2, 1) := by decide +kernel
theorem dX12_best_84 : decode cX12_best 84 = .ok (.iload_n 3, 1) := by decide +kernel
theorem dX12_best_85 : decode cX12_best 85 = .ok (.invokevirtual 253, 3) := by decide +kernel
theorem dX12_best_88 : decode cX12_best 88 = .ok (.iadd, 1) := by decide +kernel
theorem dX12_best_89 : decode cX12_best 89 = .ok (.istore 9, 2) := by decide +kernel
theorem dX12_best_91 : decode cX12_best 91 = .ok (.aload_n 0, 1) := by decide +kernel
theorem dX12_best_92 : decode cX12_best 92 = .ok (.iconst 0, 1) := by decide +kernel
theorem dX12_best_93 : decode cX12_best 93 = .ok (.putfield 76, 3) := by decide +kernel
theorem dX12_best_96 : decode cX12_best 96 = .ok (.iload 9, 2) := by decide +kernel
theorem dX12_best_98 : decode cX12_best 98 = .ok (.iload 5, 2) := by decide +kernel
theorem dX12_best_100 : decode cX12_best 100 = .ok (.if_icmp .le 8, 3) := by decide +kernel
theorem dX12_best_103 : decode cX12_best 103 = .ok (.iload 7, 2) := by decide +kernel
theorem dX12_best_105 : decode cX12_best 105 = .ok (.goto 5, 3) := by decide +kernel
theorem dX12_best_108 : decode cX12_best 108 = .ok (.iload 4, 2) := by decide +kernel
theorem dX12_best_110 : decode cX12_best 110 = .ok (.istore 4, 2) := by decide +kernel
theorem dX12_best_112 : decode cX12_best 112 = .ok (.iload 9, 2) := by decide +kernel
theorem dX12_best_114 : decode cX12_best 114 = .ok (.iload 5, 2) := by decide +kernel
theorem dX12_best_116 : decode cX12_best 116 = .ok (.if_icmp .le 8, 3) := by decide +kernel
theorem dX12_best_119 : decode cX12_best 119 = .ok (.iload 9, 2) := by decide +kernel
theorem dX12_best_121 : decode cX12_best 121 = .ok (.goto 5, 3) := by decide +kernel
theorem dX12_best_124 : decode cX12_best 124 = .ok (.iload 5, 2) := by decide +kernel
theorem dX12_best_126 : decode cX12_best 126 = .ok (.istore 5, 2) := by decide +kernel
theorem dX12_best_128 : decode cX12_best 128 = .ok (.iinc 7 1, 3) := by decide +kernel
theorem dX12_best_131 : decode cX12_best 131 = .ok (.goto (-89), 3) := by decide +kernel
theorem dX12_best_134 : decode cX12_best 134 = .ok (.iload 4, 2) := by decide +kernel
theorem dX12_best_136 : decode cX12_best 136 = .ok (.ireturn, 1) := by decide +kernel
set_option maxRecDepth 20000 in
theorem ggX12_turned_X12_isPane : GoodIn wsX12_turned wsX12_isPane := goodIn_r _ [7, 8, 9, 10, 6, 11, 67, 68, 69, 70, 71, 72, 73, 74, 75, 76, 77, 78, 79, 80, 81, 82, 83, 84, 85, 86, 87, 88, 89, 90, 91, 92, 93, 94, 95, 96, 97, 98, 99, 100, 101, 102, 103, 104, 105] (by decide +kernel) (by decide +kernel)
set_option maxRecDepth 20000 in
theorem gX12_turned_X12_isPane : GoodIn wsX12_turned (wsV RX12 216 RX12 yX12_isPane wsX12_isPane) := goodIn_app (goodIn_of _ (by decide +kernel)) ggX12_turned_X12_isPane
set_option maxRecDepth 20000 in
theorem ggX12_turned_X12_isLooker : GoodIn wsX12_turned wsX12_isLooker := goodIn_r _ [14, 9, 10, 6, 11] (by decide +kernel) (by decide +kernel)
set_option maxRecDepth 20000 in
theorem gX12_turned_X12_isLooker : GoodIn wsX12_turned (va_wsS RX12 204 yX12_isLooker wsX12_isLooker) := goodIn_app (goodIn_of _ (by decide +kernel)) ggX12_turned_X12_isLooker
set_option maxRecDepth 20000 in
theorem ggX12_turned_X12_isLong : GoodIn wsX12_turned wsX12_isLong := goodIn_r _ [17, 9, 10, 6, 11] (by decide +kernel) (by decide +kernel)
set_option maxRecDepth 20000 in
theorem gX12_turned_X12_isLong : GoodIn wsX12_turned (va_wsS RX12 250 yX12_isLong wsX12_isLong) := goodIn_app (goodIn_of _ (by decide +kernel)) ggX12_turned_X12_isLong
set_option maxRecDepth 20000 in
theorem ggX12_turned_X12_worth : GoodIn wsX12_turned wsX12_worth := goodIn_r _ [21, 1, 3, 4, 5, 6, 7, 8, 9, 10, 11, 12, 13, 14, 15, 16, 17, 22, 23, 24, 25, 26, 27, 28, 29, 30, 31, 32, 33, 34, 35, 36, 37, 38, 39, 40, 41, 42, 43, 44, 45, 46, 47, 48, 49, 50, 51, 52, 53, 54, 55, 56, 57, 58, 67, 68, 69, 70, 71, 72, 73, 74, 75, 76, 77, 78, 79, 80, 81, 82, 83, 84, 85, 86, 87, 88, 89, 90, 91, 92, 93, 94, 95, 96, 97, 98, 99, 100, 101, 102, 103, 104, 105] (by decide +kernel) (by decide +kernel)
set_option maxRecDepth 20000 in
theorem gX12_turned_X12_worth : GoodIn wsX12_turned (wsV RX12 257 RX12 yX12_worth wsX12_worth) := goodIn_app (goodIn_of _ (by decide +kernel)) ggX12_turned_X12_worth
set_option maxRecDepth 20000 in
theorem ggX12_turned_X12_lends : GoodIn wsX12_turned wsX12_lends := goodIn_r _ [25, 1, 8, 67, 68, 69, 70, 71, 72, 73, 74, 75, 76, 77, 78, 79, 80, 81, 82, 83, 84, 85, 86, 87, 88, 89, 90, 91, 92, 93, 94, 95, 96, 97, 98, 99, 100, 101, 102, 103, 104, 105] (by decide +kernel) (by decide +kernel)
set_option maxRecDepth 20000 in
theorem gX12_turned_X12_lends : GoodIn wsX12_turned (wsV RX12 247 RX12 yX12_lends wsX12_lends) := goodIn_app (goodIn_of _ (by decide +kernel)) ggX12_turned_X12_lends
set_option maxRecDepth 20000 in
theorem ggX12_turned_X12_turns : GoodIn wsX12_turned wsX12_turns := goodIn_r _ [62, 35, 36, 37, 6, 38, 8, 1, 63, 64, 65, 66, 55, 56, 57, 58, 67, 68, 69, 70, 71, 72, 73, 74, 75, 76, 77, 78, 79, 80, 81, 82, 83, 84, 85, 86, 87, 88, 89, 90, 91, 92, 93, 94, 95, 96, 97, 98, 99, 100, 101, 102, 103, 104, 105] (by decide +kernel) (by decide +kernel)
set_option maxRecDepth 20000 in
theorem gX12_turned_X12_turns : GoodIn wsX12_turned (wsV RX12 238 RX12 yX12_turns wsX12_turns) := goodIn_app (goodIn_of _ (by decide +kernel)) ggX12_turned_X12_turns
set_option maxRecDepth 20000 in
theorem ggX12_turned_X12_worthOf : GoodIn wsX12_turned wsX12_worthOf := goodIn_r _ [29, 8, 1, 30, 31, 32, 33, 6, 34, 35, 36, 37, 38, 39, 40, 41, 42, 43, 44, 45, 46, 47, 48, 49, 50, 51, 52, 53, 54, 55, 56, 57, 58, 67, 68, 69, 70, 71, 72, 73, 74, 75, 76, 77, 78, 79, 80, 81, 82, 83, 84, 85, 86, 87, 88, 89, 90, 91, 92, 93, 94, 95, 96, 97, 98, 99, 100, 101, 102, 103, 104, 105] (by decide +kernel) (by decide +kernel)
set_option maxRecDepth 20000 in
theorem gX12_turned_X12_worthOf : GoodIn wsX12_turned (wsV RX12 253 RX12 yX12_worthOf wsX12_worthOf) := goodIn_app (goodIn_of _ (by decide +kernel)) ggX12_turned_X12_worthOf
theorem dX12_turned_0 : decode cX12_turned 0 = .ok (.aload_n 0, 1) := by decide +kernel
theorem dX12_turned_1 : decode cX12_turned 1 = .ok (.iload_n 1, 1) := by decide +kernel
theorem dX12_turned_2 : decode cX12_turned 2 = .ok (.invokevirtual 216, 3) := by decide +kernel
theorem dX12_turned_5 : decode cX12_turned 5 = .ok (.ifCond .eq 17, 3) := by decide +kernel
theorem dX12_turned_8 : decode cX12_turned 8 = .ok (.iload_n 2, 1) := by decide +kernel
theorem dX12_turned_9 : decode cX12_turned 9 = .ok (.invokestatic 204, 3) := by decide +kernel
theorem dX12_turned_12 : decode cX12_turned 12 = .ok (.ifCond .eq 10, 3) := by decide +kernel
theorem dX12_turned_15 : decode cX12_turned 15 = .ok (.iload_n 3, 1) := by decide +kernel
theorem dX12_turned_16 : decode cX12_turned 16 = .ok (.invokestatic 250, 3) := by decide +kernel
theorem dX12_turned_19 : decode cX12_turned 19 = .ok (.ifCond .ne 5, 3) := by decide +kernel
theorem dX12_turned_22 : decode cX12_turned 22 = .ok (.iconst (-1), 1) := by decide +kernel
theorem dX12_turned_23 : decode cX12_turned 23 = .ok (.ireturn, 1) := by decide +kernel
theorem dX12_turned_24 : decode cX12_turned 24 = .ok (.aload_n 0, 1) := by decide +kernel
theorem dX12_turned_25 : decode cX12_turned 25 = .ok (.iload_n 1, 1) := by decide +kernel
theorem dX12_turned_26 : decode cX12_turned 26 = .ok (.iload_n 2, 1) := by decide +kernel
theorem dX12_turned_27 : decode cX12_turned 27 = .ok (.iload_n 3, 1) := by decide +kernel
theorem dX12_turned_28 : decode cX12_turned 28 = .ok (.invokevirtual 257, 3) := by decide +kernel
theorem dX12_turned_31 : decode cX12_turned 31 = .ok (.istore 4, 2) := by decide +kernel
theorem dX12_turned_33 : decode cX12_turned 33 = .ok (.aload_n 0, 1) := by decide +kernel
theorem dX12_turned_34 : decode cX12_turned 34 = .ok (.invokevirtual 247, 3) := by decide +kernel
theorem dX12_turned_37 : decode cX12_turned 37 = .ok (.aload_n 0, 1) := by decide +kernel
theorem dX12_turned_38 : decode cX12_turned 38 = .ok (.iload_n 1, 1) := by decide +kernel
theorem dX12_turned_39 : decode cX12_turned 39 = .ok (.invokevirtual 238, 3) := by decide +kernel
theorem dX12_turned_42 : decode cX12_turned 42 = .ok (.aload_n 0, 1) := by decide +kernel
theorem dX12_turned_43 : decode cX12_turned 43 = .ok (.iload_n 1, 1) := by decide +kernel
theorem dX12_turned_44 : decode cX12_turned 44 = .ok (.iload_n 2, 1) := by decide +kernel
theorem dX12_turned_45 : decode cX12_turned 45 = .ok (.iload_n 3, 1) := by decide +kernel
theorem dX12_turned_46 : decode cX12_turned 46 = .ok (.invokevirtual 253, 3) := by decide +kernel
theorem dX12_turned_49 : decode cX12_turned 49 = .ok (.istore 5, 2) := by decide +kernel
theorem dX12_turned_51 : decode cX12_turned 51 = .ok (.aload_n 0, 1) := by decide +kernel
theorem dX12_turned_52 : decode cX12_turned 52 = .ok (.iconst 0, 1) := by decide +kernel
theorem dX12_turned_53 : decode cX12_turned 53 = .ok (.putfield 76, 3) := by decide +kernel
theorem dX12_turned_56 : decode cX12_turned 56 = .ok (.ldc_w 260, 3) := by decide +kernel
theorem dX12_turned_59 : decode cX12_turned 59 = .ok (.iload 5, 2) := by decide +kernel
theorem dX12_turned_61 : decode cX12_turned 61 = .ok (.iadd, 1) := by decide +kernel
theorem dX12_turned_62 : decode cX12_turned 62 = .ok (.iload 4, 2) := by decide +kernel
theorem dX12_turned_64 : decode cX12_turned 64 = .ok (.isub, 1) := by decide +kernel
theorem dX12_turned_65 : decode cX12_turned 65 = .ok (.ireturn, 1) := by decide +kernel
set_option maxRecDepth 20000 in
theorem ggX12_will_X12_isPane : GoodIn wsX12_will wsX12_isPane := goodIn_r _ [7, 1, 8, 9, 6, 10, 43, 44, 45, 46, 47, 48, 49, 50, 51, 52, 53, 54, 55, 56, 57, 58, 59, 60, 61, 62, 63, 64, 65, 66, 67, 68, 69, 70, 71, 72, 73, 74, 75, 76, 77, 78, 79, 80, 81] (by decide +kernel) (by decide +kernel)
set_option maxRecDepth 20000 in
theorem gX12_will_X12_isPane : GoodIn wsX12_will (wsV RX12 216 RX12 yX12_isPane wsX12_isPane) := goodIn_app (goodIn_of _ (by decide +kernel)) ggX12_will_X12_isPane
set_option maxRecDepth 20000 in
theorem ggX12_will_X12_in : GoodIn wsX12_will wsX12_in := goodIn_r _ [10] (by decide +kernel) (by decide +kernel)
set_option maxRecDepth 20000 in
theorem gX12_will_X12_in : GoodIn wsX12_will (va_wsS RX12 72 yX12_in wsX12_in) := goodIn_app (goodIn_of _ (by decide +kernel)) ggX12_will_X12_in
set_option maxRecDepth 20000 in
theorem ggX12_will_X12_lends : GoodIn wsX12_will wsX12_lends := goodIn_r _ [14, 2, 1, 43, 44, 45, 46, 47, 48, 49, 50, 51, 52, 53, 54, 55, 56, 57, 58, 59, 60, 61, 62, 63, 64, 65, 66, 67, 68, 69, 70, 71, 72, 73, 74, 75, 76, 77, 78, 79, 80, 81] (by decide +kernel) (by decide +kernel)
set_option maxRecDepth 20000 in
theorem gX12_will_X12_lends : GoodIn wsX12_will (wsV RX12 247 RX12 yX12_lends wsX12_lends) := goodIn_app (goodIn_of _ (by decide +kernel)) ggX12_will_X12_lends
set_option maxRecDepth 20000 in
theorem ggX12_will_X12_moves : GoodIn wsX12_will wsX12_moves := goodIn_r _ [18, 19, 20, 21, 6, 22, 1, 2, 23, 24, 25, 26, 27, 28, 29, 43, 44, 45, 46, 47, 48, 49, 50, 51, 52, 53, 54, 55, 56, 57, 58, 59, 60, 61, 62, 63, 64, 65, 66, 67, 68, 69, 70, 71, 72, 73, 74, 75, 76, 77, 78, 79, 80, 81] (by decide +kernel) (by decide +kernel)
set_option maxRecDepth 20000 in
theorem gX12_will_X12_moves : GoodIn wsX12_will (wsV RX12 229 RX12 yX12_moves wsX12_moves) := goodIn_app (goodIn_of _ (by decide +kernel)) ggX12_will_X12_moves
set_option maxRecDepth 20000 in
theorem ggX12_will_X12_shown : GoodIn wsX12_will wsX12_shown := goodIn_r _ [33, 19, 20, 21, 6, 22, 1, 2, 34, 35, 36, 37, 38, 39, 40, 41, 42, 43, 44, 45, 46, 47, 48, 49, 50, 51, 52, 53, 54, 55, 56, 57, 58, 59, 60, 61, 62, 63, 64, 65, 66, 67, 68, 69, 70, 71, 72, 73, 74, 75, 76, 77, 78, 79, 80, 81] (by decide +kernel) (by decide +kernel)
set_option maxRecDepth 20000 in
theorem gX12_will_X12_shown : GoodIn wsX12_will (wsV RX12 222 RX12 yX12_shown wsX12_shown) := goodIn_app (goodIn_of _ (by decide +kernel)) ggX12_will_X12_shown
theorem dX12_will_0 : decode cX12_will 0 = .ok (.aload_n 0, 1) := by decide +kernel
theorem dX12_will_1 : decode cX12_will 1 = .ok (.iload_n 1, 1) := by decide +kernel
theorem dX12_will_2 : decode cX12_will 2 = .ok (.invokevirtual 216, 3) := by decide +kernel
theorem dX12_will_5 : decode cX12_will 5 = .ok (.ifCond .eq 18, 3) := by decide +kernel
theorem dX12_will_8 : decode cX12_will 8 = .ok (.iload_n 2, 1) := by decide +kernel
theorem dX12_will_9 : decode cX12_will 9 = .ok (.aload_n 0, 1) := by decide +kernel
theorem dX12_will_10 : decode cX12_will 10 = .ok (.getfield 16, 3) := by decide +kernel
theorem dX12_will_13 : decode cX12_will 13 = .ok (.iconst 0, 1) := by decide +kernel
theorem dX12_will_14 : decode cX12_will 14 = .ok (.iaload, 1) := by decide +kernel
theorem dX12_will_15 : decode cX12_will 15 = .ok (.bipush 49, 2) := by decide +kernel
theorem dX12_will_17 : decode cX12_will 17 = .ok (.invokestatic 72, 3) := by decide +kernel
theorem dX12_will_20 : decode cX12_will 20 = .ok (.ifCond .ne 5, 3) := by decide +kernel
theorem dX12_will_23 : decode cX12_will 23 = .ok (.iconst (-1), 1) := by decide +kernel
theorem dX12_will_24 : decode cX12_will 24 = .ok (.ireturn, 1) := by decide +kernel
theorem dX12_will_25 : decode cX12_will 25 = .ok (.aload_n 0, 1) := by decide +kernel
theorem dX12_will_26 : decode cX12_will 26 = .ok (.invokevirtual 247, 3) := by decide +kernel
theorem dX12_will_29 : decode cX12_will 29 = .ok (.aload_n 0, 1) := by decide +kernel
theorem dX12_will_30 : decode cX12_will 30 = .ok (.getfield 16, 3) := by decide +kernel
theorem dX12_will_33 : decode cX12_will 33 = .ok (.iconst 0, 1) := by decide +kernel
theorem dX12_will_34 : decode cX12_will 34 = .ok (.iaload, 1) := by decide +kernel
theorem dX12_will_35 : decode cX12_will 35 = .ok (.istore_n 3, 1) := by decide +kernel
theorem dX12_will_36 : decode cX12_will 36 = .ok (.iload_n 3, 1) := by decide +kernel
theorem dX12_will_37 : decode cX12_will 37 = .ok (.iload_n 2, 1) := by decide +kernel
theorem dX12_will_38 : decode cX12_will 38 = .ok (.if_icmp .ge 15, 3) := by decide +kernel
theorem dX12_will_41 : decode cX12_will 41 = .ok (.aload_n 0, 1) := by decide +kernel
theorem dX12_will_42 : decode cX12_will 42 = .ok (.iload_n 1, 1) := by decide +kernel
theorem dX12_will_43 : decode cX12_will 43 = .ok (.iload_n 3, 1) := by decide +kernel
theorem dX12_will_44 : decode cX12_will 44 = .ok (.invokevirtual 229, 3) := by decide +kernel
theorem dX12_will_47 : decode cX12_will 47 = .ok (.iinc 3 1, 3) := by decide +kernel
theorem dX12_will_50 : decode cX12_will 50 = .ok (.goto (-14), 3) := by decide +kernel
theorem dX12_will_53 : decode cX12_will 53 = .ok (.aload_n 0, 1) := by decide +kernel
theorem dX12_will_54 : decode cX12_will 54 = .ok (.iload_n 1, 1) := by decide +kernel
theorem dX12_will_55 : decode cX12_will 55 = .ok (.invokevirtual 222, 3) := by decide +kernel
theorem dX12_will_58 : decode cX12_will 58 = .ok (.istore_n 3, 1) := by decide +kernel
theorem dX12_will_59 : decode cX12_will 59 = .ok (.aload_n 0, 1) := by decide +kernel
theorem dX12_will_60 : decode cX12_will 60 = .ok (.iconst 0, 1) := by decide +kernel
theorem dX12_will_61 : decode cX12_will 61 = .ok (.putfield 76, 3) := by decide +kernel
theorem dX12_will_64 : decode cX12_will 64 = .ok (.iload_n 3, 1) := by decide +kernel
theorem dX12_will_65 : decode cX12_will 65 = .ok (.ireturn, 1) := by decide +kernel
theorem dX12_seed_0 : decode cX12_seed 0 = .ok (.aload_n 0, 1) := by decide +kernel
theorem dX12_seed_1 : decode cX12_seed 1 = .ok (.getfield 19, 3) := by decide +kernel
theorem dX12_seed_4 : decode cX12_seed 4 = .ok (.istore_n 2, 1) := by decide +kernel
theorem dX12_seed_5 : decode cX12_seed 5 = .ok (.aload_n 0, 1) := by decide +kernel
theorem dX12_seed_6 : decode cX12_seed 6 = .ok (.iload_n 1, 1) := by decide +kernel
theorem dX12_seed_7 : decode cX12_seed 7 = .ok (.putfield 19, 3) := by decide +kernel
theorem dX12_seed_10 : decode cX12_seed 10 = .ok (.iload_n 2, 1) := by decide +kernel
theorem dX12_seed_11 : decode cX12_seed 11 = .ok (.ireturn, 1) := by decide +kernel
set_option maxRecDepth 20000 in
theorem ggX12_draw_X12_isPlace : GoodIn wsX12_draw wsX12_isPlace := goodIn_r _ [7, 8, 9, 6, 10] (by decide +kernel) (by decide +kernel)
set_option maxRecDepth 20000 in
theorem gX12_draw_X12_isPlace : GoodIn wsX12_draw (va_wsS RX12 198 yX12_isPlace wsX12_isPlace) := goodIn_app (goodIn_of _ (by decide +kernel)) ggX12_draw_X12_isPlace
set_option maxRecDepth 20000 in
theorem ggX12_draw_X12_isDay : GoodIn wsX12_draw wsX12_isDay := goodIn_r _ [13, 8, 9, 6, 10] (by decide +kernel) (by decide +kernel)
set_option maxRecDepth 20000 in
theorem gX12_draw_X12_isDay : GoodIn wsX12_draw (va_wsS RX12 201 yX12_isDay wsX12_isDay) := goodIn_app (goodIn_of _ (by decide +kernel)) ggX12_draw_X12_isDay
theorem dX12_draw_0 : decode cX12_draw 0 = .ok (.iload_n 1, 1) := by decide +kernel
theorem dX12_draw_1 : decode cX12_draw 1 = .ok (.invokestatic 198, 3) := by decide +kernel
theorem dX12_draw_4 : decode cX12_draw 4 = .ok (.ifCond .eq 10, 3) := by decide +kernel
theorem dX12_draw_7 : decode cX12_draw 7 = .ok (.iload_n 2, 1) := by decide +kernel
theorem dX12_draw_8 : decode cX12_draw 8 = .ok (.invokestatic 201, 3) := by decide +kernel
theorem dX12_draw_11 : decode cX12_draw 11 = .ok (.ifCond .ne 5, 3) := by decide +kernel
theorem dX12_draw_14 : decode cX12_draw 14 = .ok (.iconst (-1), 1) := by decide +kernel
theorem dX12_draw_15 : decode cX12_draw 15 = .ok (.ireturn, 1) := by decide +kernel
theorem dX12_draw_16 : decode cX12_draw 16 = .ok (.aload_n 0, 1) := by decide +kernel
theorem dX12_draw_17 : decode cX12_draw 17 = .ok (.aload_n 0, 1) := by decide +kernel
theorem dX12_draw_18 : decode cX12_draw 18 = .ok (.getfield 19, 3) := by decide +kernel
theorem dX12_draw_21 : decode cX12_draw 21 = .ok (.ldc_w 261, 3) := by decide +kernel
theorem dX12_draw_24 : decode cX12_draw 24 = .ok (.imul, 1) := by decide +kernel
theorem dX12_draw_25 : decode cX12_draw 25 = .ok (.sipush 12345, 3) := by decide +kernel
theorem dX12_draw_28 : decode cX12_draw 28 = .ok (.iadd, 1) := by decide +kernel
theorem dX12_draw_29 : decode cX12_draw 29 = .ok (.putfield 19, 3) := by decide +kernel
theorem dX12_draw_32 : decode cX12_draw 32 = .ok (.aload_n 0, 1) := by decide +kernel
theorem dX12_draw_33 : decode cX12_draw 33 = .ok (.getfield 7, 3) := by decide +kernel
theorem dX12_draw_36 : decode cX12_draw 36 = .ok (.bipush 50, 2) := by decide +kernel
theorem dX12_draw_38 : decode cX12_draw 38 = .ok (.iload_n 1, 1) := by decide +kernel
theorem dX12_draw_39 : decode cX12_draw 39 = .ok (.imul, 1) := by decide +kernel
theorem dX12_draw_40 : decode cX12_draw 40 = .ok (.iload_n 2, 1) := by decide +kernel
theorem dX12_draw_41 : decode cX12_draw 41 = .ok (.iadd, 1) := by decide +kernel
theorem dX12_draw_42 : decode cX12_draw 42 = .ok (.aload_n 0, 1) := by decide +kernel
theorem dX12_draw_43 : decode cX12_draw 43 = .ok (.getfield 19, 3) := by decide +kernel
theorem dX12_draw_46 : decode cX12_draw 46 = .ok (.bipush 16, 2) := by decide +kernel
theorem dX12_draw_48 : decode cX12_draw 48 = .ok (.iushr, 1) := by decide +kernel
theorem dX12_draw_49 : decode cX12_draw 49 = .ok (.bipush 100, 2) := by decide +kernel
theorem dX12_draw_51 : decode cX12_draw 51 = .ok (.irem, 1) := by decide +kernel
theorem dX12_draw_52 : decode cX12_draw 52 = .ok (.iastore, 1) := by decide +kernel
theorem dX12_draw_53 : decode cX12_draw 53 = .ok (.aload_n 0, 1) := by decide +kernel
theorem dX12_draw_54 : decode cX12_draw 54 = .ok (.getfield 7, 3) := by decide +kernel
theorem dX12_draw_57 : decode cX12_draw 57 = .ok (.bipush 50, 2) := by decide +kernel
theorem dX12_draw_59 : decode cX12_draw 59 = .ok (.iload_n 1, 1) := by decide +kernel
theorem dX12_draw_60 : decode cX12_draw 60 = .ok (.imul, 1) := by decide +kernel
theorem dX12_draw_61 : decode cX12_draw 61 = .ok (.iload_n 2, 1) := by decide +kernel
theorem dX12_draw_62 : decode cX12_draw 62 = .ok (.iadd, 1) := by decide +kernel
theorem dX12_draw_63 : decode cX12_draw 63 = .ok (.iaload, 1) := by decide +kernel
theorem dX12_draw_64 : decode cX12_draw 64 = .ok (.ireturn, 1) := by decide +kernel
set_option maxRecDepth 20000 in
theorem ggX12_findRows_X12_lends : GoodIn wsX12_findRows wsX12_lends := goodIn_r _ [9, 4, 2, 38, 39, 40, 41, 42, 43, 44, 45, 46, 47, 48, 49, 50, 51, 52, 53, 54, 55, 56, 57, 58, 59, 60, 61, 62, 63, 64, 65, 66, 67, 68, 69, 70, 71, 72, 73, 74, 75, 76] (by decide +kernel) (by decide +kernel)
set_option maxRecDepth 20000 in
theorem gX12_findRows_X12_lends : GoodIn wsX12_findRows (wsV RX12 247 RX12 yX12_lends wsX12_lends) := goodIn_app (goodIn_of _ (by decide +kernel)) ggX12_findRows_X12_lends
set_option maxRecDepth 20000 in
theorem ggX12_findRows_X12_shown : GoodIn wsX12_findRows wsX12_shown := goodIn_r _ [13, 14, 15, 16, 8, 17, 2, 4, 18, 19, 20, 21, 22, 23, 24, 25, 26, 38, 39, 40, 41, 42, 43, 44, 45, 46, 47, 48, 49, 50, 51, 52, 53, 54, 55, 56, 57, 58, 59, 60, 61, 62, 63, 64, 65, 66, 67, 68, 69, 70, 71, 72, 73, 74, 75, 76] (by decide +kernel) (by decide +kernel)
set_option maxRecDepth 20000 in
theorem gX12_findRows_X12_shown : GoodIn wsX12_findRows (wsV RX12 222 RX12 yX12_shown wsX12_shown) := goodIn_app (goodIn_of _ (by decide +kernel)) ggX12_findRows_X12_shown
set_option maxRecDepth 20000 in
theorem ggX12_findRows_X12_lastOf : GoodIn wsX12_findRows wsX12_lastOf := goodIn_r _ [21, 14, 15, 16, 8, 17, 2, 4, 38, 39, 40, 41, 42, 43, 44, 45, 46, 47, 48, 49, 50, 51, 52, 53, 54, 55, 56, 57, 58, 59, 60, 61, 62, 63, 64, 65, 66, 67, 68, 69, 70, 71, 72, 73, 74, 75, 76] (by decide +kernel) (by decide +kernel)
set_option maxRecDepth 20000 in
theorem gX12_findRows_X12_lastOf : GoodIn wsX12_findRows (wsV RX12 210 RX12 yX12_lastOf wsX12_lastOf) := goodIn_app (goodIn_of _ (by decide +kernel)) ggX12_findRows_X12_lastOf
set_option maxRecDepth 20000 in
theorem ggX12_findRows_X12_moves : GoodIn wsX12_findRows wsX12_moves := goodIn_r _ [30, 14, 15, 16, 8, 17, 2, 4, 31, 32, 33, 34, 35, 36, 37, 38, 39, 40, 41, 42, 43, 44, 45, 46, 47, 48, 49, 50, 51, 52, 53, 54, 55, 56, 57, 58, 59, 60, 61, 62, 63, 64, 65, 66, 67, 68, 69, 70, 71, 72, 73, 74, 75, 76] (by decide +kernel) (by decide +kernel)
set_option maxRecDepth 20000 in
theorem gX12_findRows_X12_moves : GoodIn wsX12_findRows (wsV RX12 229 RX12 yX12_moves wsX12_moves) := goodIn_app (goodIn_of _ (by decide +kernel)) ggX12_findRows_X12_moves
theorem dX12_findRows_0 : decode cX12_findRows 0 = .ok (.aload_n 0, 1) := by decide +kernel
theorem dX12_findRows_1 : decode cX12_findRows 1 = .ok (.invokevirtual 247, 3) := by decide +kernel
theorem dX12_findRows_4 : decode cX12_findRows 4 = .ok (.aload_n 0, 1) := by decide +kernel
theorem dX12_findRows_5 : decode cX12_findRows 5 = .ok (.iconst 0, 1) := by decide +kernel
theorem dX12_findRows_6 : decode cX12_findRows 6 = .ok (.putfield 262, 3) := by decide +kernel
theorem dX12_findRows_9 : decode cX12_findRows 9 = .ok (.aload_n 0, 1) := by decide +kernel
theorem dX12_findRows_10 : decode cX12_findRows 10 = .ok (.getfield 16, 3) := by decide +kernel
theorem dX12_findRows_13 : decode cX12_findRows 13 = .ok (.iconst 0, 1) := by decide +kernel
theorem dX12_findRows_14 : decode cX12_findRows 14 = .ok (.iaload, 1) := by decide +kernel
theorem dX12_findRows_15 : decode cX12_findRows 15 = .ok (.istore_n 3, 1) := by decide +kernel
theorem dX12_findRows_16 : decode cX12_findRows 16 = .ok (.aload_n 0, 1) := by decide +kernel
theorem dX12_findRows_17 : decode cX12_findRows 17 = .ok (.getfield 262, 3) := by decide +kernel
theorem dX12_findRows_20 : decode cX12_findRows 20 = .ok (.iload_n 2, 1) := by decide +kernel
theorem dX12_findRows_21 : decode cX12_findRows 21 = .ok (.if_icmp .ge 79, 3) := by decide +kernel
theorem dX12_findRows_24 : decode cX12_findRows 24 = .ok (.iload_n 3, 1) := by decide +kernel
theorem dX12_findRows_25 : decode cX12_findRows 25 = .ok (.bipush 50, 2) := by decide +kernel
theorem dX12_findRows_27 : decode cX12_findRows 27 = .ok (.if_icmp .ge 73, 3) := by decide +kernel
theorem dX12_findRows_30 : decode cX12_findRows 30 = .ok (.aload_n 0, 1) := by decide +kernel
theorem dX12_findRows_31 : decode cX12_findRows 31 = .ok (.getfield 41, 3) := by decide +kernel
theorem dX12_findRows_34 : decode cX12_findRows 34 = .ok (.iconst 3, 1) := by decide +kernel
theorem dX12_findRows_35 : decode cX12_findRows 35 = .ok (.aload_n 0, 1) := by decide +kernel
theorem dX12_findRows_36 : decode cX12_findRows 36 = .ok (.getfield 262, 3) := by decide +kernel
theorem dX12_findRows_39 : decode cX12_findRows 39 = .ok (.imul, 1) := by decide +kernel
theorem dX12_findRows_40 : decode cX12_findRows 40 = .ok (.iload_n 3, 1) := by decide +kernel
theorem dX12_findRows_41 : decode cX12_findRows 41 = .ok (.iastore, 1) := by decide +kernel
theorem dX12_findRows_42 : decode cX12_findRows 42 = .ok (.aload_n 0, 1) := by decide +kernel
theorem dX12_findRows_43 : decode cX12_findRows 43 = .ok (.getfield 41, 3) := by decide +kernel
theorem dX12_findRows_46 : decode cX12_findRows 46 = .ok (.iconst 3, 1) := by decide +kernel
theorem dX12_findRows_47 : decode cX12_findRows 47 = .ok (.aload_n 0, 1) := by decide +kernel
theorem dX12_findRows_48 : decode cX12_findRows 48 = .ok (.getfield 262, 3) := by decide +kernel
theorem dX12_findRows_51 : decode cX12_findRows 51 = .ok (.imul, 1) := by decide +kernel
theorem dX12_findRows_52 : decode cX12_findRows 52 = .ok (.iconst 1, 1) := by decide +kernel
theorem dX12_findRows_53 : decode cX12_findRows 53 = .ok (.iadd, 1) := by decide +kernel
theorem dX12_findRows_54 : decode cX12_findRows 54 = .ok (.aload_n 0, 1) := by decide +kernel
theorem dX12_findRows_55 : decode cX12_findRows 55 = .ok (.iload_n 1, 1) := by decide +kernel
theorem dX12_findRows_56 : decode cX12_findRows 56 = .ok (.invokevirtual 222, 3) := by decide +kernel
theorem dX12_findRows_59 : decode cX12_findRows 59 = .ok (.iastore, 1) := by decide +kernel
theorem dX12_findRows_60 : decode cX12_findRows 60 = .ok (.aload_n 0, 1) := by decide +kernel
theorem dX12_findRows_61 : decode cX12_findRows 61 = .ok (.getfield 41, 3) := by decide +kernel
theorem dX12_findRows_64 : decode cX12_findRows 64 = .ok (.iconst 3, 1) := by decide +kernel
theorem dX12_findRows_65 : decode cX12_findRows 65 = .ok (.aload_n 0, 1) := by decide +kernel
theorem dX12_findRows_66 : decode cX12_findRows 66 = .ok (.getfield 262, 3) := by decide +kernel
theorem dX12_findRows_69 : decode cX12_findRows 69 = .ok (.imul, 1) := by decide +kernel
theorem dX12_findRows_70 : decode cX12_findRows 70 = .ok (.iconst 2, 1) := by decide +kernel
theorem dX12_findRows_71 : decode cX12_findRows 71 = .ok (.iadd, 1) := by decide +kernel
theorem dX12_findRows_72 : decode cX12_findRows 72 = .ok (.aload_n 0, 1) := by decide +kernel
theorem dX12_findRows_73 : decode cX12_findRows 73 = .ok (.iload_n 1, 1) := by decide +kernel
theorem dX12_findRows_74 : decode cX12_findRows 74 = .ok (.invokevirtual 210, 3) := by decide +kernel
theorem dX12_findRows_77 : decode cX12_findRows 77 = .ok (.iastore, 1) := by decide +kernel
theorem dX12_findRows_78 : decode cX12_findRows 78 = .ok (.aload_n 0, 1) := by decide +kernel
theorem dX12_findRows_79 : decode cX12_findRows 79 = .ok (.dup, 1) := by decide +kernel
theorem dX12_findRows_80 : decode cX12_findRows 80 = .ok (.getfield 262, 3) := by decide +kernel
theorem dX12_findRows_83 : decode cX12_findRows 83 = .ok (.iconst 1, 1) := by decide +kernel
theorem dX12_findRows_84 : decode cX12_findRows 84 = .ok (.iadd, 1) := by decide +kernel
theorem dX12_findRows_85 : decode cX12_findRows 85 = .ok (.putfield 262, 3) := by decide +kernel
theorem dX12_findRows_88 : decode cX12_findRows 88 = .ok (.aload_n 0, 1) := by decide +kernel
theorem dX12_findRows_89 : decode cX12_findRows 89 = .ok (.iload_n 1, 1) := by decide +kernel
theorem dX12_findRows_90 : decode cX12_findRows 90 = .ok (.iload_n 3, 1) := by decide +kernel
theorem dX12_findRows_91 : decode cX12_findRows 91 = .ok (.invokevirtual 229, 3) := by decide +kernel
theorem dX12_findRows_94 : decode cX12_findRows 94 = .ok (.iinc 3 1, 3) := by decide +kernel
theorem dX12_findRows_97 : decode cX12_findRows 97 = .ok (.goto (-81), 3) := by decide +kernel
theorem dX12_findRows_100 : decode cX12_findRows 100 = .ok (.aload_n 0, 1) := by decide +kernel
theorem dX12_findRows_101 : decode cX12_findRows 101 = .ok (.iconst 0, 1) := by decide +kernel
theorem dX12_findRows_102 : decode cX12_findRows 102 = .ok (.putfield 76, 3) := by decide +kernel
theorem dX12_findRows_105 : decode cX12_findRows 105 = .ok (.return_, 1) := by decide +kernel
set_option maxRecDepth 20000 in
theorem ggX12_prove_X12_isPane : GoodIn wsX12_prove wsX12_isPane := goodIn_r _ [9, 10, 11, 12, 8, 13, 54, 55, 56, 57, 58, 59, 60, 61, 62, 63, 64, 65, 66, 67, 68, 69, 70, 71, 72, 73, 74, 75, 76, 77, 78, 79, 80, 81, 82, 83, 84, 85, 86, 87, 88, 89, 90, 91, 92] (by decide +kernel) (by decide +kernel)
set_option maxRecDepth 20000 in
theorem gX12_prove_X12_isPane : GoodIn wsX12_prove (wsV RX12 216 RX12 yX12_isPane wsX12_isPane) := goodIn_app (goodIn_of _ (by decide +kernel)) ggX12_prove_X12_isPane
set_option maxRecDepth 20000 in
theorem ggX12_prove_X12_isLong : GoodIn wsX12_prove wsX12_isLong := goodIn_r _ [16, 11, 12, 8, 13] (by decide +kernel) (by decide +kernel)
set_option maxRecDepth 20000 in
theorem gX12_prove_X12_isLong : GoodIn wsX12_prove (va_wsS RX12 250 yX12_isLong wsX12_isLong) := goodIn_app (goodIn_of _ (by decide +kernel)) ggX12_prove_X12_isLong
set_option maxRecDepth 20000 in
theorem ggX12_prove_X12_findRows : GoodIn wsX12_prove wsX12_findRows := goodIn_r _ [20, 1, 10, 4, 21, 22, 23, 24, 8, 25, 26, 27, 28, 29, 30, 31, 32, 33, 34, 35, 36, 37, 38, 39, 40, 41, 42, 43, 44, 45, 46, 47, 48, 49, 50, 51, 52, 53, 54, 55, 56, 57, 58, 59, 60, 61, 62, 63, 64, 65, 66, 67, 68, 69, 70, 71, 72, 73, 74, 75, 76, 77, 78, 79, 80, 81, 82, 83, 84, 85, 86, 87, 88, 89, 90, 91, 92] (by decide +kernel) (by decide +kernel)
set_option maxRecDepth 20000 in
theorem gX12_prove_X12_findRows : GoodIn wsX12_prove (wsV RX12 265 RX12 yX12_findRows wsX12_findRows) := goodIn_app (goodIn_of _ (by decide +kernel)) ggX12_prove_X12_findRows
theorem dX12_prove_0 : decode cX12_prove 0 = .ok (.aload_n 0, 1) := by decide +kernel
theorem dX12_prove_1 : decode cX12_prove 1 = .ok (.iload_n 1, 1) := by decide +kernel
theorem dX12_prove_2 : decode cX12_prove 2 = .ok (.invokevirtual 216, 3) := by decide +kernel
theorem dX12_prove_5 : decode cX12_prove 5 = .ok (.ifCond .eq 10, 3) := by decide +kernel
theorem dX12_prove_8 : decode cX12_prove 8 = .ok (.iload_n 2, 1) := by decide +kernel
theorem dX12_prove_9 : decode cX12_prove 9 = .ok (.invokestatic 250, 3) := by decide +kernel
theorem dX12_prove_12 : decode cX12_prove 12 = .ok (.ifCond .ne 5, 3) := by decide +kernel
theorem dX12_prove_15 : decode cX12_prove 15 = .ok (.iconst (-1), 1) := by decide +kernel
theorem dX12_prove_16 : decode cX12_prove 16 = .ok (.ireturn, 1) := by decide +kernel
theorem dX12_prove_17 : decode cX12_prove 17 = .ok (.aload_n 0, 1) := by decide +kernel
theorem dX12_prove_18 : decode cX12_prove 18 = .ok (.iload_n 1, 1) := by decide +kernel
theorem dX12_prove_19 : decode cX12_prove 19 = .ok (.iload_n 2, 1) := by decide +kernel
theorem dX12_prove_20 : decode cX12_prove 20 = .ok (.invokevirtual 265, 3) := by decide +kernel
theorem dX12_prove_23 : decode cX12_prove 23 = .ok (.aload_n 0, 1) := by decide +kernel
theorem dX12_prove_24 : decode cX12_prove 24 = .ok (.aload_n 0, 1) := by decide +kernel
theorem dX12_prove_25 : decode cX12_prove 25 = .ok (.getfield 262, 3) := by decide +kernel
theorem dX12_prove_28 : decode cX12_prove 28 = .ok (.putfield 191, 3) := by decide +kernel
theorem dX12_prove_31 : decode cX12_prove 31 = .ok (.iconst 0, 1) := by decide +kernel
theorem dX12_prove_32 : decode cX12_prove 32 = .ok (.istore_n 3, 1) := by decide +kernel
theorem dX12_prove_33 : decode cX12_prove 33 = .ok (.iload_n 3, 1) := by decide +kernel
theorem dX12_prove_34 : decode cX12_prove 34 = .ok (.iconst 3, 1) := by decide +kernel
theorem dX12_prove_35 : decode cX12_prove 35 = .ok (.aload_n 0, 1) := by decide +kernel
theorem dX12_prove_36 : decode cX12_prove 36 = .ok (.getfield 191, 3) := by decide +kernel
theorem dX12_prove_39 : decode cX12_prove 39 = .ok (.imul, 1) := by decide +kernel
theorem dX12_prove_40 : decode cX12_prove 40 = .ok (.if_icmp .ge 21, 3) := by decide +kernel
theorem dX12_prove_43 : decode cX12_prove 43 = .ok (.aload_n 0, 1) := by decide +kernel
theorem dX12_prove_44 : decode cX12_prove 44 = .ok (.getfield 38, 3) := by decide +kernel
theorem dX12_prove_47 : decode cX12_prove 47 = .ok (.iload_n 3, 1) := by decide +kernel
theorem dX12_prove_48 : decode cX12_prove 48 = .ok (.aload_n 0, 1) := by decide +kernel
theorem dX12_prove_49 : decode cX12_prove 49 = .ok (.getfield 41, 3) := by decide +kernel
theorem dX12_prove_52 : decode cX12_prove 52 = .ok (.iload_n 3, 1) := by decide +kernel
theorem dX12_prove_53 : decode cX12_prove 53 = .ok (.iaload, 1) := by decide +kernel
theorem dX12_prove_54 : decode cX12_prove 54 = .ok (.iastore, 1) := by decide +kernel
theorem dX12_prove_55 : decode cX12_prove 55 = .ok (.iinc 3 1, 3) := by decide +kernel
theorem dX12_prove_58 : decode cX12_prove 58 = .ok (.goto (-25), 3) := by decide +kernel
theorem dX12_prove_61 : decode cX12_prove 61 = .ok (.aload_n 0, 1) := by decide +kernel
theorem dX12_prove_62 : decode cX12_prove 62 = .ok (.getfield 191, 3) := by decide +kernel
theorem dX12_prove_65 : decode cX12_prove 65 = .ok (.ireturn, 1) := by decide +kernel
set_option maxRecDepth 20000 in
theorem ggX12_isRow_X12_in : GoodIn wsX12_isRow wsX12_in := goodIn_r _ [5] (by decide +kernel) (by decide +kernel)
set_option maxRecDepth 20000 in
theorem gX12_isRow_X12_in : GoodIn wsX12_isRow (va_wsS RX12 72 yX12_in wsX12_in) := goodIn_app (goodIn_of _ (by decide +kernel)) ggX12_isRow_X12_in
theorem dX12_isRow_0 : decode cX12_isRow 0 = .ok (.iload_n 1, 1) := by decide +kernel
theorem dX12_isRow_1 : decode cX12_isRow 1 = .ok (.iconst 0, 1) := by decide +kernel
theorem dX12_isRow_2 : decode cX12_isRow 2 = .ok (.aload_n 0, 1) := by decide +kernel
theorem dX12_isRow_3 : decode cX12_isRow 3 = .ok (.getfield 191, 3) := by decide +kernel
theorem dX12_isRow_6 : decode cX12_isRow 6 = .ok (.iconst 1, 1) := by decide +kernel
theorem dX12_isRow_7 : decode cX12_isRow 7 = .ok (.isub, 1) := by decide +kernel
theorem dX12_isRow_8 : decode cX12_isRow 8 = .ok (.invokestatic 72, 3) := by decide +kernel
theorem dX12_isRow_11 : decode cX12_isRow 11 = .ok (.ifCond .eq 16, 3) := by decide +kernel
theorem dX12_isRow_14 : decode cX12_isRow 14 = .ok (.iload_n 2, 1) := by decide +kernel
theorem dX12_isRow_15 : decode cX12_isRow 15 = .ok (.iconst 0, 1) := by decide +kernel
theorem dX12_isRow_16 : decode cX12_isRow 16 = .ok (.iconst 2, 1) := by decide +kernel
theorem dX12_isRow_17 : decode cX12_isRow 17 = .ok (.invokestatic 72, 3) := by decide +kernel
theorem dX12_isRow_20 : decode cX12_isRow 20 = .ok (.ifCond .eq 7, 3) := by decide +kernel
theorem dX12_isRow_23 : decode cX12_isRow 23 = .ok (.iconst 1, 1) := by decide +kernel
theorem dX12_isRow_24 : decode cX12_isRow 24 = .ok (.goto 4, 3) := by decide +kernel
theorem dX12_isRow_27 : decode cX12_isRow 27 = .ok (.iconst 0, 1) := by decide +kernel
theorem dX12_isRow_28 : decode cX12_isRow 28 = .ok (.ireturn, 1) := by decide +kernel
set_option maxRecDepth 20000 in
theorem ggX12_row_X12_isRow : GoodIn wsX12_row wsX12_isRow := goodIn_r _ [6, 7, 8, 9, 5, 10, 11, 12, 13, 14, 15, 16, 17, 18, 19, 20, 21, 22, 23, 24, 25, 26, 27, 28, 29, 30, 31, 32, 33, 34, 35, 36, 37, 38, 39, 40, 41, 42, 43, 44, 45, 46, 47, 48, 49] (by decide +kernel) (by decide +kernel)
set_option maxRecDepth 20000 in
theorem gX12_row_X12_isRow : GoodIn wsX12_row (wsV RX12 268 RX12 yX12_isRow wsX12_isRow) := goodIn_app (goodIn_of _ (by decide +kernel)) ggX12_row_X12_isRow
theorem dX12_row_0 : decode cX12_row 0 = .ok (.aload_n 0, 1) := by decide +kernel
theorem dX12_row_1 : decode cX12_row 1 = .ok (.iload_n 1, 1) := by decide +kernel
theorem dX12_row_2 : decode cX12_row 2 = .ok (.iload_n 2, 1) := by decide +kernel
theorem dX12_row_3 : decode cX12_row 3 = .ok (.invokevirtual 268, 3) := by decide +kernel
theorem dX12_row_6 : decode cX12_row 6 = .ok (.ifCond .eq 16, 3) := by decide +kernel
theorem dX12_row_9 : decode cX12_row 9 = .ok (.aload_n 0, 1) := by decide +kernel
theorem dX12_row_10 : decode cX12_row 10 = .ok (.getfield 38, 3) := by decide +kernel
theorem dX12_row_13 : decode cX12_row 13 = .ok (.iconst 3, 1) := by decide +kernel
theorem dX12_row_14 : decode cX12_row 14 = .ok (.iload_n 1, 1) := by decide +kernel
theorem dX12_row_15 : decode cX12_row 15 = .ok (.imul, 1) := by decide +kernel
theorem dX12_row_16 : decode cX12_row 16 = .ok (.iload_n 2, 1) := by decide +kernel
theorem dX12_row_17 : decode cX12_row 17 = .ok (.iadd, 1) := by decide +kernel
theorem dX12_row_18 : decode cX12_row 18 = .ok (.iaload, 1) := by decide +kernel
theorem dX12_row_19 : decode cX12_row 19 = .ok (.goto 5, 3) := by decide +kernel
theorem dX12_row_22 : decode cX12_row 22 = .ok (.bipush (-99), 2) := by decide +kernel
theorem dX12_row_24 : decode cX12_row 24 = .ok (.ireturn, 1) := by decide +kernel
set_option maxRecDepth 20000 in
theorem ggX12_alterRow_X12_isRow : GoodIn wsX12_alterRow wsX12_isRow := goodIn_r _ [6, 7, 8, 9, 5, 10, 11, 12, 13, 14, 15, 16, 17, 18, 19, 20, 21, 22, 23, 24, 25, 26, 27, 28, 29, 30, 31, 32, 33, 34, 35, 36, 37, 38, 39, 40, 41, 42, 43, 44, 45, 46, 47, 48, 49] (by decide +kernel) (by decide +kernel)
set_option maxRecDepth 20000 in
theorem gX12_alterRow_X12_isRow : GoodIn wsX12_alterRow (wsV RX12 268 RX12 yX12_isRow wsX12_isRow) := goodIn_app (goodIn_of _ (by decide +kernel)) ggX12_alterRow_X12_isRow
theorem dX12_alterRow_0 : decode cX12_alterRow 0 = .ok (.aload_n 0, 1) := by decide +kernel
theorem dX12_alterRow_1 : decode cX12_alterRow 1 = .ok (.iload_n 1, 1) := by decide +kernel
theorem dX12_alterRow_2 : decode cX12_alterRow 2 = .ok (.iload_n 2, 1) := by decide +kernel
theorem dX12_alterRow_3 : decode cX12_alterRow 3 = .ok (.invokevirtual 268, 3) := by decide +kernel
theorem dX12_alterRow_6 : decode cX12_alterRow 6 = .ok (.ifCond .ne 6, 3) := by decide +kernel
theorem dX12_alterRow_9 : decode cX12_alterRow 9 = .ok (.bipush (-99), 2) := by decide +kernel
theorem dX12_alterRow_11 : decode cX12_alterRow 11 = .ok (.ireturn, 1) := by decide +kernel
theorem dX12_alterRow_12 : decode cX12_alterRow 12 = .ok (.aload_n 0, 1) := by decide +kernel
theorem dX12_alterRow_13 : decode cX12_alterRow 13 = .ok (.getfield 38, 3) := by decide +kernel
theorem dX12_alterRow_16 : decode cX12_alterRow 16 = .ok (.iconst 3, 1) := by decide +kernel
theorem dX12_alterRow_17 : decode cX12_alterRow 17 = .ok (.iload_n 1, 1) := by decide +kernel
theorem dX12_alterRow_18 : decode cX12_alterRow 18 = .ok (.imul, 1) := by decide +kernel
theorem dX12_alterRow_19 : decode cX12_alterRow 19 = .ok (.iload_n 2, 1) := by decide +kernel
theorem dX12_alterRow_20 : decode cX12_alterRow 20 = .ok (.iadd, 1) := by decide +kernel
theorem dX12_alterRow_21 : decode cX12_alterRow 21 = .ok (.iaload, 1) := by decide +kernel
theorem dX12_alterRow_22 : decode cX12_alterRow 22 = .ok (.istore 4, 2) := by decide +kernel
theorem dX12_alterRow_24 : decode cX12_alterRow 24 = .ok (.aload_n 0, 1) := by decide +kernel
theorem dX12_alterRow_25 : decode cX12_alterRow 25 = .ok (.getfield 38, 3) := by decide +kernel
theorem dX12_alterRow_28 : decode cX12_alterRow 28 = .ok (.iconst 3, 1) := by decide +kernel
theorem dX12_alterRow_29 : decode cX12_alterRow 29 = .ok (.iload_n 1, 1) := by decide +kernel
theorem dX12_alterRow_30 : decode cX12_alterRow 30 = .ok (.imul, 1) := by decide +kernel
theorem dX12_alterRow_31 : decode cX12_alterRow 31 = .ok (.iload_n 2, 1) := by decide +kernel
theorem dX12_alterRow_32 : decode cX12_alterRow 32 = .ok (.iadd, 1) := by decide +kernel
theorem dX12_alterRow_33 : decode cX12_alterRow 33 = .ok (.iload_n 3, 1) := by decide +kernel
theorem dX12_alterRow_34 : decode cX12_alterRow 34 = .ok (.iastore, 1) := by decide +kernel
theorem dX12_alterRow_35 : decode cX12_alterRow 35 = .ok (.iload 4, 2) := by decide +kernel
theorem dX12_alterRow_37 : decode cX12_alterRow 37 = .ok (.ireturn, 1) := by decide +kernel
set_option maxRecDepth 20000 in
theorem ggX12_judge_X12_isPane : GoodIn wsX12_judge wsX12_isPane := goodIn_r _ [9, 10, 11, 12, 8, 13, 51, 52, 53, 54, 55, 56, 57, 58, 59, 60, 61, 62, 63, 64, 65, 66, 67, 68, 69, 70, 71, 72, 73, 74, 75, 76, 77, 78, 79, 80, 81, 82, 83, 84, 85, 86, 87, 88, 89] (by decide +kernel) (by decide +kernel)
set_option maxRecDepth 20000 in
theorem gX12_judge_X12_isPane : GoodIn wsX12_judge (wsV RX12 216 RX12 yX12_isPane wsX12_isPane) := goodIn_app (goodIn_of _ (by decide +kernel)) ggX12_judge_X12_isPane
set_option maxRecDepth 20000 in
theorem ggX12_judge_X12_findRows : GoodIn wsX12_judge wsX12_findRows := goodIn_r _ [17, 2, 10, 4, 18, 19, 20, 21, 8, 22, 23, 24, 25, 26, 27, 28, 29, 30, 31, 32, 33, 34, 35, 36, 37, 38, 39, 40, 41, 42, 43, 44, 45, 46, 47, 48, 49, 50, 51, 52, 53, 54, 55, 56, 57, 58, 59, 60, 61, 62, 63, 64, 65, 66, 67, 68, 69, 70, 71, 72, 73, 74, 75, 76, 77, 78, 79, 80, 81, 82, 83, 84, 85, 86, 87, 88, 89] (by decide +kernel) (by decide +kernel)
set_option maxRecDepth 20000 in
theorem gX12_judge_X12_findRows : GoodIn wsX12_judge (wsV RX12 265 RX12 yX12_findRows wsX12_findRows) := goodIn_app (goodIn_of _ (by decide +kernel)) ggX12_judge_X12_findRows
theorem dX12_judge_0 : decode cX12_judge 0 = .ok (.aload_n 0, 1) := by decide +kernel
theorem dX12_judge_1 : decode cX12_judge 1 = .ok (.iload_n 1, 1) := by decide +kernel
theorem dX12_judge_2 : decode cX12_judge 2 = .ok (.invokevirtual 216, 3) := by decide +kernel
theorem dX12_judge_5 : decode cX12_judge 5 = .ok (.ifCond .ne 5, 3) := by decide +kernel
theorem dX12_judge_8 : decode cX12_judge 8 = .ok (.iconst (-1), 1) := by decide +kernel
theorem dX12_judge_9 : decode cX12_judge 9 = .ok (.ireturn, 1) := by decide +kernel
theorem dX12_judge_10 : decode cX12_judge 10 = .ok (.aload_n 0, 1) := by decide +kernel
theorem dX12_judge_11 : decode cX12_judge 11 = .ok (.iload_n 1, 1) := by decide +kernel
theorem dX12_judge_12 : decode cX12_judge 12 = .ok (.aload_n 0, 1) := by decide +kernel
theorem dX12_judge_13 : decode cX12_judge 13 = .ok (.getfield 191, 3) := by decide +kernel
theorem dX12_judge_16 : decode cX12_judge 16 = .ok (.invokevirtual 265, 3) := by decide +kernel
theorem dX12_judge_19 : decode cX12_judge 19 = .ok (.iconst 0, 1) := by decide +kernel
theorem dX12_judge_20 : decode cX12_judge 20 = .ok (.istore_n 2, 1) := by decide +kernel
theorem dX12_judge_21 : decode cX12_judge 21 = .ok (.iload_n 2, 1) := by decide +kernel
theorem dX12_judge_22 : decode cX12_judge 22 = .ok (.aload_n 0, 1) := by decide +kernel
theorem dX12_judge_23 : decode cX12_judge 23 = .ok (.getfield 191, 3) := by decide +kernel
theorem dX12_judge_26 : decode cX12_judge 26 = .ok (.if_icmp .ge 81, 3) := by decide +kernel
theorem dX12_judge_29 : decode cX12_judge 29 = .ok (.iload_n 2, 1) := by decide +kernel
theorem dX12_judge_30 : decode cX12_judge 30 = .ok (.aload_n 0, 1) := by decide +kernel
theorem dX12_judge_31 : decode cX12_judge 31 = .ok (.getfield 262, 3) := by decide +kernel
theorem dX12_judge_34 : decode cX12_judge 34 = .ok (.if_icmp .ge 7, 3) := by decide +kernel
theorem dX12_judge_37 : decode cX12_judge 37 = .ok (.iconst 1, 1) := by decide +kernel
theorem dX12_judge_38 : decode cX12_judge 38 = .ok (.goto 4, 3) := by decide +kernel
theorem dX12_judge_41 : decode cX12_judge 41 = .ok (.iconst 0, 1) := by decide +kernel
theorem dX12_judge_42 : decode cX12_judge 42 = .ok (.istore_n 3, 1) := by decide +kernel
theorem dX12_judge_43 : decode cX12_judge 43 = .ok (.iconst 0, 1) := by decide +kernel
theorem dX12_judge_44 : decode cX12_judge 44 = .ok (.istore 4, 2) := by decide +kernel
theorem dX12_judge_46 : decode cX12_judge 46 = .ok (.iload 4, 2) := by decide +kernel
theorem dX12_judge_48 : decode cX12_judge 48 = .ok (.iconst 3, 1) := by decide +kernel
theorem dX12_judge_49 : decode cX12_judge 49 = .ok (.if_icmp .ge 44, 3) := by decide +kernel
theorem dX12_judge_52 : decode cX12_judge 52 = .ok (.iload_n 3, 1) := by decide +kernel
theorem dX12_judge_53 : decode cX12_judge 53 = .ok (.ifCond .eq 40, 3) := by decide +kernel
theorem dX12_judge_56 : decode cX12_judge 56 = .ok (.aload_n 0, 1) := by decide +kernel
theorem dX12_judge_57 : decode cX12_judge 57 = .ok (.getfield 38, 3) := by decide +kernel
theorem dX12_judge_60 : decode cX12_judge 60 = .ok (.iconst 3, 1) := by decide +kernel
theorem dX12_judge_61 : decode cX12_judge 61 = .ok (.iload_n 2, 1) := by decide +kernel
theorem dX12_judge_62 : decode cX12_judge 62 = .ok (.imul, 1) := by decide +kernel
theorem dX12_judge_63 : decode cX12_judge 63 = .ok (.iload 4, 2) := by decide +kernel
theorem dX12_judge_65 : decode cX12_judge 65 = .ok (.iadd, 1) := by decide +kernel
theorem dX12_judge_66 : decode cX12_judge 66 = .ok (.iaload, 1) := by decide +kernel
theorem dX12_judge_67 : decode cX12_judge 67 = .ok (.aload_n 0, 1) := by decide +kernel
theorem dX12_judge_68 : decode cX12_judge 68 = .ok (.getfield 41, 3) := by decide +kernel
theorem dX12_judge_71 : decode cX12_judge 71 = .ok (.iconst 3, 1) := by decide +kernel
theorem dX12_judge_72 : decode cX12_judge 72 = .ok (.iload_n 2, 1) := by decide +kernel
theorem dX12_judge_73 : decode cX12_judge 73 = .ok (.imul, 1) := by decide +kernel
theorem dX12_judge_74 : decode cX12_judge 74 = .ok (.iload 4, 2) := by decide +kernel
theorem dX12_judge_76 : decode cX12_judge 76 = .ok (.iadd, 1) := by decide +kernel
theorem dX12_judge_77 : decode cX12_judge 77 = .ok (.iaload, 1) := by decide +kernel
theorem dX12_judge_78 : decode cX12_judge 78 = .ok (.if_icmp .ne 7, 3) := by decide +kernel
theorem dX12_judge_81 : decode cX12_judge 81 = .ok (.iconst 1, 1) := by decide +kernel
theorem dX12_judge_82 : decode cX12_judge 82 = .ok (.goto 4, 3) := by decide +kernel
theorem dX12_judge_85 : decode cX12_judge 85 = .ok (.iconst 0, 1) := by decide +kernel
theorem dX12_judge_86 : decode cX12_judge 86 = .ok (.istore_n 3, 1) := by decide +kernel
theorem dX12_judge_87 : decode cX12_judge 87 = .ok (.iinc 4 1, 3) := by decide +kernel
theorem dX12_judge_90 : decode cX12_judge 90 = .ok (.goto (-44), 3) := by decide +kernel
theorem dX12_judge_93 : decode cX12_judge 93 = .ok (.iload_n 3, 1) := by decide +kernel
theorem dX12_judge_94 : decode cX12_judge 94 = .ok (.ifCond .ne 7, 3) := by decide +kernel
theorem dX12_judge_97 : decode cX12_judge 97 = .ok (.iload_n 2, 1) := by decide +kernel
theorem dX12_judge_98 : decode cX12_judge 98 = .ok (.iconst 1, 1) := by decide +kernel
theorem dX12_judge_99 : decode cX12_judge 99 = .ok (.iadd, 1) := by decide +kernel
theorem dX12_judge_100 : decode cX12_judge 100 = .ok (.ireturn, 1) := by decide +kernel
theorem dX12_judge_101 : decode cX12_judge 101 = .ok (.iinc 2 1, 3) := by decide +kernel
theorem dX12_judge_104 : decode cX12_judge 104 = .ok (.goto (-83), 3) := by decide +kernel
theorem dX12_judge_107 : decode cX12_judge 107 = .ok (.iconst 0, 1) := by decide +kernel
theorem dX12_judge_108 : decode cX12_judge 108 = .ok (.ireturn, 1) := by decide +kernel
set_option maxRecDepth 20000 in
theorem ggX12_views_X12_isShelf : GoodIn wsX12_views wsX12_isShelf := goodIn_r _ [8, 9, 10, 7, 11] (by decide +kernel) (by decide +kernel)
set_option maxRecDepth 20000 in
theorem gX12_views_X12_isShelf : GoodIn wsX12_views (va_wsS RX12 271 yX12_isShelf wsX12_isShelf) := goodIn_app (goodIn_of _ (by decide +kernel)) ggX12_views_X12_isShelf
set_option maxRecDepth 20000 in
theorem ggX12_views_X12_isPlace : GoodIn wsX12_views wsX12_isPlace := goodIn_r _ [14, 9, 10, 7, 11] (by decide +kernel) (by decide +kernel)
set_option maxRecDepth 20000 in
theorem gX12_views_X12_isPlace : GoodIn wsX12_views (va_wsS RX12 198 yX12_isPlace wsX12_isPlace) := goodIn_app (goodIn_of _ (by decide +kernel)) ggX12_views_X12_isPlace
set_option maxRecDepth 20000 in
theorem ggX12_views_X12_isDay : GoodIn wsX12_views wsX12_isDay := goodIn_r _ [17, 9, 10, 7, 11] (by decide +kernel) (by decide +kernel)
set_option maxRecDepth 20000 in
theorem gX12_views_X12_isDay : GoodIn wsX12_views (va_wsS RX12 201 yX12_isDay wsX12_isDay) := goodIn_app (goodIn_of _ (by decide +kernel)) ggX12_views_X12_isDay
set_option maxRecDepth 20000 in
theorem ggX12_views_X12_in : GoodIn wsX12_views wsX12_in := goodIn_r _ [11] (by decide +kernel) (by decide +kernel)
set_option maxRecDepth 20000 in
theorem gX12_views_X12_in : GoodIn wsX12_views (va_wsS RX12 72 yX12_in wsX12_in) := goodIn_app (goodIn_of _ (by decide +kernel)) ggX12_views_X12_in
set_option maxRecDepth 20000 in
theorem ggX12_views_X12_lacksSort : GoodIn wsX12_views wsX12_lacksSort := goodIn_r _ [21, 22, 23, 24, 25, 26, 27, 28, 29, 30, 31, 32, 33, 34, 35, 36, 37, 38, 39, 40, 41, 42, 43, 44, 45, 46, 47, 48, 49, 50, 51, 52, 53, 54, 55, 56, 57, 58, 59, 60, 61] (by decide +kernel) (by decide +kernel)
set_option maxRecDepth 20000 in
theorem gX12_views_X12_lacksSort : GoodIn wsX12_views (wsV RX12 274 RX12 yX12_lacksSort wsX12_lacksSort) := goodIn_app (goodIn_of _ (by decide +kernel)) ggX12_views_X12_lacksSort
theorem dX12_views_0 : decode cX12_views 0 = .ok (.iload_n 1, 1) := by decide +kernel
theorem dX12_views_1 : decode cX12_views 1 = .ok (.invokestatic 271, 3) := by decide +kernel
theorem dX12_views_4 : decode cX12_views 4 = .ok (.ifCond .eq 39, 3) := by decide +kernel
theorem dX12_views_7 : decode cX12_views 7 = .ok (.iload_n 3, 1) := by decide +kernel
theorem dX12_views_8 : decode cX12_views 8 = .ok (.invokestatic 198, 3) := by decide +kernel
theorem dX12_views_11 : decode cX12_views 11 = .ok (.ifCond .eq 32, 3) := by decide +kernel
theorem dX12_views_14 : decode cX12_views 14 = .ok (.iload 4, 2) := by decide +kernel
theorem dX12_views_16 : decode cX12_views 16 = .ok (.invokestatic 201, 3) := by decide +kernel
theorem dX12_views_19 : decode cX12_views 19 = .ok (.ifCond .eq 24, 3) := by decide +kernel
theorem dX12_views_22 : decode cX12_views 22 = .ok (.iload 5, 2) := by decide +kernel
theorem dX12_views_24 : decode cX12_views 24 = .ok (.iconst 0, 1) := by decide +kernel
theorem dX12_views_25 : decode cX12_views 25 = .ok (.bipush 50, 2) := by decide +kernel
theorem dX12_views_27 : decode cX12_views 27 = .ok (.invokestatic 72, 3) := by decide +kernel
theorem dX12_views_30 : decode cX12_views 30 = .ok (.ifCond .eq 13, 3) := by decide +kernel
theorem dX12_views_33 : decode cX12_views 33 = .ok (.iload 4, 2) := by decide +kernel
theorem dX12_views_35 : decode cX12_views 35 = .ok (.iload 5, 2) := by decide +kernel
theorem dX12_views_37 : decode cX12_views 37 = .ok (.iadd, 1) := by decide +kernel
theorem dX12_views_38 : decode cX12_views 38 = .ok (.bipush 50, 2) := by decide +kernel
theorem dX12_views_40 : decode cX12_views 40 = .ok (.if_icmp .le 5, 3) := by decide +kernel
theorem dX12_views_43 : decode cX12_views 43 = .ok (.iconst (-1), 1) := by decide +kernel
theorem dX12_views_44 : decode cX12_views 44 = .ok (.ireturn, 1) := by decide +kernel
theorem dX12_views_45 : decode cX12_views 45 = .ok (.aload_n 0, 1) := by decide +kernel
theorem dX12_views_46 : decode cX12_views 46 = .ok (.iload_n 1, 1) := by decide +kernel
theorem dX12_views_47 : decode cX12_views 47 = .ok (.iconst 0, 1) := by decide +kernel
theorem dX12_views_48 : decode cX12_views 48 = .ok (.invokevirtual 274, 3) := by decide +kernel
theorem dX12_views_51 : decode cX12_views 51 = .ok (.istore 6, 2) := by decide +kernel
theorem dX12_views_53 : decode cX12_views 53 = .ok (.iload 6, 2) := by decide +kernel
theorem dX12_views_55 : decode cX12_views 55 = .ok (.ifCond .eq 6, 3) := by decide +kernel
theorem dX12_views_58 : decode cX12_views 58 = .ok (.iload 6, 2) := by decide +kernel
theorem dX12_views_60 : decode cX12_views 60 = .ok (.ireturn, 1) := by decide +kernel
theorem dX12_views_61 : decode cX12_views 61 = .ok (.iload_n 2, 1) := by decide +kernel
theorem dX12_views_62 : decode cX12_views 62 = .ok (.ifCond .lt 16, 3) := by decide +kernel
theorem dX12_views_65 : decode cX12_views 65 = .ok (.iload_n 2, 1) := by decide +kernel
theorem dX12_views_66 : decode cX12_views 66 = .ok (.aload_n 0, 1) := by decide +kernel
theorem dX12_views_67 : decode cX12_views 67 = .ok (.getfield 47, 3) := by decide +kernel
theorem dX12_views_70 : decode cX12_views 70 = .ok (.iload_n 1, 1) := by decide +kernel
theorem dX12_views_71 : decode cX12_views 71 = .ok (.iaload, 1) := by decide +kernel
theorem dX12_views_72 : decode cX12_views 72 = .ok (.iload 5, 2) := by decide +kernel
theorem dX12_views_74 : decode cX12_views 74 = .ok (.isub, 1) := by decide +kernel
theorem dX12_views_75 : decode cX12_views 75 = .ok (.if_icmp .le 6, 3) := by decide +kernel
theorem dX12_views_78 : decode cX12_views 78 = .ok (.bipush (-12), 2) := by decide +kernel
theorem dX12_views_80 : decode cX12_views 80 = .ok (.ireturn, 1) := by decide +kernel
theorem dX12_views_81 : decode cX12_views 81 = .ok (.iconst 0, 1) := by decide +kernel
theorem dX12_views_82 : decode cX12_views 82 = .ok (.istore 7, 2) := by decide +kernel
theorem dX12_views_84 : decode cX12_views 84 = .ok (.iload 7, 2) := by decide +kernel
theorem dX12_views_86 : decode cX12_views 86 = .ok (.iload 5, 2) := by decide +kernel
theorem dX12_views_88 : decode cX12_views 88 = .ok (.if_icmp .ge 68, 3) := by decide +kernel
theorem dX12_views_91 : decode cX12_views 91 = .ok (.aload_n 0, 1) := by decide +kernel
theorem dX12_views_92 : decode cX12_views 92 = .ok (.getfield 50, 3) := by decide +kernel
theorem dX12_views_95 : decode cX12_views 95 = .ok (.bipush 40, 2) := by decide +kernel
theorem dX12_views_97 : decode cX12_views 97 = .ok (.iload_n 1, 1) := by decide +kernel
theorem dX12_views_98 : decode cX12_views 98 = .ok (.imul, 1) := by decide +kernel
theorem dX12_views_99 : decode cX12_views 99 = .ok (.iload_n 2, 1) := by decide +kernel
theorem dX12_views_100 : decode cX12_views 100 = .ok (.iadd, 1) := by decide +kernel
theorem dX12_views_101 : decode cX12_views 101 = .ok (.iload 7, 2) := by decide +kernel
theorem dX12_views_103 : decode cX12_views 103 = .ok (.iadd, 1) := by decide +kernel
theorem dX12_views_104 : decode cX12_views 104 = .ok (.laload, 1) := by decide +kernel
theorem dX12_views_105 : decode cX12_views 105 = .ok (.lstore 8, 2) := by decide +kernel
theorem dX12_views_107 : decode cX12_views 107 = .ok (.aload_n 0, 1) := by decide +kernel
theorem dX12_views_108 : decode cX12_views 108 = .ok (.getfield 7, 3) := by decide +kernel
theorem dX12_views_111 : decode cX12_views 111 = .ok (.bipush 50, 2) := by decide +kernel
theorem dX12_views_113 : decode cX12_views 113 = .ok (.iload_n 3, 1) := by decide +kernel
theorem dX12_views_114 : decode cX12_views 114 = .ok (.imul, 1) := by decide +kernel
theorem dX12_views_115 : decode cX12_views 115 = .ok (.iload 4, 2) := by decide +kernel
theorem dX12_views_117 : decode cX12_views 117 = .ok (.iadd, 1) := by decide +kernel
theorem dX12_views_118 : decode cX12_views 118 = .ok (.iload 7, 2) := by decide +kernel
theorem dX12_views_120 : decode cX12_views 120 = .ok (.iadd, 1) := by decide +kernel
theorem dX12_views_121 : decode cX12_views 121 = .ok (.lload 8, 2) := by decide +kernel
theorem dX12_views_123 : decode cX12_views 123 = .ok (.lconst 0, 1) := by decide +kernel
theorem dX12_views_124 : decode cX12_views 124 = .ok (.lcmp, 1) := by decide +kernel
theorem dX12_views_125 : decode cX12_views 125 = .ok (.ifCond .ge 7, 3) := by decide +kernel
theorem dX12_views_128 : decode cX12_views 128 = .ok (.iconst 0, 1) := by decide +kernel
theorem dX12_views_129 : decode cX12_views 129 = .ok (.goto 20, 3) := by decide +kernel
theorem dX12_views_132 : decode cX12_views 132 = .ok (.lload 8, 2) := by decide +kernel
theorem dX12_views_134 : decode cX12_views 134 = .ok (.ldc2_w 277, 3) := by decide +kernel
theorem dX12_views_137 : decode cX12_views 137 = .ok (.lcmp, 1) := by decide +kernel
theorem dX12_views_138 : decode cX12_views 138 = .ok (.ifCond .le 8, 3) := by decide +kernel
theorem dX12_views_141 : decode cX12_views 141 = .ok (.bipush 99, 2) := by decide +kernel
theorem dX12_views_143 : decode cX12_views 143 = .ok (.goto 6, 3) := by decide +kernel
theorem dX12_views_146 : decode cX12_views 146 = .ok (.lload 8, 2) := by decide +kernel
theorem dX12_views_148 : decode cX12_views 148 = .ok (.l2i, 1) := by decide +kernel
theorem dX12_views_149 : decode cX12_views 149 = .ok (.iastore, 1) := by decide +kernel
theorem dX12_views_150 : decode cX12_views 150 = .ok (.iinc 7 1, 3) := by decide +kernel
theorem dX12_views_153 : decode cX12_views 153 = .ok (.goto (-69), 3) := by decide +kernel
theorem dX12_views_156 : decode cX12_views 156 = .ok (.iload 5, 2) := by decide +kernel
theorem dX12_views_158 : decode cX12_views 158 = .ok (.ireturn, 1) := by decide +kernel
set_option maxRecDepth 20000 in
theorem ggX12_isShelf_X12_in : GoodIn wsX12_isShelf wsX12_in := goodIn_r _ [4] (by decide +kernel) (by decide +kernel)
set_option maxRecDepth 20000 in
theorem gX12_isShelf_X12_in : GoodIn wsX12_isShelf (va_wsS RX12 72 yX12_in wsX12_in) := goodIn_app (goodIn_of _ (by decide +kernel)) ggX12_isShelf_X12_in
theorem dX12_isShelf_0 : decode cX12_isShelf 0 = .ok (.iload_n 0, 1) := by decide +kernel
theorem dX12_isShelf_1 : decode cX12_isShelf 1 = .ok (.iconst 0, 1) := by decide +kernel
theorem dX12_isShelf_2 : decode cX12_isShelf 2 = .ok (.iconst 3, 1) := by decide +kernel
theorem dX12_isShelf_3 : decode cX12_isShelf 3 = .ok (.invokestatic 72, 3) := by decide +kernel
theorem dX12_isShelf_6 : decode cX12_isShelf 6 = .ok (.ireturn, 1) := by decide +kernel
set_option maxRecDepth 20000 in
theorem ggX12_sheet_X12_isShelf : GoodIn wsX12_sheet wsX12_isShelf := goodIn_r _ [7, 8, 9, 6, 10] (by decide +kernel) (by decide +kernel)
set_option maxRecDepth 20000 in
theorem gX12_sheet_X12_isShelf : GoodIn wsX12_sheet (va_wsS RX12 271 yX12_isShelf wsX12_isShelf) := goodIn_app (goodIn_of _ (by decide +kernel)) ggX12_sheet_X12_isShelf
set_option maxRecDepth 20000 in
theorem ggX12_sheet_X12_in : GoodIn wsX12_sheet wsX12_in := goodIn_r _ [10] (by decide +kernel) (by decide +kernel)
set_option maxRecDepth 20000 in
theorem gX12_sheet_X12_in : GoodIn wsX12_sheet (va_wsS RX12 72 yX12_in wsX12_in) := goodIn_app (goodIn_of _ (by decide +kernel)) ggX12_sheet_X12_in
theorem dX12_sheet_0 : decode cX12_sheet 0 = .ok (.iload_n 1, 1) := by decide +kernel
theorem dX12_sheet_1 : decode cX12_sheet 1 = .ok (.invokestatic 271, 3) := by decide +kernel
theorem dX12_sheet_4 : decode cX12_sheet 4 = .ok (.ifCond .eq 22, 3) := by decide +kernel
theorem dX12_sheet_7 : decode cX12_sheet 7 = .ok (.iload_n 2, 1) := by decide +kernel
theorem dX12_sheet_8 : decode cX12_sheet 8 = .ok (.iconst (-1), 1) := by decide +kernel
theorem dX12_sheet_9 : decode cX12_sheet 9 = .ok (.iconst 3, 1) := by decide +kernel
theorem dX12_sheet_10 : decode cX12_sheet 10 = .ok (.invokestatic 72, 3) := by decide +kernel
theorem dX12_sheet_13 : decode cX12_sheet 13 = .ok (.ifCond .eq 13, 3) := by decide +kernel
theorem dX12_sheet_16 : decode cX12_sheet 16 = .ok (.iload_n 2, 1) := by decide +kernel
theorem dX12_sheet_17 : decode cX12_sheet 17 = .ok (.ifCond .lt 11, 3) := by decide +kernel
theorem dX12_sheet_20 : decode cX12_sheet 20 = .ok (.iload_n 3, 1) := by decide +kernel
theorem dX12_sheet_21 : decode cX12_sheet 21 = .ok (.bipush 40, 2) := by decide +kernel
theorem dX12_sheet_23 : decode cX12_sheet 23 = .ok (.if_icmp .le 5, 3) := by decide +kernel
theorem dX12_sheet_26 : decode cX12_sheet 26 = .ok (.iconst (-1), 1) := by decide +kernel
theorem dX12_sheet_27 : decode cX12_sheet 27 = .ok (.ireturn, 1) := by decide +kernel
theorem dX12_sheet_28 : decode cX12_sheet 28 = .ok (.iload_n 2, 1) := by decide +kernel
theorem dX12_sheet_29 : decode cX12_sheet 29 = .ok (.ifCond .lt 10, 3) := by decide +kernel
theorem dX12_sheet_32 : decode cX12_sheet 32 = .ok (.iload_n 3, 1) := by decide +kernel
theorem dX12_sheet_33 : decode cX12_sheet 33 = .ok (.ifCond .ge 6, 3) := by decide +kernel
theorem dX12_sheet_36 : decode cX12_sheet 36 = .ok (.bipush (-14), 2) := by decide +kernel
theorem dX12_sheet_38 : decode cX12_sheet 38 = .ok (.ireturn, 1) := by decide +kernel
theorem dX12_sheet_39 : decode cX12_sheet 39 = .ok (.aload_n 0, 1) := by decide +kernel
theorem dX12_sheet_40 : decode cX12_sheet 40 = .ok (.getfield 44, 3) := by decide +kernel
theorem dX12_sheet_43 : decode cX12_sheet 43 = .ok (.iload_n 1, 1) := by decide +kernel
theorem dX12_sheet_44 : decode cX12_sheet 44 = .ok (.iload_n 2, 1) := by decide +kernel
theorem dX12_sheet_45 : decode cX12_sheet 45 = .ok (.iastore, 1) := by decide +kernel
theorem dX12_sheet_46 : decode cX12_sheet 46 = .ok (.aload_n 0, 1) := by decide +kernel
theorem dX12_sheet_47 : decode cX12_sheet 47 = .ok (.getfield 47, 3) := by decide +kernel
theorem dX12_sheet_50 : decode cX12_sheet 50 = .ok (.iload_n 1, 1) := by decide +kernel
theorem dX12_sheet_51 : decode cX12_sheet 51 = .ok (.iload_n 2, 1) := by decide +kernel
theorem dX12_sheet_52 : decode cX12_sheet 52 = .ok (.ifCond .ge 7, 3) := by decide +kernel
theorem dX12_sheet_55 : decode cX12_sheet 55 = .ok (.iconst 0, 1) := by decide +kernel
theorem dX12_sheet_56 : decode cX12_sheet 56 = .ok (.goto 4, 3) := by decide +kernel
theorem dX12_sheet_59 : decode cX12_sheet 59 = .ok (.iload_n 3, 1) := by decide +kernel
theorem dX12_sheet_60 : decode cX12_sheet 60 = .ok (.iastore, 1) := by decide +kernel
theorem dX12_sheet_61 : decode cX12_sheet 61 = .ok (.iconst 0, 1) := by decide +kernel
theorem dX12_sheet_62 : decode cX12_sheet 62 = .ok (.istore 4, 2) := by decide +kernel
theorem dX12_sheet_64 : decode cX12_sheet 64 = .ok (.iload 4, 2) := by decide +kernel
theorem dX12_sheet_66 : decode cX12_sheet 66 = .ok (.bipush 40, 2) := by decide +kernel
theorem dX12_sheet_68 : decode cX12_sheet 68 = .ok (.if_icmp .ge 22, 3) := by decide +kernel
theorem dX12_sheet_71 : decode cX12_sheet 71 = .ok (.aload_n 0, 1) := by decide +kernel
theorem dX12_sheet_72 : decode cX12_sheet 72 = .ok (.getfield 50, 3) := by decide +kernel
theorem dX12_sheet_75 : decode cX12_sheet 75 = .ok (.bipush 40, 2) := by decide +kernel
theorem dX12_sheet_77 : decode cX12_sheet 77 = .ok (.iload_n 1, 1) := by decide +kernel
theorem dX12_sheet_78 : decode cX12_sheet 78 = .ok (.imul, 1) := by decide +kernel
theorem dX12_sheet_79 : decode cX12_sheet 79 = .ok (.iload 4, 2) := by decide +kernel
theorem dX12_sheet_81 : decode cX12_sheet 81 = .ok (.iadd, 1) := by decide +kernel
theorem dX12_sheet_82 : decode cX12_sheet 82 = .ok (.lconst 0, 1) := by decide +kernel
theorem dX12_sheet_83 : decode cX12_sheet 83 = .ok (.lastore, 1) := by decide +kernel
theorem dX12_sheet_84 : decode cX12_sheet 84 = .ok (.iinc 4 1, 3) := by decide +kernel
theorem dX12_sheet_87 : decode cX12_sheet 87 = .ok (.goto (-23), 3) := by decide +kernel
theorem dX12_sheet_90 : decode cX12_sheet 90 = .ok (.iconst 1, 1) := by decide +kernel
theorem dX12_sheet_91 : decode cX12_sheet 91 = .ok (.ireturn, 1) := by decide +kernel
set_option maxRecDepth 20000 in
theorem ggX12_put_X12_isShelf : GoodIn wsX12_put wsX12_isShelf := goodIn_r _ [7, 8, 9, 6, 10] (by decide +kernel) (by decide +kernel)
set_option maxRecDepth 20000 in
theorem gX12_put_X12_isShelf : GoodIn wsX12_put (va_wsS RX12 271 yX12_isShelf wsX12_isShelf) := goodIn_app (goodIn_of _ (by decide +kernel)) ggX12_put_X12_isShelf
set_option maxRecDepth 20000 in
theorem ggX12_put_X12_in : GoodIn wsX12_put wsX12_in := goodIn_r _ [10] (by decide +kernel) (by decide +kernel)
set_option maxRecDepth 20000 in
theorem gX12_put_X12_in : GoodIn wsX12_put (va_wsS RX12 72 yX12_in wsX12_in) := goodIn_app (goodIn_of _ (by decide +kernel)) ggX12_put_X12_in
theorem dX12_put_0 : decode cX12_put 0 = .ok (.iload_n 1, 1) := by decide +kernel
theorem dX12_put_1 : decode cX12_put 1 = .ok (.invokestatic 271, 3) := by decide +kernel
theorem dX12_put_4 : decode cX12_put 4 = .ok (.ifCond .ne 5, 3) := by decide +kernel
theorem dX12_put_7 : decode cX12_put 7 = .ok (.iconst (-1), 1) := by decide +kernel
theorem dX12_put_8 : decode cX12_put 8 = .ok (.ireturn, 1) := by decide +kernel
theorem dX12_put_9 : decode cX12_put 9 = .ok (.aload_n 0, 1) := by decide +kernel
theorem dX12_put_10 : decode cX12_put 10 = .ok (.getfield 44, 3) := by decide +kernel
theorem dX12_put_13 : decode cX12_put 13 = .ok (.iload_n 1, 1) := by decide +kernel
theorem dX12_put_14 : decode cX12_put 14 = .ok (.iaload, 1) := by decide +kernel
theorem dX12_put_15 : decode cX12_put 15 = .ok (.ifCond .ge 6, 3) := by decide +kernel
theorem dX12_put_18 : decode cX12_put 18 = .ok (.bipush (-11), 2) := by decide +kernel
theorem dX12_put_20 : decode cX12_put 20 = .ok (.ireturn, 1) := by decide +kernel
theorem dX12_put_21 : decode cX12_put 21 = .ok (.iload_n 2, 1) := by decide +kernel
theorem dX12_put_22 : decode cX12_put 22 = .ok (.iconst 0, 1) := by decide +kernel
theorem dX12_put_23 : decode cX12_put 23 = .ok (.aload_n 0, 1) := by decide +kernel
theorem dX12_put_24 : decode cX12_put 24 = .ok (.getfield 47, 3) := by decide +kernel
theorem dX12_put_27 : decode cX12_put 27 = .ok (.iload_n 1, 1) := by decide +kernel
theorem dX12_put_28 : decode cX12_put 28 = .ok (.iaload, 1) := by decide +kernel
theorem dX12_put_29 : decode cX12_put 29 = .ok (.iconst 1, 1) := by decide +kernel
theorem dX12_put_30 : decode cX12_put 30 = .ok (.isub, 1) := by decide +kernel
theorem dX12_put_31 : decode cX12_put 31 = .ok (.invokestatic 72, 3) := by decide +kernel
theorem dX12_put_34 : decode cX12_put 34 = .ok (.ifCond .ne 6, 3) := by decide +kernel
theorem dX12_put_37 : decode cX12_put 37 = .ok (.bipush (-12), 2) := by decide +kernel
theorem dX12_put_39 : decode cX12_put 39 = .ok (.ireturn, 1) := by decide +kernel
theorem dX12_put_40 : decode cX12_put 40 = .ok (.aload_n 0, 1) := by decide +kernel
theorem dX12_put_41 : decode cX12_put 41 = .ok (.getfield 50, 3) := by decide +kernel
theorem dX12_put_44 : decode cX12_put 44 = .ok (.bipush 40, 2) := by decide +kernel
theorem dX12_put_46 : decode cX12_put 46 = .ok (.iload_n 1, 1) := by decide +kernel
theorem dX12_put_47 : decode cX12_put 47 = .ok (.imul, 1) := by decide +kernel
theorem dX12_put_48 : decode cX12_put 48 = .ok (.iload_n 2, 1) := by decide +kernel
theorem dX12_put_49 : decode cX12_put 49 = .ok (.iadd, 1) := by decide +kernel
theorem dX12_put_50 : decode cX12_put 50 = .ok (.aload_n 0, 1) := by decide +kernel
theorem dX12_put_51 : decode cX12_put 51 = .ok (.getfield 44, 3) := by decide +kernel
theorem dX12_put_54 : decode cX12_put 54 = .ok (.iload_n 1, 1) := by decide +kernel
theorem dX12_put_55 : decode cX12_put 55 = .ok (.iaload, 1) := by decide +kernel
theorem dX12_put_56 : decode cX12_put 56 = .ok (.ifCond .ne 9, 3) := by decide +kernel
theorem dX12_put_59 : decode cX12_put 59 = .ok (.iload_n 3, 1) := by decide +kernel
theorem dX12_put_60 : decode cX12_put 60 = .ok (.i2b, 1) := by decide +kernel
theorem dX12_put_61 : decode cX12_put 61 = .ok (.i2l, 1) := by decide +kernel
theorem dX12_put_62 : decode cX12_put 62 = .ok (.goto 21, 3) := by decide +kernel
theorem dX12_put_65 : decode cX12_put 65 = .ok (.aload_n 0, 1) := by decide +kernel
theorem dX12_put_66 : decode cX12_put 66 = .ok (.getfield 44, 3) := by decide +kernel
theorem dX12_put_69 : decode cX12_put 69 = .ok (.iload_n 1, 1) := by decide +kernel
theorem dX12_put_70 : decode cX12_put 70 = .ok (.iaload, 1) := by decide +kernel
theorem dX12_put_71 : decode cX12_put 71 = .ok (.iconst 1, 1) := by decide +kernel
theorem dX12_put_72 : decode cX12_put 72 = .ok (.if_icmp .ne 9, 3) := by decide +kernel
theorem dX12_put_75 : decode cX12_put 75 = .ok (.iload_n 3, 1) := by decide +kernel
theorem dX12_put_76 : decode cX12_put 76 = .ok (.i2s, 1) := by decide +kernel
theorem dX12_put_77 : decode cX12_put 77 = .ok (.i2l, 1) := by decide +kernel
theorem dX12_put_78 : decode cX12_put 78 = .ok (.goto 5, 3) := by decide +kernel
theorem dX12_put_81 : decode cX12_put 81 = .ok (.iload_n 3, 1) := by decide +kernel
theorem dX12_put_82 : decode cX12_put 82 = .ok (.i2l, 1) := by decide +kernel
theorem dX12_put_83 : decode cX12_put 83 = .ok (.lastore, 1) := by decide +kernel
theorem dX12_put_84 : decode cX12_put 84 = .ok (.iconst 1, 1) := by decide +kernel
theorem dX12_put_85 : decode cX12_put 85 = .ok (.ireturn, 1) := by decide +kernel
theorem dX12_lacksSort_0 : decode cX12_lacksSort 0 = .ok (.aload_n 0, 1) := by decide +kernel
theorem dX12_lacksSort_1 : decode cX12_lacksSort 1 = .ok (.getfield 44, 3) := by decide +kernel
theorem dX12_lacksSort_4 : decode cX12_lacksSort 4 = .ok (.iload_n 1, 1) := by decide +kernel
theorem dX12_lacksSort_5 : decode cX12_lacksSort 5 = .ok (.iaload, 1) := by decide +kernel
theorem dX12_lacksSort_6 : decode cX12_lacksSort 6 = .ok (.ifCond .ge 8, 3) := by decide +kernel
theorem dX12_lacksSort_9 : decode cX12_lacksSort 9 = .ok (.bipush (-11), 2) := by decide +kernel
theorem dX12_lacksSort_11 : decode cX12_lacksSort 11 = .ok (.goto 19, 3) := by decide +kernel
theorem dX12_lacksSort_14 : decode cX12_lacksSort 14 = .ok (.aload_n 0, 1) := by decide +kernel
theorem dX12_lacksSort_15 : decode cX12_lacksSort 15 = .ok (.getfield 44, 3) := by decide +kernel
theorem dX12_lacksSort_18 : decode cX12_lacksSort 18 = .ok (.iload_n 1, 1) := by decide +kernel
theorem dX12_lacksSort_19 : decode cX12_lacksSort 19 = .ok (.iaload, 1) := by decide +kernel
theorem dX12_lacksSort_20 : decode cX12_lacksSort 20 = .ok (.iload_n 2, 1) := by decide +kernel
theorem dX12_lacksSort_21 : decode cX12_lacksSort 21 = .ok (.if_icmp .eq 8, 3) := by decide +kernel
theorem dX12_lacksSort_24 : decode cX12_lacksSort 24 = .ok (.bipush (-13), 2) := by decide +kernel
theorem dX12_lacksSort_26 : decode cX12_lacksSort 26 = .ok (.goto 4, 3) := by decide +kernel
theorem dX12_lacksSort_29 : decode cX12_lacksSort 29 = .ok (.iconst 0, 1) := by decide +kernel
theorem dX12_lacksSort_30 : decode cX12_lacksSort 30 = .ok (.ireturn, 1) := by decide +kernel
set_option maxRecDepth 20000 in
theorem ggX12_item_X12_isShelf : GoodIn wsX12_item wsX12_isShelf := goodIn_r _ [6, 7, 8, 5, 9] (by decide +kernel) (by decide +kernel)
set_option maxRecDepth 20000 in
theorem gX12_item_X12_isShelf : GoodIn wsX12_item (va_wsS RX12 271 yX12_isShelf wsX12_isShelf) := goodIn_app (goodIn_of _ (by decide +kernel)) ggX12_item_X12_isShelf
set_option maxRecDepth 20000 in
theorem ggX12_item_X12_in : GoodIn wsX12_item wsX12_in := goodIn_r _ [9] (by decide +kernel) (by decide +kernel)
set_option maxRecDepth 20000 in
theorem gX12_item_X12_in : GoodIn wsX12_item (va_wsS RX12 72 yX12_in wsX12_in) := goodIn_app (goodIn_of _ (by decide +kernel)) ggX12_item_X12_in
set_option maxRecDepth 20000 in
theorem ggX12_item_X12_lacksSort : GoodIn wsX12_item wsX12_lacksSort := goodIn_r _ [13, 14, 15, 16, 17, 18, 19, 20, 21, 22, 23, 24, 25, 26, 27, 28, 29, 30, 31, 32, 33, 34, 35, 36, 37, 38, 39, 40, 41, 42, 43, 44, 45, 46, 47, 48, 49, 50, 51, 52, 53] (by decide +kernel) (by decide +kernel)
set_option maxRecDepth 20000 in
theorem gX12_item_X12_lacksSort : GoodIn wsX12_item (wsV RX12 274 RX12 yX12_lacksSort wsX12_lacksSort) := goodIn_app (goodIn_of _ (by decide +kernel)) ggX12_item_X12_lacksSort
theorem dX12_item_0 : decode cX12_item 0 = .ok (.iload_n 1, 1) := by decide +kernel
theorem dX12_item_1 : decode cX12_item 1 = .ok (.invokestatic 271, 3) := by decide +kernel
theorem dX12_item_4 : decode cX12_item 4 = .ok (.ifCond .eq 12, 3) := by decide +kernel
theorem dX12_item_7 : decode cX12_item 7 = .ok (.iload_n 2, 1) := by decide +kernel
theorem dX12_item_8 : decode cX12_item 8 = .ok (.iconst 0, 1) := by decide +kernel
theorem dX12_item_9 : decode cX12_item 9 = .ok (.iconst 3, 1) := by decide +kernel
theorem dX12_item_10 : decode cX12_item 10 = .ok (.invokestatic 72, 3) := by decide +kernel
theorem dX12_item_13 : decode cX12_item 13 = .ok (.ifCond .ne 5, 3) := by decide +kernel
theorem dX12_item_16 : decode cX12_item 16 = .ok (.iconst (-1), 1) := by decide +kernel
theorem dX12_item_17 : decode cX12_item 17 = .ok (.ireturn, 1) := by decide +kernel
theorem dX12_item_18 : decode cX12_item 18 = .ok (.aload_n 0, 1) := by decide +kernel
theorem dX12_item_19 : decode cX12_item 19 = .ok (.iload_n 1, 1) := by decide +kernel
theorem dX12_item_20 : decode cX12_item 20 = .ok (.iload_n 2, 1) := by decide +kernel
theorem dX12_item_21 : decode cX12_item 21 = .ok (.invokevirtual 274, 3) := by decide +kernel
theorem dX12_item_24 : decode cX12_item 24 = .ok (.istore 4, 2) := by decide +kernel
theorem dX12_item_26 : decode cX12_item 26 = .ok (.iload 4, 2) := by decide +kernel
theorem dX12_item_28 : decode cX12_item 28 = .ok (.ifCond .eq 6, 3) := by decide +kernel
theorem dX12_item_31 : decode cX12_item 31 = .ok (.iload 4, 2) := by decide +kernel
theorem dX12_item_33 : decode cX12_item 33 = .ok (.ireturn, 1) := by decide +kernel
theorem dX12_item_34 : decode cX12_item 34 = .ok (.iload_n 3, 1) := by decide +kernel
theorem dX12_item_35 : decode cX12_item 35 = .ok (.iconst 0, 1) := by decide +kernel
theorem dX12_item_36 : decode cX12_item 36 = .ok (.aload_n 0, 1) := by decide +kernel
theorem dX12_item_37 : decode cX12_item 37 = .ok (.getfield 47, 3) := by decide +kernel
theorem dX12_item_40 : decode cX12_item 40 = .ok (.iload_n 1, 1) := by decide +kernel
theorem dX12_item_41 : decode cX12_item 41 = .ok (.iaload, 1) := by decide +kernel
theorem dX12_item_42 : decode cX12_item 42 = .ok (.iconst 1, 1) := by decide +kernel
theorem dX12_item_43 : decode cX12_item 43 = .ok (.isub, 1) := by decide +kernel
theorem dX12_item_44 : decode cX12_item 44 = .ok (.invokestatic 72, 3) := by decide +kernel
theorem dX12_item_47 : decode cX12_item 47 = .ok (.ifCond .eq 18, 3) := by decide +kernel
theorem dX12_item_50 : decode cX12_item 50 = .ok (.aload_n 0, 1) := by decide +kernel
theorem dX12_item_51 : decode cX12_item 51 = .ok (.getfield 50, 3) := by decide +kernel
theorem dX12_item_54 : decode cX12_item 54 = .ok (.bipush 40, 2) := by decide +kernel
theorem dX12_item_56 : decode cX12_item 56 = .ok (.iload_n 1, 1) := by decide +kernel
theorem dX12_item_57 : decode cX12_item 57 = .ok (.imul, 1) := by decide +kernel
theorem dX12_item_58 : decode cX12_item 58 = .ok (.iload_n 3, 1) := by decide +kernel
theorem dX12_item_59 : decode cX12_item 59 = .ok (.iadd, 1) := by decide +kernel
theorem dX12_item_60 : decode cX12_item 60 = .ok (.laload, 1) := by decide +kernel
theorem dX12_item_61 : decode cX12_item 61 = .ok (.l2i, 1) := by decide +kernel
theorem dX12_item_62 : decode cX12_item 62 = .ok (.goto 5, 3) := by decide +kernel
theorem dX12_item_65 : decode cX12_item 65 = .ok (.bipush (-12), 2) := by decide +kernel
theorem dX12_item_67 : decode cX12_item 67 = .ok (.ireturn, 1) := by decide +kernel
set_option maxRecDepth 20000 in
theorem ggX12_isHeld_X12_isPane : GoodIn wsX12_isHeld wsX12_isPane := goodIn_r _ [5, 6, 7, 8, 4, 9, 13, 14, 15, 16, 17, 18, 19, 20, 21, 22, 23, 24, 25, 26, 27, 28, 29, 30, 31, 32, 33, 34, 35, 36, 37, 38, 39, 40, 41, 42, 43, 44, 45, 46, 47, 48, 49, 50, 51] (by decide +kernel) (by decide +kernel)
set_option maxRecDepth 20000 in
theorem gX12_isHeld_X12_isPane : GoodIn wsX12_isHeld (wsV RX12 216 RX12 yX12_isPane wsX12_isPane) := goodIn_app (goodIn_of _ (by decide +kernel)) ggX12_isHeld_X12_isPane
set_option maxRecDepth 20000 in
theorem ggX12_isHeld_X12_isShelf : GoodIn wsX12_isHeld wsX12_isShelf := goodIn_r _ [12, 7, 8, 4, 9] (by decide +kernel) (by decide +kernel)
set_option maxRecDepth 20000 in
theorem gX12_isHeld_X12_isShelf : GoodIn wsX12_isHeld (va_wsS RX12 271 yX12_isShelf wsX12_isShelf) := goodIn_app (goodIn_of _ (by decide +kernel)) ggX12_isHeld_X12_isShelf
theorem dX12_isHeld_0 : decode cX12_isHeld 0 = .ok (.iload_n 1, 1) := by decide +kernel
theorem dX12_isHeld_1 : decode cX12_isHeld 1 = .ok (.ifCond .ne 11, 3) := by decide +kernel
theorem dX12_isHeld_4 : decode cX12_isHeld 4 = .ok (.aload_n 0, 1) := by decide +kernel
theorem dX12_isHeld_5 : decode cX12_isHeld 5 = .ok (.iload_n 2, 1) := by decide +kernel
theorem dX12_isHeld_6 : decode cX12_isHeld 6 = .ok (.invokevirtual 216, 3) := by decide +kernel
theorem dX12_isHeld_9 : decode cX12_isHeld 9 = .ok (.goto 25, 3) := by decide +kernel
theorem dX12_isHeld_12 : decode cX12_isHeld 12 = .ok (.iload_n 1, 1) := by decide +kernel
theorem dX12_isHeld_13 : decode cX12_isHeld 13 = .ok (.iconst 1, 1) := by decide +kernel
theorem dX12_isHeld_14 : decode cX12_isHeld 14 = .ok (.if_icmp .ne 10, 3) := by decide +kernel
theorem dX12_isHeld_17 : decode cX12_isHeld 17 = .ok (.iload_n 2, 1) := by decide +kernel
theorem dX12_isHeld_18 : decode cX12_isHeld 18 = .ok (.invokestatic 271, 3) := by decide +kernel
theorem dX12_isHeld_21 : decode cX12_isHeld 21 = .ok (.goto 13, 3) := by decide +kernel
theorem dX12_isHeld_24 : decode cX12_isHeld 24 = .ok (.iload_n 1, 1) := by decide +kernel
theorem dX12_isHeld_25 : decode cX12_isHeld 25 = .ok (.iconst 2, 1) := by decide +kernel
theorem dX12_isHeld_26 : decode cX12_isHeld 26 = .ok (.if_icmp .ne 7, 3) := by decide +kernel
theorem dX12_isHeld_29 : decode cX12_isHeld 29 = .ok (.iconst 1, 1) := by decide +kernel
theorem dX12_isHeld_30 : decode cX12_isHeld 30 = .ok (.goto 4, 3) := by decide +kernel
theorem dX12_isHeld_33 : decode cX12_isHeld 33 = .ok (.iconst 0, 1) := by decide +kernel
theorem dX12_isHeld_34 : decode cX12_isHeld 34 = .ok (.ireturn, 1) := by decide +kernel
set_option maxRecDepth 20000 in
theorem ggX12_shelf_X12_isShelf : GoodIn wsX12_shelf wsX12_isShelf := goodIn_r _ [9, 10, 11, 8, 12] (by decide +kernel) (by decide +kernel)
set_option maxRecDepth 20000 in
theorem gX12_shelf_X12_isShelf : GoodIn wsX12_shelf (va_wsS RX12 271 yX12_isShelf wsX12_isShelf) := goodIn_app (goodIn_of _ (by decide +kernel)) ggX12_shelf_X12_isShelf
set_option maxRecDepth 20000 in
theorem ggX12_shelf_X12_isHeld : GoodIn wsX12_shelf wsX12_isHeld := goodIn_r _ [16, 17, 18, 19, 8, 20, 21, 10, 11, 12, 6, 7, 9, 22, 23, 24, 25, 26, 27, 28, 29, 30, 31, 32, 33, 34, 35, 36, 37, 38, 39, 40, 41, 42, 43, 44, 45, 46, 47, 48, 49, 50, 51, 52, 53, 54, 55, 56, 57, 58, 59, 60] (by decide +kernel) (by decide +kernel)
set_option maxRecDepth 20000 in
theorem gX12_shelf_X12_isHeld : GoodIn wsX12_shelf (wsV RX12 279 RX12 yX12_isHeld wsX12_isHeld) := goodIn_app (goodIn_of _ (by decide +kernel)) ggX12_shelf_X12_isHeld
theorem dX12_shelf_0 : decode cX12_shelf 0 = .ok (.iload_n 1, 1) := by decide +kernel
theorem dX12_shelf_1 : decode cX12_shelf 1 = .ok (.invokestatic 271, 3) := by decide +kernel
theorem dX12_shelf_4 : decode cX12_shelf 4 = .ok (.ifCond .eq 12, 3) := by decide +kernel
theorem dX12_shelf_7 : decode cX12_shelf 7 = .ok (.aload_n 0, 1) := by decide +kernel
theorem dX12_shelf_8 : decode cX12_shelf 8 = .ok (.iload_n 2, 1) := by decide +kernel
theorem dX12_shelf_9 : decode cX12_shelf 9 = .ok (.iload_n 3, 1) := by decide +kernel
theorem dX12_shelf_10 : decode cX12_shelf 10 = .ok (.invokevirtual 279, 3) := by decide +kernel
theorem dX12_shelf_13 : decode cX12_shelf 13 = .ok (.ifCond .ne 5, 3) := by decide +kernel
theorem dX12_shelf_16 : decode cX12_shelf 16 = .ok (.iconst (-1), 1) := by decide +kernel
theorem dX12_shelf_17 : decode cX12_shelf 17 = .ok (.ireturn, 1) := by decide +kernel
theorem dX12_shelf_18 : decode cX12_shelf 18 = .ok (.aload_n 0, 1) := by decide +kernel
theorem dX12_shelf_19 : decode cX12_shelf 19 = .ok (.getfield 54, 3) := by decide +kernel
theorem dX12_shelf_22 : decode cX12_shelf 22 = .ok (.iload_n 1, 1) := by decide +kernel
theorem dX12_shelf_23 : decode cX12_shelf 23 = .ok (.iload_n 2, 1) := by decide +kernel
theorem dX12_shelf_24 : decode cX12_shelf 24 = .ok (.iconst 2, 1) := by decide +kernel
theorem dX12_shelf_25 : decode cX12_shelf 25 = .ok (.if_icmp .eq 17, 3) := by decide +kernel
theorem dX12_shelf_28 : decode cX12_shelf 28 = .ok (.iload_n 2, 1) := by decide +kernel
theorem dX12_shelf_29 : decode cX12_shelf 29 = .ok (.iconst 1, 1) := by decide +kernel
theorem dX12_shelf_30 : decode cX12_shelf 30 = .ok (.if_icmp .ne 16, 3) := by decide +kernel
theorem dX12_shelf_33 : decode cX12_shelf 33 = .ok (.aload_n 0, 1) := by decide +kernel
theorem dX12_shelf_34 : decode cX12_shelf 34 = .ok (.getfield 44, 3) := by decide +kernel
theorem dX12_shelf_37 : decode cX12_shelf 37 = .ok (.iload_n 3, 1) := by decide +kernel
theorem dX12_shelf_38 : decode cX12_shelf 38 = .ok (.iaload, 1) := by decide +kernel
theorem dX12_shelf_39 : decode cX12_shelf 39 = .ok (.ifCond .ge 7, 3) := by decide +kernel
theorem dX12_shelf_42 : decode cX12_shelf 42 = .ok (.iconst (-1), 1) := by decide +kernel
theorem dX12_shelf_43 : decode cX12_shelf 43 = .ok (.goto 4, 3) := by decide +kernel
theorem dX12_shelf_46 : decode cX12_shelf 46 = .ok (.iload_n 2, 1) := by decide +kernel
theorem dX12_shelf_47 : decode cX12_shelf 47 = .ok (.iastore, 1) := by decide +kernel
theorem dX12_shelf_48 : decode cX12_shelf 48 = .ok (.aload_n 0, 1) := by decide +kernel
theorem dX12_shelf_49 : decode cX12_shelf 49 = .ok (.getfield 57, 3) := by decide +kernel
theorem dX12_shelf_52 : decode cX12_shelf 52 = .ok (.iload_n 1, 1) := by decide +kernel
theorem dX12_shelf_53 : decode cX12_shelf 53 = .ok (.iload_n 2, 1) := by decide +kernel
theorem dX12_shelf_54 : decode cX12_shelf 54 = .ok (.iconst 1, 1) := by decide +kernel
theorem dX12_shelf_55 : decode cX12_shelf 55 = .ok (.if_icmp .ne 12, 3) := by decide +kernel
theorem dX12_shelf_58 : decode cX12_shelf 58 = .ok (.aload_n 0, 1) := by decide +kernel
theorem dX12_shelf_59 : decode cX12_shelf 59 = .ok (.getfield 44, 3) := by decide +kernel
theorem dX12_shelf_62 : decode cX12_shelf 62 = .ok (.iload_n 3, 1) := by decide +kernel
theorem dX12_shelf_63 : decode cX12_shelf 63 = .ok (.iaload, 1) := by decide +kernel
theorem dX12_shelf_64 : decode cX12_shelf 64 = .ok (.goto 4, 3) := by decide +kernel
theorem dX12_shelf_67 : decode cX12_shelf 67 = .ok (.iload_n 3, 1) := by decide +kernel
theorem dX12_shelf_68 : decode cX12_shelf 68 = .ok (.iastore, 1) := by decide +kernel
theorem dX12_shelf_69 : decode cX12_shelf 69 = .ok (.aload_n 0, 1) := by decide +kernel
theorem dX12_shelf_70 : decode cX12_shelf 70 = .ok (.getfield 60, 3) := by decide +kernel
theorem dX12_shelf_73 : decode cX12_shelf 73 = .ok (.iload_n 1, 1) := by decide +kernel
theorem dX12_shelf_74 : decode cX12_shelf 74 = .ok (.iload_n 2, 1) := by decide +kernel
theorem dX12_shelf_75 : decode cX12_shelf 75 = .ok (.iconst 1, 1) := by decide +kernel
theorem dX12_shelf_76 : decode cX12_shelf 76 = .ok (.if_icmp .ne 12, 3) := by decide +kernel
theorem dX12_shelf_79 : decode cX12_shelf 79 = .ok (.aload_n 0, 1) := by decide +kernel
theorem dX12_shelf_80 : decode cX12_shelf 80 = .ok (.getfield 47, 3) := by decide +kernel
theorem dX12_shelf_83 : decode cX12_shelf 83 = .ok (.iload_n 3, 1) := by decide +kernel
theorem dX12_shelf_84 : decode cX12_shelf 84 = .ok (.iaload, 1) := by decide +kernel
theorem dX12_shelf_85 : decode cX12_shelf 85 = .ok (.goto 4, 3) := by decide +kernel
theorem dX12_shelf_88 : decode cX12_shelf 88 = .ok (.iconst 0, 1) := by decide +kernel
theorem dX12_shelf_89 : decode cX12_shelf 89 = .ok (.iastore, 1) := by decide +kernel
theorem dX12_shelf_90 : decode cX12_shelf 90 = .ok (.iconst 1, 1) := by decide +kernel
theorem dX12_shelf_91 : decode cX12_shelf 91 = .ok (.ireturn, 1) := by decide +kernel
set_option maxRecDepth 20000 in
theorem ggX12_kindOn_X12_isPane : GoodIn wsX12_kindOn wsX12_isPane := goodIn_r _ [7, 8, 9, 10, 6, 11, 17, 18, 19, 20, 21, 22, 23, 24, 25, 26, 27, 28, 29, 30, 31, 32, 33, 34, 35, 36, 37, 38, 39, 40, 41, 42, 43, 44, 45, 46, 47, 48, 49, 50, 51, 52, 53, 54, 55] (by decide +kernel) (by decide +kernel)
set_option maxRecDepth 20000 in
theorem gX12_kindOn_X12_isPane : GoodIn wsX12_kindOn (wsV RX12 216 RX12 yX12_isPane wsX12_isPane) := goodIn_app (goodIn_of _ (by decide +kernel)) ggX12_kindOn_X12_isPane
set_option maxRecDepth 20000 in
theorem ggX12_kindOn_X12_its : GoodIn wsX12_kindOn wsX12_its := goodIn_r _ [15, 8, 16, 17, 18, 19, 20, 21, 22, 23, 24, 25, 26, 27, 28, 29, 30, 31, 32, 33, 34, 35, 36, 37, 38, 39, 40, 41, 42, 43, 44, 45, 46, 47, 48, 49, 50, 51, 52, 53, 54, 55] (by decide +kernel) (by decide +kernel)
set_option maxRecDepth 20000 in
theorem gX12_kindOn_X12_its : GoodIn wsX12_kindOn (wsV RX12 207 RX12 yX12_its wsX12_its) := goodIn_app (goodIn_of _ (by decide +kernel)) ggX12_kindOn_X12_its
theorem dX12_kindOn_0 : decode cX12_kindOn 0 = .ok (.aload_n 0, 1) := by decide +kernel
theorem dX12_kindOn_1 : decode cX12_kindOn 1 = .ok (.getfield 54, 3) := by decide +kernel
theorem dX12_kindOn_4 : decode cX12_kindOn 4 = .ok (.iload_n 1, 1) := by decide +kernel
theorem dX12_kindOn_5 : decode cX12_kindOn 5 = .ok (.iaload, 1) := by decide +kernel
theorem dX12_kindOn_6 : decode cX12_kindOn 6 = .ok (.ifCond .eq 19, 3) := by decide +kernel
theorem dX12_kindOn_9 : decode cX12_kindOn 9 = .ok (.aload_n 0, 1) := by decide +kernel
theorem dX12_kindOn_10 : decode cX12_kindOn 10 = .ok (.getfield 54, 3) := by decide +kernel
theorem dX12_kindOn_13 : decode cX12_kindOn 13 = .ok (.iload_n 1, 1) := by decide +kernel
theorem dX12_kindOn_14 : decode cX12_kindOn 14 = .ok (.iaload, 1) := by decide +kernel
theorem dX12_kindOn_15 : decode cX12_kindOn 15 = .ok (.ifCond .ge 7, 3) := by decide +kernel
theorem dX12_kindOn_18 : decode cX12_kindOn 18 = .ok (.iconst (-1), 1) := by decide +kernel
theorem dX12_kindOn_19 : decode cX12_kindOn 19 = .ok (.goto 5, 3) := by decide +kernel
theorem dX12_kindOn_22 : decode cX12_kindOn 22 = .ok (.bipush 9, 2) := by decide +kernel
theorem dX12_kindOn_24 : decode cX12_kindOn 24 = .ok (.ireturn, 1) := by decide +kernel
theorem dX12_kindOn_25 : decode cX12_kindOn 25 = .ok (.aload_n 0, 1) := by decide +kernel
theorem dX12_kindOn_26 : decode cX12_kindOn 26 = .ok (.aload_n 0, 1) := by decide +kernel
theorem dX12_kindOn_27 : decode cX12_kindOn 27 = .ok (.getfield 57, 3) := by decide +kernel
theorem dX12_kindOn_30 : decode cX12_kindOn 30 = .ok (.iload_n 1, 1) := by decide +kernel
theorem dX12_kindOn_31 : decode cX12_kindOn 31 = .ok (.iaload, 1) := by decide +kernel
theorem dX12_kindOn_32 : decode cX12_kindOn 32 = .ok (.invokevirtual 216, 3) := by decide +kernel
theorem dX12_kindOn_35 : decode cX12_kindOn 35 = .ok (.ifCond .eq 17, 3) := by decide +kernel
theorem dX12_kindOn_38 : decode cX12_kindOn 38 = .ok (.aload_n 0, 1) := by decide +kernel
theorem dX12_kindOn_39 : decode cX12_kindOn 39 = .ok (.aload_n 0, 1) := by decide +kernel
theorem dX12_kindOn_40 : decode cX12_kindOn 40 = .ok (.getfield 57, 3) := by decide +kernel
theorem dX12_kindOn_43 : decode cX12_kindOn 43 = .ok (.iload_n 1, 1) := by decide +kernel
theorem dX12_kindOn_44 : decode cX12_kindOn 44 = .ok (.iaload, 1) := by decide +kernel
theorem dX12_kindOn_45 : decode cX12_kindOn 45 = .ok (.iconst 0, 1) := by decide +kernel
theorem dX12_kindOn_46 : decode cX12_kindOn 46 = .ok (.invokevirtual 207, 3) := by decide +kernel
theorem dX12_kindOn_49 : decode cX12_kindOn 49 = .ok (.goto 4, 3) := by decide +kernel
theorem dX12_kindOn_52 : decode cX12_kindOn 52 = .ok (.iconst (-1), 1) := by decide +kernel
theorem dX12_kindOn_53 : decode cX12_kindOn 53 = .ok (.ireturn, 1) := by decide +kernel
theorem dX12_isUnder_0 : decode cX12_isUnder 0 = .ok (.iload_n 1, 1) := by decide +kernel
theorem dX12_isUnder_1 : decode cX12_isUnder 1 = .ok (.ifCond .eq 28, 3) := by decide +kernel
theorem dX12_isUnder_4 : decode cX12_isUnder 4 = .ok (.iload_n 1, 1) := by decide +kernel
theorem dX12_isUnder_5 : decode cX12_isUnder 5 = .ok (.iload_n 0, 1) := by decide +kernel
theorem dX12_isUnder_6 : decode cX12_isUnder 6 = .ok (.if_icmp .eq 23, 3) := by decide +kernel
theorem dX12_isUnder_9 : decode cX12_isUnder 9 = .ok (.iload_n 1, 1) := by decide +kernel
theorem dX12_isUnder_10 : decode cX12_isUnder 10 = .ok (.iconst 1, 1) := by decide +kernel
theorem dX12_isUnder_11 : decode cX12_isUnder 11 = .ok (.if_icmp .ne 8, 3) := by decide +kernel
theorem dX12_isUnder_14 : decode cX12_isUnder 14 = .ok (.iload_n 0, 1) := by decide +kernel
theorem dX12_isUnder_15 : decode cX12_isUnder 15 = .ok (.iconst 2, 1) := by decide +kernel
theorem dX12_isUnder_16 : decode cX12_isUnder 16 = .ok (.if_icmp .eq 13, 3) := by decide +kernel
theorem dX12_isUnder_19 : decode cX12_isUnder 19 = .ok (.iload_n 1, 1) := by decide +kernel
theorem dX12_isUnder_20 : decode cX12_isUnder 20 = .ok (.iconst 3, 1) := by decide +kernel
theorem dX12_isUnder_21 : decode cX12_isUnder 21 = .ok (.if_icmp .ne 12, 3) := by decide +kernel
theorem dX12_isUnder_24 : decode cX12_isUnder 24 = .ok (.iload_n 0, 1) := by decide +kernel
theorem dX12_isUnder_25 : decode cX12_isUnder 25 = .ok (.iconst 4, 1) := by decide +kernel
theorem dX12_isUnder_26 : decode cX12_isUnder 26 = .ok (.if_icmp .ne 7, 3) := by decide +kernel
theorem dX12_isUnder_29 : decode cX12_isUnder 29 = .ok (.iconst 1, 1) := by decide +kernel
theorem dX12_isUnder_30 : decode cX12_isUnder 30 = .ok (.goto 4, 3) := by decide +kernel
theorem dX12_isUnder_33 : decode cX12_isUnder 33 = .ok (.iconst 0, 1) := by decide +kernel
theorem dX12_isUnder_34 : decode cX12_isUnder 34 = .ok (.ireturn, 1) := by decide +kernel
set_option maxRecDepth 20000 in
theorem ggX12_taken_X12_isShelf : GoodIn wsX12_taken wsX12_isShelf := goodIn_r _ [6, 7, 8, 5, 9] (by decide +kernel) (by decide +kernel)
set_option maxRecDepth 20000 in
theorem gX12_taken_X12_isShelf : GoodIn wsX12_taken (va_wsS RX12 271 yX12_isShelf wsX12_isShelf) := goodIn_app (goodIn_of _ (by decide +kernel)) ggX12_taken_X12_isShelf
set_option maxRecDepth 20000 in
theorem ggX12_taken_X12_in : GoodIn wsX12_taken wsX12_in := goodIn_r _ [9] (by decide +kernel) (by decide +kernel)
set_option maxRecDepth 20000 in
theorem gX12_taken_X12_in : GoodIn wsX12_taken (va_wsS RX12 72 yX12_in wsX12_in) := goodIn_app (goodIn_of _ (by decide +kernel)) ggX12_taken_X12_in
set_option maxRecDepth 20000 in
theorem ggX12_taken_X12_kindOn : GoodIn wsX12_taken wsX12_kindOn := goodIn_r _ [13, 14, 1, 15, 16, 17, 5, 18, 19, 7, 8, 9, 20, 21, 22, 23, 24, 28, 29, 30, 31, 32, 33, 34, 35, 36, 37, 38, 39, 40, 41, 42, 43, 44, 45, 46, 47, 48, 49, 50, 51, 52, 53, 54, 55, 56, 57, 58, 59, 60, 61, 62, 63, 64, 65, 66] (by decide +kernel) (by decide +kernel)
set_option maxRecDepth 20000 in
theorem gX12_taken_X12_kindOn : GoodIn wsX12_taken (wsV RX12 282 RX12 yX12_kindOn wsX12_kindOn) := goodIn_app (goodIn_of _ (by decide +kernel)) ggX12_taken_X12_kindOn
set_option maxRecDepth 20000 in
theorem ggX12_taken_X12_isUnder : GoodIn wsX12_taken wsX12_isUnder := goodIn_r _ [27] (by decide +kernel) (by decide +kernel)
set_option maxRecDepth 20000 in
theorem gX12_taken_X12_isUnder : GoodIn wsX12_taken (va_wsS RX12 285 yX12_isUnder wsX12_isUnder) := goodIn_app (goodIn_of _ (by decide +kernel)) ggX12_taken_X12_isUnder
theorem dX12_taken_0 : decode cX12_taken 0 = .ok (.iload_n 1, 1) := by decide +kernel
theorem dX12_taken_1 : decode cX12_taken 1 = .ok (.invokestatic 271, 3) := by decide +kernel
theorem dX12_taken_4 : decode cX12_taken 4 = .ok (.ifCond .eq 23, 3) := by decide +kernel
theorem dX12_taken_7 : decode cX12_taken 7 = .ok (.iload_n 2, 1) := by decide +kernel
theorem dX12_taken_8 : decode cX12_taken 8 = .ok (.iconst 0, 1) := by decide +kernel
theorem dX12_taken_9 : decode cX12_taken 9 = .ok (.iconst 5, 1) := by decide +kernel
theorem dX12_taken_10 : decode cX12_taken 10 = .ok (.invokestatic 72, 3) := by decide +kernel
theorem dX12_taken_13 : decode cX12_taken 13 = .ok (.ifCond .ne 16, 3) := by decide +kernel
theorem dX12_taken_16 : decode cX12_taken 16 = .ok (.iload_n 2, 1) := by decide +kernel
theorem dX12_taken_17 : decode cX12_taken 17 = .ok (.bipush 10, 2) := by decide +kernel
theorem dX12_taken_19 : decode cX12_taken 19 = .ok (.bipush 13, 2) := by decide +kernel
theorem dX12_taken_21 : decode cX12_taken 21 = .ok (.invokestatic 72, 3) := by decide +kernel
theorem dX12_taken_24 : decode cX12_taken 24 = .ok (.ifCond .ne 5, 3) := by decide +kernel
theorem dX12_taken_27 : decode cX12_taken 27 = .ok (.iconst (-1), 1) := by decide +kernel
theorem dX12_taken_28 : decode cX12_taken 28 = .ok (.ireturn, 1) := by decide +kernel
theorem dX12_taken_29 : decode cX12_taken 29 = .ok (.aload_n 0, 1) := by decide +kernel
theorem dX12_taken_30 : decode cX12_taken 30 = .ok (.iload_n 1, 1) := by decide +kernel
theorem dX12_taken_31 : decode cX12_taken 31 = .ok (.invokevirtual 282, 3) := by decide +kernel
theorem dX12_taken_34 : decode cX12_taken 34 = .ok (.istore_n 3, 1) := by decide +kernel
theorem dX12_taken_35 : decode cX12_taken 35 = .ok (.iload_n 3, 1) := by decide +kernel
theorem dX12_taken_36 : decode cX12_taken 36 = .ok (.ifCond .ge 6, 3) := by decide +kernel
theorem dX12_taken_39 : decode cX12_taken 39 = .ok (.bipush (-11), 2) := by decide +kernel
theorem dX12_taken_41 : decode cX12_taken 41 = .ok (.ireturn, 1) := by decide +kernel
theorem dX12_taken_42 : decode cX12_taken 42 = .ok (.iload_n 3, 1) := by decide +kernel
theorem dX12_taken_43 : decode cX12_taken 43 = .ok (.bipush 9, 2) := by decide +kernel
theorem dX12_taken_45 : decode cX12_taken 45 = .ok (.if_icmp .ne 28, 3) := by decide +kernel
theorem dX12_taken_48 : decode cX12_taken 48 = .ok (.iload_n 2, 1) := by decide +kernel
theorem dX12_taken_49 : decode cX12_taken 49 = .ok (.bipush 10, 2) := by decide +kernel
theorem dX12_taken_51 : decode cX12_taken 51 = .ok (.aload_n 0, 1) := by decide +kernel
theorem dX12_taken_52 : decode cX12_taken 52 = .ok (.getfield 57, 3) := by decide +kernel
theorem dX12_taken_55 : decode cX12_taken 55 = .ok (.iload_n 1, 1) := by decide +kernel
theorem dX12_taken_56 : decode cX12_taken 56 = .ok (.iaload, 1) := by decide +kernel
theorem dX12_taken_57 : decode cX12_taken 57 = .ok (.iadd, 1) := by decide +kernel
theorem dX12_taken_58 : decode cX12_taken 58 = .ok (.if_icmp .ne 12, 3) := by decide +kernel
theorem dX12_taken_61 : decode cX12_taken 61 = .ok (.aload_n 0, 1) := by decide +kernel
theorem dX12_taken_62 : decode cX12_taken 62 = .ok (.getfield 60, 3) := by decide +kernel
theorem dX12_taken_65 : decode cX12_taken 65 = .ok (.iload_n 1, 1) := by decide +kernel
theorem dX12_taken_66 : decode cX12_taken 66 = .ok (.iaload, 1) := by decide +kernel
theorem dX12_taken_67 : decode cX12_taken 67 = .ok (.goto 5, 3) := by decide +kernel
theorem dX12_taken_70 : decode cX12_taken 70 = .ok (.bipush (-13), 2) := by decide +kernel
theorem dX12_taken_72 : decode cX12_taken 72 = .ok (.ireturn, 1) := by decide +kernel
theorem dX12_taken_73 : decode cX12_taken 73 = .ok (.iload_n 2, 1) := by decide +kernel
theorem dX12_taken_74 : decode cX12_taken 74 = .ok (.bipush 10, 2) := by decide +kernel
theorem dX12_taken_76 : decode cX12_taken 76 = .ok (.if_icmp .ge 20, 3) := by decide +kernel
theorem dX12_taken_79 : decode cX12_taken 79 = .ok (.iload_n 3, 1) := by decide +kernel
theorem dX12_taken_80 : decode cX12_taken 80 = .ok (.iload_n 2, 1) := by decide +kernel
theorem dX12_taken_81 : decode cX12_taken 81 = .ok (.invokestatic 285, 3) := by decide +kernel
theorem dX12_taken_84 : decode cX12_taken 84 = .ok (.ifCond .eq 12, 3) := by decide +kernel
theorem dX12_taken_87 : decode cX12_taken 87 = .ok (.aload_n 0, 1) := by decide +kernel
theorem dX12_taken_88 : decode cX12_taken 88 = .ok (.getfield 57, 3) := by decide +kernel
theorem dX12_taken_91 : decode cX12_taken 91 = .ok (.iload_n 1, 1) := by decide +kernel
theorem dX12_taken_92 : decode cX12_taken 92 = .ok (.iaload, 1) := by decide +kernel
theorem dX12_taken_93 : decode cX12_taken 93 = .ok (.goto 5, 3) := by decide +kernel
theorem dX12_taken_96 : decode cX12_taken 96 = .ok (.bipush (-13), 2) := by decide +kernel
theorem dX12_taken_98 : decode cX12_taken 98 = .ok (.ireturn, 1) := by decide +kernel
theorem dX12_ran_0 : decode cX12_ran 0 = .ok (.aload_n 0, 1) := by decide +kernel
theorem dX12_ran_1 : decode cX12_ran 1 = .ok (.getfield 288, 3) := by decide +kernel
theorem dX12_ran_4 : decode cX12_ran 4 = .ok (.bipush 30, 2) := by decide +kernel
theorem dX12_ran_6 : decode cX12_ran 6 = .ok (.if_icmp .ge 23, 3) := by decide +kernel
theorem dX12_ran_9 : decode cX12_ran 9 = .ok (.aload_n 0, 1) := by decide +kernel
theorem dX12_ran_10 : decode cX12_ran 10 = .ok (.getfield 63, 3) := by decide +kernel
theorem dX12_ran_13 : decode cX12_ran 13 = .ok (.aload_n 0, 1) := by decide +kernel
theorem dX12_ran_14 : decode cX12_ran 14 = .ok (.getfield 288, 3) := by decide +kernel
theorem dX12_ran_17 : decode cX12_ran 17 = .ok (.iload_n 1, 1) := by decide +kernel
theorem dX12_ran_18 : decode cX12_ran 18 = .ok (.iastore, 1) := by decide +kernel
theorem dX12_ran_19 : decode cX12_ran 19 = .ok (.aload_n 0, 1) := by decide +kernel
theorem dX12_ran_20 : decode cX12_ran 20 = .ok (.dup, 1) := by decide +kernel
theorem dX12_ran_21 : decode cX12_ran 21 = .ok (.getfield 288, 3) := by decide +kernel
theorem dX12_ran_24 : decode cX12_ran 24 = .ok (.iconst 1, 1) := by decide +kernel
theorem dX12_ran_25 : decode cX12_ran 25 = .ok (.iadd, 1) := by decide +kernel
theorem dX12_ran_26 : decode cX12_ran 26 = .ok (.putfield 288, 3) := by decide +kernel
theorem dX12_ran_29 : decode cX12_ran 29 = .ok (.return_, 1) := by decide +kernel
set_option maxRecDepth 20000 in
theorem ggX12_plainShows_X12_ran : GoodIn wsX12_plainShows wsX12_ran := goodIn_r _ [6, 7, 8, 9, 10, 11, 12, 13, 14, 15, 16, 17, 18, 19, 20, 21, 22, 23, 24, 25, 26, 27, 28, 29, 30, 31, 32, 33, 34, 35, 36, 37, 38, 39, 40, 41, 42, 43, 44, 45, 46, 47] (by decide +kernel) (by decide +kernel)
set_option maxRecDepth 20000 in
theorem gX12_plainShows_X12_ran : GoodIn wsX12_plainShows (wsV RX12 291 RX12 yX12_ran wsX12_ran) := goodIn_app (goodIn_of _ (by decide +kernel)) ggX12_plainShows_X12_ran
theorem dX12_plainShows_0 : decode cX12_plainShows 0 = .ok (.aload_n 0, 1) := by decide +kernel
theorem dX12_plainShows_1 : decode cX12_plainShows 1 = .ok (.bipush 10, 2) := by decide +kernel
theorem dX12_plainShows_3 : decode cX12_plainShows 3 = .ok (.invokevirtual 291, 3) := by decide +kernel
theorem dX12_plainShows_6 : decode cX12_plainShows 6 = .ok (.iload_n 1, 1) := by decide +kernel
theorem dX12_plainShows_7 : decode cX12_plainShows 7 = .ok (.aload_n 0, 1) := by decide +kernel
theorem dX12_plainShows_8 : decode cX12_plainShows 8 = .ok (.getfield 294, 3) := by decide +kernel
theorem dX12_plainShows_11 : decode cX12_plainShows 11 = .ok (.iadd, 1) := by decide +kernel
theorem dX12_plainShows_12 : decode cX12_plainShows 12 = .ok (.ireturn, 1) := by decide +kernel
set_option maxRecDepth 20000 in
theorem ggX12_darkShows_X12_ran : GoodIn wsX12_darkShows wsX12_ran := goodIn_r _ [5, 6, 7, 13, 14, 15, 16, 17, 18, 19, 20, 21, 22, 23, 24, 25, 26, 27, 28, 29, 30, 31, 32, 33, 34, 35, 36, 37, 38, 39, 40, 41, 42, 43, 44, 45, 46, 47, 48, 49, 50, 51] (by decide +kernel) (by decide +kernel)
set_option maxRecDepth 20000 in
theorem gX12_darkShows_X12_ran : GoodIn wsX12_darkShows (wsV RX12 291 RX12 yX12_ran wsX12_ran) := goodIn_app (goodIn_of _ (by decide +kernel)) ggX12_darkShows_X12_ran
set_option maxRecDepth 20000 in
theorem ggX12_darkShows_X12_plainShows : GoodIn wsX12_darkShows wsX12_plainShows := goodIn_r _ [11, 12, 1, 2, 3, 4, 5, 6, 7, 13, 14, 15, 16, 17, 18, 19, 20, 21, 22, 23, 24, 25, 26, 27, 28, 29, 30, 31, 32, 33, 34, 35, 36, 37, 38, 39, 40, 41, 42, 43, 44, 45, 46, 47, 48, 49, 50, 51] (by decide +kernel) (by decide +kernel)
set_option maxRecDepth 20000 in
theorem gX12_darkShows_X12_plainShows : GoodIn wsX12_darkShows (wsV RX12 297 RX12 yX12_plainShows wsX12_plainShows) := goodIn_app (goodIn_of _ (by decide +kernel)) ggX12_darkShows_X12_plainShows
theorem dX12_darkShows_0 : decode cX12_darkShows 0 = .ok (.aload_n 0, 1) := by decide +kernel
theorem dX12_darkShows_1 : decode cX12_darkShows 1 = .ok (.bipush 30, 2) := by decide +kernel
theorem dX12_darkShows_3 : decode cX12_darkShows 3 = .ok (.invokevirtual 291, 3) := by decide +kernel
theorem dX12_darkShows_6 : decode cX12_darkShows 6 = .ok (.aload_n 0, 1) := by decide +kernel
theorem dX12_darkShows_7 : decode cX12_darkShows 7 = .ok (.iload_n 1, 1) := by decide +kernel
theorem dX12_darkShows_8 : decode cX12_darkShows 8 = .ok (.invokevirtual 297, 3) := by decide +kernel
theorem dX12_darkShows_11 : decode cX12_darkShows 11 = .ok (.iconst 3, 1) := by decide +kernel
theorem dX12_darkShows_12 : decode cX12_darkShows 12 = .ok (.imul, 1) := by decide +kernel
theorem dX12_darkShows_13 : decode cX12_darkShows 13 = .ok (.ireturn, 1) := by decide +kernel
set_option maxRecDepth 20000 in
theorem ggX12_showsIt_X12_darkShows : GoodIn wsX12_showsIt wsX12_darkShows := goodIn_r _ [7, 8, 9, 10, 6, 11, 12, 13, 14, 15, 16, 17, 2, 18, 19, 20, 21, 22, 23, 24, 25, 26, 27, 28, 29, 30, 31, 32, 33, 34, 35, 36, 37, 38, 39, 40, 41, 42, 43, 44, 45, 46, 47, 48, 49, 50, 51, 52, 53, 54, 55, 56] (by decide +kernel) (by decide +kernel)
set_option maxRecDepth 20000 in
theorem gX12_showsIt_X12_darkShows : GoodIn wsX12_showsIt (wsV RX12 303 RX12 yX12_darkShows wsX12_darkShows) := goodIn_app (goodIn_of _ (by decide +kernel)) ggX12_showsIt_X12_darkShows
set_option maxRecDepth 20000 in
theorem ggX12_showsIt_X12_ran : GoodIn wsX12_showsIt wsX12_ran := goodIn_r _ [11, 12, 13, 18, 19, 20, 21, 22, 23, 24, 25, 26, 27, 28, 29, 30, 31, 32, 33, 34, 35, 36, 37, 38, 39, 40, 41, 42, 43, 44, 45, 46, 47, 48, 49, 50, 51, 52, 53, 54, 55, 56] (by decide +kernel) (by decide +kernel)
set_option maxRecDepth 20000 in
theorem gX12_showsIt_X12_ran : GoodIn wsX12_showsIt (wsV RX12 291 RX12 yX12_ran wsX12_ran) := goodIn_app (goodIn_of _ (by decide +kernel)) ggX12_showsIt_X12_ran
set_option maxRecDepth 20000 in
theorem ggX12_showsIt_X12_plainShows : GoodIn wsX12_showsIt wsX12_plainShows := goodIn_r _ [17, 2, 8, 9, 10, 6, 11, 12, 13, 18, 19, 20, 21, 22, 23, 24, 25, 26, 27, 28, 29, 30, 31, 32, 33, 34, 35, 36, 37, 38, 39, 40, 41, 42, 43, 44, 45, 46, 47, 48, 49, 50, 51, 52, 53, 54, 55, 56] (by decide +kernel) (by decide +kernel)
set_option maxRecDepth 20000 in
theorem gX12_showsIt_X12_plainShows : GoodIn wsX12_showsIt (wsV RX12 297 RX12 yX12_plainShows wsX12_plainShows) := goodIn_app (goodIn_of _ (by decide +kernel)) ggX12_showsIt_X12_plainShows
theorem dX12_showsIt_0 : decode cX12_showsIt 0 = .ok (.aload_n 0, 1) := by decide +kernel
theorem dX12_showsIt_1 : decode cX12_showsIt 1 = .ok (.getfield 300, 3) := by decide +kernel
theorem dX12_showsIt_4 : decode cX12_showsIt 4 = .ok (.tableswitch 65 2 4 #[48, 28, 34], 28) := by decide +kernel
theorem dX12_showsIt_32 : decode cX12_showsIt 32 = .ok (.aload_n 0, 1) := by decide +kernel
theorem dX12_showsIt_33 : decode cX12_showsIt 33 = .ok (.iload_n 1, 1) := by decide +kernel
theorem dX12_showsIt_34 : decode cX12_showsIt 34 = .ok (.invokevirtual 303, 3) := by decide +kernel
theorem dX12_showsIt_37 : decode cX12_showsIt 37 = .ok (.ireturn, 1) := by decide +kernel
theorem dX12_showsIt_38 : decode cX12_showsIt 38 = .ok (.aload_n 0, 1) := by decide +kernel
theorem dX12_showsIt_39 : decode cX12_showsIt 39 = .ok (.bipush 40, 2) := by decide +kernel
theorem dX12_showsIt_41 : decode cX12_showsIt 41 = .ok (.invokevirtual 291, 3) := by decide +kernel
theorem dX12_showsIt_44 : decode cX12_showsIt 44 = .ok (.iconst 0, 1) := by decide +kernel
theorem dX12_showsIt_45 : decode cX12_showsIt 45 = .ok (.aload_n 0, 1) := by decide +kernel
theorem dX12_showsIt_46 : decode cX12_showsIt 46 = .ok (.iload_n 1, 1) := by decide +kernel
theorem dX12_showsIt_47 : decode cX12_showsIt 47 = .ok (.invokevirtual 303, 3) := by decide +kernel
theorem dX12_showsIt_50 : decode cX12_showsIt 50 = .ok (.isub, 1) := by decide +kernel
theorem dX12_showsIt_51 : decode cX12_showsIt 51 = .ok (.ireturn, 1) := by decide +kernel
theorem dX12_showsIt_52 : decode cX12_showsIt 52 = .ok (.aload_n 0, 1) := by decide +kernel
theorem dX12_showsIt_53 : decode cX12_showsIt 53 = .ok (.bipush 51, 2) := by decide +kernel
theorem dX12_showsIt_55 : decode cX12_showsIt 55 = .ok (.invokevirtual 291, 3) := by decide +kernel
theorem dX12_showsIt_58 : decode cX12_showsIt 58 = .ok (.aload_n 0, 1) := by decide +kernel
theorem dX12_showsIt_59 : decode cX12_showsIt 59 = .ok (.iload_n 1, 1) := by decide +kernel
theorem dX12_showsIt_60 : decode cX12_showsIt 60 = .ok (.invokevirtual 297, 3) := by decide +kernel
theorem dX12_showsIt_63 : decode cX12_showsIt 63 = .ok (.aload_n 0, 1) := by decide +kernel
theorem dX12_showsIt_64 : decode cX12_showsIt 64 = .ok (.getfield 294, 3) := by decide +kernel
theorem dX12_showsIt_67 : decode cX12_showsIt 67 = .ok (.isub, 1) := by decide +kernel
theorem dX12_showsIt_68 : decode cX12_showsIt 68 = .ok (.ireturn, 1) := by decide +kernel
theorem dX12_showsIt_69 : decode cX12_showsIt 69 = .ok (.aload_n 0, 1) := by decide +kernel
theorem dX12_showsIt_70 : decode cX12_showsIt 70 = .ok (.iload_n 1, 1) := by decide +kernel
theorem dX12_showsIt_71 : decode cX12_showsIt 71 = .ok (.invokevirtual 297, 3) := by decide +kernel
theorem dX12_showsIt_74 : decode cX12_showsIt 74 = .ok (.ireturn, 1) := by decide +kernel
set_option maxRecDepth 20000 in
theorem ggX12_plainMoves_X12_ran : GoodIn wsX12_plainMoves wsX12_ran := goodIn_r _ [5, 6, 7, 22, 23, 24, 25, 26, 27, 28, 29, 30, 31, 32, 33, 34, 35, 36, 37, 38, 39, 40, 41, 42, 43, 44, 45, 46, 47, 48, 49, 50, 51, 52, 53, 54, 55, 56, 57, 58, 59, 60] (by decide +kernel) (by decide +kernel)
set_option maxRecDepth 20000 in
theorem gX12_plainMoves_X12_ran : GoodIn wsX12_plainMoves (wsV RX12 291 RX12 yX12_ran wsX12_ran) := goodIn_app (goodIn_of _ (by decide +kernel)) ggX12_plainMoves_X12_ran
set_option maxRecDepth 20000 in
theorem ggX12_plainMoves_X12_showsIt : GoodIn wsX12_plainMoves wsX12_showsIt := goodIn_r _ [11, 12, 13, 14, 15, 16, 4, 17, 1, 2, 3, 5, 6, 7, 18, 19, 20, 21, 22, 23, 24, 25, 26, 27, 28, 29, 30, 31, 32, 33, 34, 35, 36, 37, 38, 39, 40, 41, 42, 43, 44, 45, 46, 47, 48, 49, 50, 51, 52, 53, 54, 55, 56, 57, 58, 59, 60] (by decide +kernel) (by decide +kernel)
set_option maxRecDepth 20000 in
theorem gX12_plainMoves_X12_showsIt : GoodIn wsX12_plainMoves (wsV RX12 306 RX12 yX12_showsIt wsX12_showsIt) := goodIn_app (goodIn_of _ (by decide +kernel)) ggX12_plainMoves_X12_showsIt
theorem dX12_plainMoves_0 : decode cX12_plainMoves 0 = .ok (.aload_n 0, 1) := by decide +kernel
theorem dX12_plainMoves_1 : decode cX12_plainMoves 1 = .ok (.bipush 11, 2) := by decide +kernel
theorem dX12_plainMoves_3 : decode cX12_plainMoves 3 = .ok (.invokevirtual 291, 3) := by decide +kernel
theorem dX12_plainMoves_6 : decode cX12_plainMoves 6 = .ok (.aload_n 0, 1) := by decide +kernel
theorem dX12_plainMoves_7 : decode cX12_plainMoves 7 = .ok (.iload_n 1, 1) := by decide +kernel
theorem dX12_plainMoves_8 : decode cX12_plainMoves 8 = .ok (.invokevirtual 306, 3) := by decide +kernel
theorem dX12_plainMoves_11 : decode cX12_plainMoves 11 = .ok (.iconst 2, 1) := by decide +kernel
theorem dX12_plainMoves_12 : decode cX12_plainMoves 12 = .ok (.imul, 1) := by decide +kernel
theorem dX12_plainMoves_13 : decode cX12_plainMoves 13 = .ok (.ireturn, 1) := by decide +kernel
set_option maxRecDepth 20000 in
theorem ggX12_movesIt_X12_ran : GoodIn wsX12_movesIt wsX12_ran := goodIn_r _ [8, 9, 10, 27, 28, 29, 30, 31, 32, 33, 34, 35, 36, 37, 38, 39, 40, 41, 42, 43, 44, 45, 46, 47, 48, 49, 50, 51, 52, 53, 54, 55, 56, 57, 58, 59, 60, 61, 62, 63, 64, 65] (by decide +kernel) (by decide +kernel)
set_option maxRecDepth 20000 in
theorem gX12_movesIt_X12_ran : GoodIn wsX12_movesIt (wsV RX12 291 RX12 yX12_ran wsX12_ran) := goodIn_app (goodIn_of _ (by decide +kernel)) ggX12_movesIt_X12_ran
set_option maxRecDepth 20000 in
theorem ggX12_movesIt_X12_plainMoves : GoodIn wsX12_movesIt wsX12_plainMoves := goodIn_r _ [14, 4, 5, 6, 7, 8, 9, 10, 15, 16, 17, 18, 1, 3, 19, 20, 21, 22, 23, 24, 25, 26, 27, 28, 29, 30, 31, 32, 33, 34, 35, 36, 37, 38, 39, 40, 41, 42, 43, 44, 45, 46, 47, 48, 49, 50, 51, 52, 53, 54, 55, 56, 57, 58, 59, 60, 61, 62, 63, 64, 65] (by decide +kernel) (by decide +kernel)
set_option maxRecDepth 20000 in
theorem gX12_movesIt_X12_plainMoves : GoodIn wsX12_movesIt (wsV RX12 309 RX12 yX12_plainMoves wsX12_plainMoves) := goodIn_app (goodIn_of _ (by decide +kernel)) ggX12_movesIt_X12_plainMoves
set_option maxRecDepth 20000 in
theorem ggX12_movesIt_X12_showsIt : GoodIn wsX12_movesIt wsX12_showsIt := goodIn_r _ [18, 1, 3, 19, 20, 21, 7, 22, 4, 5, 6, 8, 9, 10, 23, 24, 25, 26, 27, 28, 29, 30, 31, 32, 33, 34, 35, 36, 37, 38, 39, 40, 41, 42, 43, 44, 45, 46, 47, 48, 49, 50, 51, 52, 53, 54, 55, 56, 57, 58, 59, 60, 61, 62, 63, 64, 65] (by decide +kernel) (by decide +kernel)
set_option maxRecDepth 20000 in
theorem gX12_movesIt_X12_showsIt : GoodIn wsX12_movesIt (wsV RX12 306 RX12 yX12_showsIt wsX12_showsIt) := goodIn_app (goodIn_of _ (by decide +kernel)) ggX12_movesIt_X12_showsIt
theorem dX12_movesIt_0 : decode cX12_movesIt 0 = .ok (.aload_n 0, 1) := by decide +kernel
theorem dX12_movesIt_1 : decode cX12_movesIt 1 = .ok (.getfield 300, 3) := by decide +kernel
theorem dX12_movesIt_4 : decode cX12_movesIt 4 = .ok (.iconst 1, 1) := by decide +kernel
theorem dX12_movesIt_5 : decode cX12_movesIt 5 = .ok (.if_icmp .eq 11, 3) := by decide +kernel
theorem dX12_movesIt_8 : decode cX12_movesIt 8 = .ok (.aload_n 0, 1) := by decide +kernel
theorem dX12_movesIt_9 : decode cX12_movesIt 9 = .ok (.getfield 300, 3) := by decide +kernel
theorem dX12_movesIt_12 : decode cX12_movesIt 12 = .ok (.iconst 2, 1) := by decide +kernel
theorem dX12_movesIt_13 : decode cX12_movesIt 13 = .ok (.if_icmp .ne 20, 3) := by decide +kernel
theorem dX12_movesIt_16 : decode cX12_movesIt 16 = .ok (.aload_n 0, 1) := by decide +kernel
theorem dX12_movesIt_17 : decode cX12_movesIt 17 = .ok (.bipush 20, 2) := by decide +kernel
theorem dX12_movesIt_19 : decode cX12_movesIt 19 = .ok (.invokevirtual 291, 3) := by decide +kernel
theorem dX12_movesIt_22 : decode cX12_movesIt 22 = .ok (.aload_n 0, 1) := by decide +kernel
theorem dX12_movesIt_23 : decode cX12_movesIt 23 = .ok (.iload_n 1, 1) := by decide +kernel
theorem dX12_movesIt_24 : decode cX12_movesIt 24 = .ok (.invokevirtual 309, 3) := by decide +kernel
theorem dX12_movesIt_27 : decode cX12_movesIt 27 = .ok (.aload_n 0, 1) := by decide +kernel
theorem dX12_movesIt_28 : decode cX12_movesIt 28 = .ok (.getfield 312, 3) := by decide +kernel
theorem dX12_movesIt_31 : decode cX12_movesIt 31 = .ok (.isub, 1) := by decide +kernel
theorem dX12_movesIt_32 : decode cX12_movesIt 32 = .ok (.ireturn, 1) := by decide +kernel
theorem dX12_movesIt_33 : decode cX12_movesIt 33 = .ok (.aload_n 0, 1) := by decide +kernel
theorem dX12_movesIt_34 : decode cX12_movesIt 34 = .ok (.getfield 300, 3) := by decide +kernel
theorem dX12_movesIt_37 : decode cX12_movesIt 37 = .ok (.iconst 4, 1) := by decide +kernel
theorem dX12_movesIt_38 : decode cX12_movesIt 38 = .ok (.if_icmp .ne 26, 3) := by decide +kernel
theorem dX12_movesIt_41 : decode cX12_movesIt 41 = .ok (.aload_n 0, 1) := by decide +kernel
theorem dX12_movesIt_42 : decode cX12_movesIt 42 = .ok (.bipush 41, 2) := by decide +kernel
theorem dX12_movesIt_44 : decode cX12_movesIt 44 = .ok (.invokevirtual 291, 3) := by decide +kernel
theorem dX12_movesIt_47 : decode cX12_movesIt 47 = .ok (.aload_n 0, 1) := by decide +kernel
theorem dX12_movesIt_48 : decode cX12_movesIt 48 = .ok (.iload_n 1, 1) := by decide +kernel
theorem dX12_movesIt_49 : decode cX12_movesIt 49 = .ok (.invokevirtual 309, 3) := by decide +kernel
theorem dX12_movesIt_52 : decode cX12_movesIt 52 = .ok (.istore_n 2, 1) := by decide +kernel
theorem dX12_movesIt_53 : decode cX12_movesIt 53 = .ok (.iload_n 2, 1) := by decide +kernel
theorem dX12_movesIt_54 : decode cX12_movesIt 54 = .ok (.aload_n 0, 1) := by decide +kernel
theorem dX12_movesIt_55 : decode cX12_movesIt 55 = .ok (.aload_n 0, 1) := by decide +kernel
theorem dX12_movesIt_56 : decode cX12_movesIt 56 = .ok (.getfield 294, 3) := by decide +kernel
theorem dX12_movesIt_59 : decode cX12_movesIt 59 = .ok (.invokevirtual 306, 3) := by decide +kernel
theorem dX12_movesIt_62 : decode cX12_movesIt 62 = .ok (.iadd, 1) := by decide +kernel
theorem dX12_movesIt_63 : decode cX12_movesIt 63 = .ok (.ireturn, 1) := by decide +kernel
theorem dX12_movesIt_64 : decode cX12_movesIt 64 = .ok (.aload_n 0, 1) := by decide +kernel
theorem dX12_movesIt_65 : decode cX12_movesIt 65 = .ok (.iload_n 1, 1) := by decide +kernel
theorem dX12_movesIt_66 : decode cX12_movesIt 66 = .ok (.invokevirtual 309, 3) := by decide +kernel
theorem dX12_movesIt_69 : decode cX12_movesIt 69 = .ok (.ireturn, 1) := by decide +kernel
set_option maxRecDepth 20000 in
theorem ggX12_plainShares_X12_ran : GoodIn wsX12_plainShares wsX12_ran := goodIn_r _ [8, 9, 10, 11, 12, 13, 14, 15, 16, 17, 18, 19, 20, 21, 22, 23, 24, 25, 26, 27, 28, 29, 30, 31, 32, 33, 34, 35, 36, 37, 38, 39, 40, 41, 42, 43, 44, 45, 46, 47, 48, 49] (by decide +kernel) (by decide +kernel)
set_option maxRecDepth 20000 in
theorem gX12_plainShares_X12_ran : GoodIn wsX12_plainShares (wsV RX12 291 RX12 yX12_ran wsX12_ran) := goodIn_app (goodIn_of _ (by decide +kernel)) ggX12_plainShares_X12_ran
theorem dX12_plainShares_0 : decode cX12_plainShares 0 = .ok (.aload_n 0, 1) := by decide +kernel
theorem dX12_plainShares_1 : decode cX12_plainShares 1 = .ok (.bipush 12, 2) := by decide +kernel
theorem dX12_plainShares_3 : decode cX12_plainShares 3 = .ok (.invokevirtual 291, 3) := by decide +kernel
theorem dX12_plainShares_6 : decode cX12_plainShares 6 = .ok (.aload_n 0, 1) := by decide +kernel
theorem dX12_plainShares_7 : decode cX12_plainShares 7 = .ok (.getfield 312, 3) := by decide +kernel
theorem dX12_plainShares_10 : decode cX12_plainShares 10 = .ok (.aload_n 0, 1) := by decide +kernel
theorem dX12_plainShares_11 : decode cX12_plainShares 11 = .ok (.getfield 294, 3) := by decide +kernel
theorem dX12_plainShares_14 : decode cX12_plainShares 14 = .ok (.if_icmp .ne 10, 3) := by decide +kernel
theorem dX12_plainShares_17 : decode cX12_plainShares 17 = .ok (.aload_n 0, 1) := by decide +kernel
theorem dX12_plainShares_18 : decode cX12_plainShares 18 = .ok (.iconst 1, 1) := by decide +kernel
theorem dX12_plainShares_19 : decode cX12_plainShares 19 = .ok (.putfield 315, 3) := by decide +kernel
theorem dX12_plainShares_22 : decode cX12_plainShares 22 = .ok (.iconst 0, 1) := by decide +kernel
theorem dX12_plainShares_23 : decode cX12_plainShares 23 = .ok (.ireturn, 1) := by decide +kernel
theorem dX12_plainShares_24 : decode cX12_plainShares 24 = .ok (.iload_n 1, 1) := by decide +kernel
theorem dX12_plainShares_25 : decode cX12_plainShares 25 = .ok (.aload_n 0, 1) := by decide +kernel
theorem dX12_plainShares_26 : decode cX12_plainShares 26 = .ok (.getfield 312, 3) := by decide +kernel
theorem dX12_plainShares_29 : decode cX12_plainShares 29 = .ok (.aload_n 0, 1) := by decide +kernel
theorem dX12_plainShares_30 : decode cX12_plainShares 30 = .ok (.getfield 294, 3) := by decide +kernel
theorem dX12_plainShares_33 : decode cX12_plainShares 33 = .ok (.isub, 1) := by decide +kernel
theorem dX12_plainShares_34 : decode cX12_plainShares 34 = .ok (.idiv, 1) := by decide +kernel
theorem dX12_plainShares_35 : decode cX12_plainShares 35 = .ok (.ireturn, 1) := by decide +kernel
set_option maxRecDepth 20000 in
theorem ggX12_sharesIt_X12_ran : GoodIn wsX12_sharesIt wsX12_ran := goodIn_r _ [8, 9, 10, 28, 29, 30, 31, 32, 33, 34, 35, 36, 37, 38, 39, 40, 41, 42, 43, 44, 45, 46, 47, 48, 49, 50, 51, 52, 53, 54, 55, 56, 57, 58, 59, 60, 61, 62, 63, 64, 65, 66] (by decide +kernel) (by decide +kernel)
set_option maxRecDepth 20000 in
theorem gX12_sharesIt_X12_ran : GoodIn wsX12_sharesIt (wsV RX12 291 RX12 yX12_ran wsX12_ran) := goodIn_app (goodIn_of _ (by decide +kernel)) ggX12_sharesIt_X12_ran
set_option maxRecDepth 20000 in
theorem ggX12_sharesIt_X12_plainShares : GoodIn wsX12_sharesIt wsX12_plainShares := goodIn_r _ [14, 3, 15, 2, 4, 5, 6, 7, 8, 9, 10, 28, 29, 30, 31, 32, 33, 34, 35, 36, 37, 38, 39, 40, 41, 42, 43, 44, 45, 46, 47, 48, 49, 50, 51, 52, 53, 54, 55, 56, 57, 58, 59, 60, 61, 62, 63, 64, 65, 66] (by decide +kernel) (by decide +kernel)
set_option maxRecDepth 20000 in
theorem gX12_sharesIt_X12_plainShares : GoodIn wsX12_sharesIt (wsV RX12 318 RX12 yX12_plainShares wsX12_plainShares) := goodIn_app (goodIn_of _ (by decide +kernel)) ggX12_sharesIt_X12_plainShares
set_option maxRecDepth 20000 in
theorem ggX12_sharesIt_X12_showsIt : GoodIn wsX12_sharesIt wsX12_showsIt := goodIn_r _ [19, 1, 15, 20, 21, 22, 7, 23, 4, 5, 6, 8, 9, 10, 24, 25, 26, 27, 28, 29, 30, 31, 32, 33, 34, 35, 36, 37, 38, 39, 40, 41, 42, 43, 44, 45, 46, 47, 48, 49, 50, 51, 52, 53, 54, 55, 56, 57, 58, 59, 60, 61, 62, 63, 64, 65, 66] (by decide +kernel) (by decide +kernel)
set_option maxRecDepth 20000 in
theorem gX12_sharesIt_X12_showsIt : GoodIn wsX12_sharesIt (wsV RX12 306 RX12 yX12_showsIt wsX12_showsIt) := goodIn_app (goodIn_of _ (by decide +kernel)) ggX12_sharesIt_X12_showsIt
theorem dX12_sharesIt_0 : decode cX12_sharesIt 0 = .ok (.aload_n 0, 1) := by decide +kernel
theorem dX12_sharesIt_1 : decode cX12_sharesIt 1 = .ok (.getfield 300, 3) := by decide +kernel
theorem dX12_sharesIt_4 : decode cX12_sharesIt 4 = .ok (.iconst 2, 1) := by decide +kernel
theorem dX12_sharesIt_5 : decode cX12_sharesIt 5 = .ok (.if_icmp .ne 19, 3) := by decide +kernel
theorem dX12_sharesIt_8 : decode cX12_sharesIt 8 = .ok (.aload_n 0, 1) := by decide +kernel
theorem dX12_sharesIt_9 : decode cX12_sharesIt 9 = .ok (.bipush 50, 2) := by decide +kernel
theorem dX12_sharesIt_11 : decode cX12_sharesIt 11 = .ok (.invokevirtual 291, 3) := by decide +kernel
theorem dX12_sharesIt_14 : decode cX12_sharesIt 14 = .ok (.aload_n 0, 1) := by decide +kernel
theorem dX12_sharesIt_15 : decode cX12_sharesIt 15 = .ok (.iload_n 1, 1) := by decide +kernel
theorem dX12_sharesIt_16 : decode cX12_sharesIt 16 = .ok (.iconst 2, 1) := by decide +kernel
theorem dX12_sharesIt_17 : decode cX12_sharesIt 17 = .ok (.iadd, 1) := by decide +kernel
theorem dX12_sharesIt_18 : decode cX12_sharesIt 18 = .ok (.invokevirtual 318, 3) := by decide +kernel
theorem dX12_sharesIt_21 : decode cX12_sharesIt 21 = .ok (.iconst 1, 1) := by decide +kernel
theorem dX12_sharesIt_22 : decode cX12_sharesIt 22 = .ok (.ixor, 1) := by decide +kernel
theorem dX12_sharesIt_23 : decode cX12_sharesIt 23 = .ok (.ireturn, 1) := by decide +kernel
theorem dX12_sharesIt_24 : decode cX12_sharesIt 24 = .ok (.aload_n 0, 1) := by decide +kernel
theorem dX12_sharesIt_25 : decode cX12_sharesIt 25 = .ok (.getfield 300, 3) := by decide +kernel
theorem dX12_sharesIt_28 : decode cX12_sharesIt 28 = .ok (.iconst 5, 1) := by decide +kernel
theorem dX12_sharesIt_29 : decode cX12_sharesIt 29 = .ok (.if_icmp .ne 37, 3) := by decide +kernel
theorem dX12_sharesIt_32 : decode cX12_sharesIt 32 = .ok (.aload_n 0, 1) := by decide +kernel
theorem dX12_sharesIt_33 : decode cX12_sharesIt 33 = .ok (.bipush 61, 2) := by decide +kernel
theorem dX12_sharesIt_35 : decode cX12_sharesIt 35 = .ok (.invokevirtual 291, 3) := by decide +kernel
theorem dX12_sharesIt_38 : decode cX12_sharesIt 38 = .ok (.aload_n 0, 1) := by decide +kernel
theorem dX12_sharesIt_39 : decode cX12_sharesIt 39 = .ok (.iload_n 1, 1) := by decide +kernel
theorem dX12_sharesIt_40 : decode cX12_sharesIt 40 = .ok (.invokevirtual 318, 3) := by decide +kernel
theorem dX12_sharesIt_43 : decode cX12_sharesIt 43 = .ok (.istore_n 2, 1) := by decide +kernel
theorem dX12_sharesIt_44 : decode cX12_sharesIt 44 = .ok (.aload_n 0, 1) := by decide +kernel
theorem dX12_sharesIt_45 : decode cX12_sharesIt 45 = .ok (.getfield 315, 3) := by decide +kernel
theorem dX12_sharesIt_48 : decode cX12_sharesIt 48 = .ok (.ifCond .eq 7, 3) := by decide +kernel
theorem dX12_sharesIt_51 : decode cX12_sharesIt 51 = .ok (.iconst 0, 1) := by decide +kernel
theorem dX12_sharesIt_52 : decode cX12_sharesIt 52 = .ok (.goto 13, 3) := by decide +kernel
theorem dX12_sharesIt_55 : decode cX12_sharesIt 55 = .ok (.iload_n 2, 1) := by decide +kernel
theorem dX12_sharesIt_56 : decode cX12_sharesIt 56 = .ok (.aload_n 0, 1) := by decide +kernel
theorem dX12_sharesIt_57 : decode cX12_sharesIt 57 = .ok (.aload_n 0, 1) := by decide +kernel
theorem dX12_sharesIt_58 : decode cX12_sharesIt 58 = .ok (.getfield 312, 3) := by decide +kernel
theorem dX12_sharesIt_61 : decode cX12_sharesIt 61 = .ok (.invokevirtual 306, 3) := by decide +kernel
theorem dX12_sharesIt_64 : decode cX12_sharesIt 64 = .ok (.iadd, 1) := by decide +kernel
theorem dX12_sharesIt_65 : decode cX12_sharesIt 65 = .ok (.ireturn, 1) := by decide +kernel
theorem dX12_sharesIt_66 : decode cX12_sharesIt 66 = .ok (.aload_n 0, 1) := by decide +kernel
theorem dX12_sharesIt_67 : decode cX12_sharesIt 67 = .ok (.iload_n 1, 1) := by decide +kernel
theorem dX12_sharesIt_68 : decode cX12_sharesIt 68 = .ok (.invokevirtual 318, 3) := by decide +kernel
theorem dX12_sharesIt_71 : decode cX12_sharesIt 71 = .ok (.ireturn, 1) := by decide +kernel
set_option maxRecDepth 20000 in
theorem ggX12_plainTells_X12_ran : GoodIn wsX12_plainTells wsX12_ran := goodIn_r _ [6, 7, 8, 31, 32, 33, 34, 35, 36, 37, 38, 39, 40, 41, 42, 43, 44, 45, 46, 47, 48, 49, 50, 51, 52, 53, 54, 55, 56, 57, 58, 59, 60, 61, 62, 63, 64, 65, 66, 67, 68, 69] (by decide +kernel) (by decide +kernel)
set_option maxRecDepth 20000 in
theorem gX12_plainTells_X12_ran : GoodIn wsX12_plainTells (wsV RX12 291 RX12 yX12_ran wsX12_ran) := goodIn_app (goodIn_of _ (by decide +kernel)) ggX12_plainTells_X12_ran
set_option maxRecDepth 20000 in
theorem ggX12_plainTells_X12_movesIt : GoodIn wsX12_plainTells wsX12_movesIt := goodIn_r _ [12, 13, 1, 14, 2, 3, 4, 5, 6, 7, 8, 15, 16, 17, 18, 19, 20, 21, 22, 23, 24, 25, 26, 27, 28, 29, 30, 31, 32, 33, 34, 35, 36, 37, 38, 39, 40, 41, 42, 43, 44, 45, 46, 47, 48, 49, 50, 51, 52, 53, 54, 55, 56, 57, 58, 59, 60, 61, 62, 63, 64, 65, 66, 67, 68, 69] (by decide +kernel) (by decide +kernel)
set_option maxRecDepth 20000 in
theorem gX12_plainTells_X12_movesIt : GoodIn wsX12_plainTells (wsV RX12 321 RX12 yX12_movesIt wsX12_movesIt) := goodIn_app (goodIn_of _ (by decide +kernel)) ggX12_plainTells_X12_movesIt
theorem dX12_plainTells_0 : decode cX12_plainTells 0 = .ok (.aload_n 0, 1) := by decide +kernel
theorem dX12_plainTells_1 : decode cX12_plainTells 1 = .ok (.bipush 13, 2) := by decide +kernel
theorem dX12_plainTells_3 : decode cX12_plainTells 3 = .ok (.invokevirtual 291, 3) := by decide +kernel
theorem dX12_plainTells_6 : decode cX12_plainTells 6 = .ok (.aload_n 0, 1) := by decide +kernel
theorem dX12_plainTells_7 : decode cX12_plainTells 7 = .ok (.iload_n 1, 1) := by decide +kernel
theorem dX12_plainTells_8 : decode cX12_plainTells 8 = .ok (.invokevirtual 321, 3) := by decide +kernel
theorem dX12_plainTells_11 : decode cX12_plainTells 11 = .ok (.aload_n 0, 1) := by decide +kernel
theorem dX12_plainTells_12 : decode cX12_plainTells 12 = .ok (.getfield 312, 3) := by decide +kernel
theorem dX12_plainTells_15 : decode cX12_plainTells 15 = .ok (.ixor, 1) := by decide +kernel
theorem dX12_plainTells_16 : decode cX12_plainTells 16 = .ok (.ireturn, 1) := by decide +kernel
set_option maxRecDepth 20000 in
theorem ggX12_tellsIt_X12_ran : GoodIn wsX12_tellsIt wsX12_ran := goodIn_r _ [7, 8, 9, 44, 45, 46, 47, 48, 49, 50, 51, 52, 53, 54, 55, 56, 57, 58, 59, 60, 61, 62, 63, 64, 65, 66, 67, 68, 69, 70, 71, 72, 73, 74, 75, 76, 77, 78, 79, 80, 81, 82] (by decide +kernel) (by decide +kernel)
set_option maxRecDepth 20000 in
theorem gX12_tellsIt_X12_ran : GoodIn wsX12_tellsIt (wsV RX12 291 RX12 yX12_ran wsX12_ran) := goodIn_app (goodIn_of _ (by decide +kernel)) ggX12_tellsIt_X12_ran
set_option maxRecDepth 20000 in
theorem ggX12_tellsIt_X12_plainTells : GoodIn wsX12_tellsIt wsX12_plainTells := goodIn_r _ [13, 14, 3, 4, 5, 6, 7, 8, 9, 15, 16, 17, 18, 1, 2, 19, 20, 21, 22, 23, 24, 25, 26, 27, 28, 29, 30, 31, 32, 33, 34, 44, 45, 46, 47, 48, 49, 50, 51, 52, 53, 54, 55, 56, 57, 58, 59, 60, 61, 62, 63, 64, 65, 66, 67, 68, 69, 70, 71, 72, 73, 74, 75, 76, 77, 78, 79, 80, 81, 82] (by decide +kernel) (by decide +kernel)
set_option maxRecDepth 20000 in
theorem gX12_tellsIt_X12_plainTells : GoodIn wsX12_tellsIt (wsV RX12 324 RX12 yX12_plainTells wsX12_plainTells) := goodIn_app (goodIn_of _ (by decide +kernel)) ggX12_tellsIt_X12_plainTells
set_option maxRecDepth 20000 in
theorem ggX12_tellsIt_X12_sharesIt : GoodIn wsX12_tellsIt wsX12_sharesIt := goodIn_r _ [38, 1, 39, 14, 3, 4, 5, 6, 7, 8, 9, 40, 41, 42, 43, 2, 23, 24, 25, 26, 27, 28, 29, 30, 31, 32, 33, 34, 44, 45, 46, 47, 48, 49, 50, 51, 52, 53, 54, 55, 56, 57, 58, 59, 60, 61, 62, 63, 64, 65, 66, 67, 68, 69, 70, 71, 72, 73, 74, 75, 76, 77, 78, 79, 80, 81, 82] (by decide +kernel) (by decide +kernel)
set_option maxRecDepth 20000 in
theorem gX12_tellsIt_X12_sharesIt : GoodIn wsX12_tellsIt (wsV RX12 327 RX12 yX12_sharesIt wsX12_sharesIt) := goodIn_app (goodIn_of _ (by decide +kernel)) ggX12_tellsIt_X12_sharesIt
theorem dX12_tellsIt_0 : decode cX12_tellsIt 0 = .ok (.aload_n 0, 1) := by decide +kernel
theorem dX12_tellsIt_1 : decode cX12_tellsIt 1 = .ok (.getfield 300, 3) := by decide +kernel
theorem dX12_tellsIt_4 : decode cX12_tellsIt 4 = .ok (.iconst 3, 1) := by decide +kernel
theorem dX12_tellsIt_5 : decode cX12_tellsIt 5 = .ok (.if_icmp .eq 11, 3) := by decide +kernel
theorem dX12_tellsIt_8 : decode cX12_tellsIt 8 = .ok (.aload_n 0, 1) := by decide +kernel
theorem dX12_tellsIt_9 : decode cX12_tellsIt 9 = .ok (.getfield 300, 3) := by decide +kernel
theorem dX12_tellsIt_12 : decode cX12_tellsIt 12 = .ok (.iconst 4, 1) := by decide +kernel
theorem dX12_tellsIt_13 : decode cX12_tellsIt 13 = .ok (.if_icmp .ne 26, 3) := by decide +kernel
theorem dX12_tellsIt_16 : decode cX12_tellsIt 16 = .ok (.aload_n 0, 1) := by decide +kernel
theorem dX12_tellsIt_17 : decode cX12_tellsIt 17 = .ok (.bipush 31, 2) := by decide +kernel
theorem dX12_tellsIt_19 : decode cX12_tellsIt 19 = .ok (.invokevirtual 291, 3) := by decide +kernel
theorem dX12_tellsIt_22 : decode cX12_tellsIt 22 = .ok (.aload_n 0, 1) := by decide +kernel
theorem dX12_tellsIt_23 : decode cX12_tellsIt 23 = .ok (.iload_n 1, 1) := by decide +kernel
theorem dX12_tellsIt_24 : decode cX12_tellsIt 24 = .ok (.invokevirtual 324, 3) := by decide +kernel
theorem dX12_tellsIt_27 : decode cX12_tellsIt 27 = .ok (.istore_n 2, 1) := by decide +kernel
theorem dX12_tellsIt_28 : decode cX12_tellsIt 28 = .ok (.iload_n 2, 1) := by decide +kernel
theorem dX12_tellsIt_29 : decode cX12_tellsIt 29 = .ok (.aload_n 0, 1) := by decide +kernel
theorem dX12_tellsIt_30 : decode cX12_tellsIt 30 = .ok (.aload_n 0, 1) := by decide +kernel
theorem dX12_tellsIt_31 : decode cX12_tellsIt 31 = .ok (.getfield 294, 3) := by decide +kernel
theorem dX12_tellsIt_34 : decode cX12_tellsIt 34 = .ok (.invokevirtual 327, 3) := by decide +kernel
theorem dX12_tellsIt_37 : decode cX12_tellsIt 37 = .ok (.iadd, 1) := by decide +kernel
theorem dX12_tellsIt_38 : decode cX12_tellsIt 38 = .ok (.ireturn, 1) := by decide +kernel
theorem dX12_tellsIt_39 : decode cX12_tellsIt 39 = .ok (.aload_n 0, 1) := by decide +kernel
theorem dX12_tellsIt_40 : decode cX12_tellsIt 40 = .ok (.getfield 300, 3) := by decide +kernel
theorem dX12_tellsIt_43 : decode cX12_tellsIt 43 = .ok (.iconst 5, 1) := by decide +kernel
theorem dX12_tellsIt_44 : decode cX12_tellsIt 44 = .ok (.if_icmp .ne 17, 3) := by decide +kernel
theorem dX12_tellsIt_47 : decode cX12_tellsIt 47 = .ok (.aload_n 0, 1) := by decide +kernel
theorem dX12_tellsIt_48 : decode cX12_tellsIt 48 = .ok (.bipush 60, 2) := by decide +kernel
theorem dX12_tellsIt_50 : decode cX12_tellsIt 50 = .ok (.invokevirtual 291, 3) := by decide +kernel
theorem dX12_tellsIt_53 : decode cX12_tellsIt 53 = .ok (.aload_n 0, 1) := by decide +kernel
theorem dX12_tellsIt_54 : decode cX12_tellsIt 54 = .ok (.iload_n 1, 1) := by decide +kernel
theorem dX12_tellsIt_55 : decode cX12_tellsIt 55 = .ok (.invokevirtual 324, 3) := by decide +kernel
theorem dX12_tellsIt_58 : decode cX12_tellsIt 58 = .ok (.iconst 2, 1) := by decide +kernel
theorem dX12_tellsIt_59 : decode cX12_tellsIt 59 = .ok (.imul, 1) := by decide +kernel
theorem dX12_tellsIt_60 : decode cX12_tellsIt 60 = .ok (.ireturn, 1) := by decide +kernel
theorem dX12_tellsIt_61 : decode cX12_tellsIt 61 = .ok (.aload_n 0, 1) := by decide +kernel
theorem dX12_tellsIt_62 : decode cX12_tellsIt 62 = .ok (.iload_n 1, 1) := by decide +kernel
theorem dX12_tellsIt_63 : decode cX12_tellsIt 63 = .ok (.invokevirtual 324, 3) := by decide +kernel
theorem dX12_tellsIt_66 : decode cX12_tellsIt 66 = .ok (.ireturn, 1) := by decide +kernel
set_option maxRecDepth 20000 in
theorem ggX12_act_X12_isShelf : GoodIn wsX12_act wsX12_isShelf := goodIn_r _ [10, 11, 12, 9, 13] (by decide +kernel) (by decide +kernel)
set_option maxRecDepth 20000 in
theorem gX12_act_X12_isShelf : GoodIn wsX12_act (va_wsS RX12 271 yX12_isShelf wsX12_isShelf) := goodIn_app (goodIn_of _ (by decide +kernel)) ggX12_act_X12_isShelf
set_option maxRecDepth 20000 in
theorem ggX12_act_X12_kindOn : GoodIn wsX12_act wsX12_kindOn := goodIn_r _ [17, 18, 3, 19, 20, 21, 9, 22, 23, 11, 12, 13, 24, 25, 26, 27, 28, 70, 71, 72, 73, 74, 75, 76, 77, 78, 79, 80, 81, 82, 83, 84, 85, 86, 87, 88, 89, 90, 91, 92, 93, 94, 95, 96, 97, 98, 99, 100, 101, 102, 103, 104, 105, 106, 107, 108] (by decide +kernel) (by decide +kernel)
set_option maxRecDepth 20000 in
theorem gX12_act_X12_kindOn : GoodIn wsX12_act (wsV RX12 282 RX12 yX12_kindOn wsX12_kindOn) := goodIn_app (goodIn_of _ (by decide +kernel)) ggX12_act_X12_kindOn
set_option maxRecDepth 20000 in
theorem ggX12_act_X12_in : GoodIn wsX12_act wsX12_in := goodIn_r _ [13] (by decide +kernel) (by decide +kernel)
set_option maxRecDepth 20000 in
theorem gX12_act_X12_in : GoodIn wsX12_act (va_wsS RX12 72 yX12_in wsX12_in) := goodIn_app (goodIn_of _ (by decide +kernel)) ggX12_act_X12_in
set_option maxRecDepth 20000 in
theorem ggX12_act_X12_its : GoodIn wsX12_act wsX12_its := goodIn_r _ [27, 23, 28, 70, 71, 72, 73, 74, 75, 76, 77, 78, 79, 80, 81, 82, 83, 84, 85, 86, 87, 88, 89, 90, 91, 92, 93, 94, 95, 96, 97, 98, 99, 100, 101, 102, 103, 104, 105, 106, 107, 108] (by decide +kernel) (by decide +kernel)
set_option maxRecDepth 20000 in
theorem gX12_act_X12_its : GoodIn wsX12_act (wsV RX12 207 RX12 yX12_its wsX12_its) := goodIn_app (goodIn_of _ (by decide +kernel)) ggX12_act_X12_its
set_option maxRecDepth 20000 in
theorem ggX12_act_X12_showsIt : GoodIn wsX12_act wsX12_showsIt := goodIn_r _ [32, 2, 4, 33, 34, 35, 9, 36, 37, 38, 39, 40, 1, 41, 42, 43, 44, 45, 70, 71, 72, 73, 74, 75, 76, 77, 78, 79, 80, 81, 82, 83, 84, 85, 86, 87, 88, 89, 90, 91, 92, 93, 94, 95, 96, 97, 98, 99, 100, 101, 102, 103, 104, 105, 106, 107, 108] (by decide +kernel) (by decide +kernel)
set_option maxRecDepth 20000 in
theorem gX12_act_X12_showsIt : GoodIn wsX12_act (wsV RX12 306 RX12 yX12_showsIt wsX12_showsIt) := goodIn_app (goodIn_of _ (by decide +kernel)) ggX12_act_X12_showsIt
set_option maxRecDepth 20000 in
theorem ggX12_act_X12_movesIt : GoodIn wsX12_act wsX12_movesIt := goodIn_r _ [49, 2, 5, 4, 37, 38, 39, 9, 40, 1, 41, 50, 51, 52, 53, 29, 30, 31, 32, 33, 34, 35, 36, 42, 43, 44, 45, 70, 71, 72, 73, 74, 75, 76, 77, 78, 79, 80, 81, 82, 83, 84, 85, 86, 87, 88, 89, 90, 91, 92, 93, 94, 95, 96, 97, 98, 99, 100, 101, 102, 103, 104, 105, 106, 107, 108] (by decide +kernel) (by decide +kernel)
set_option maxRecDepth 20000 in
theorem gX12_act_X12_movesIt : GoodIn wsX12_act (wsV RX12 321 RX12 yX12_movesIt wsX12_movesIt) := goodIn_app (goodIn_of _ (by decide +kernel)) ggX12_act_X12_movesIt
set_option maxRecDepth 20000 in
theorem ggX12_act_X12_sharesIt : GoodIn wsX12_act wsX12_sharesIt := goodIn_r _ [57, 2, 6, 5, 37, 38, 39, 9, 40, 1, 41, 58, 59, 60, 61, 4, 29, 30, 31, 32, 33, 34, 35, 36, 42, 43, 44, 45, 70, 71, 72, 73, 74, 75, 76, 77, 78, 79, 80, 81, 82, 83, 84, 85, 86, 87, 88, 89, 90, 91, 92, 93, 94, 95, 96, 97, 98, 99, 100, 101, 102, 103, 104, 105, 106, 107, 108] (by decide +kernel) (by decide +kernel)
set_option maxRecDepth 20000 in
theorem gX12_act_X12_sharesIt : GoodIn wsX12_act (wsV RX12 327 RX12 yX12_sharesIt wsX12_sharesIt) := goodIn_app (goodIn_of _ (by decide +kernel)) ggX12_act_X12_sharesIt
set_option maxRecDepth 20000 in
theorem ggX12_act_X12_tellsIt : GoodIn wsX12_act wsX12_tellsIt := goodIn_r _ [65, 2, 4, 37, 38, 39, 9, 40, 1, 41, 66, 67, 68, 69, 5, 46, 47, 48, 49, 50, 51, 52, 53, 29, 30, 31, 32, 33, 34, 35, 36, 42, 43, 44, 45, 54, 55, 56, 57, 6, 58, 59, 60, 61, 70, 71, 72, 73, 74, 75, 76, 77, 78, 79, 80, 81, 82, 83, 84, 85, 86, 87, 88, 89, 90, 91, 92, 93, 94, 95, 96, 97, 98, 99, 100, 101, 102, 103, 104, 105, 106, 107, 108] (by decide +kernel) (by decide +kernel)
set_option maxRecDepth 20000 in
theorem gX12_act_X12_tellsIt : GoodIn wsX12_act (wsV RX12 330 RX12 yX12_tellsIt wsX12_tellsIt) := goodIn_app (goodIn_of _ (by decide +kernel)) ggX12_act_X12_tellsIt
theorem dX12_act_0 : decode cX12_act 0 = .ok (.aload_n 0, 1) := by decide +kernel
theorem dX12_act_1 : decode cX12_act 1 = .ok (.iconst 0, 1) := by decide +kernel
theorem dX12_act_2 : decode cX12_act 2 = .ok (.putfield 288, 3) := by decide +kernel
theorem dX12_act_5 : decode cX12_act 5 = .ok (.iload_n 1, 1) := by decide +kernel
theorem dX12_act_6 : decode cX12_act 6 = .ok (.invokestatic 271, 3) := by decide +kernel
theorem dX12_act_9 : decode cX12_act 9 = .ok (.ifCond .eq 11, 3) := by decide +kernel
theorem dX12_act_12 : decode cX12_act 12 = .ok (.aload_n 0, 1) := by decide +kernel
theorem dX12_act_13 : decode cX12_act 13 = .ok (.iload_n 1, 1) := by decide +kernel
theorem dX12_act_14 : decode cX12_act 14 = .ok (.invokevirtual 282, 3) := by decide +kernel
theorem dX12_act_17 : decode cX12_act 17 = .ok (.goto 4, 3) := by decide +kernel
theorem dX12_act_20 : decode cX12_act 20 = .ok (.iconst (-1), 1) := by decide +kernel
theorem dX12_act_21 : decode cX12_act 21 = .ok (.istore 4, 2) := by decide +kernel
theorem dX12_act_23 : decode cX12_act 23 = .ok (.iload_n 2, 1) := by decide +kernel
theorem dX12_act_24 : decode cX12_act 24 = .ok (.iconst 0, 1) := by decide +kernel
theorem dX12_act_25 : decode cX12_act 25 = .ok (.iconst 3, 1) := by decide +kernel
theorem dX12_act_26 : decode cX12_act 26 = .ok (.invokestatic 72, 3) := by decide +kernel
theorem dX12_act_29 : decode cX12_act 29 = .ok (.ifCond .eq 13, 3) := by decide +kernel
theorem dX12_act_32 : decode cX12_act 32 = .ok (.iload 4, 2) := by decide +kernel
theorem dX12_act_34 : decode cX12_act 34 = .ok (.iconst 0, 1) := by decide +kernel
theorem dX12_act_35 : decode cX12_act 35 = .ok (.iconst 5, 1) := by decide +kernel
theorem dX12_act_36 : decode cX12_act 36 = .ok (.invokestatic 72, 3) := by decide +kernel
theorem dX12_act_39 : decode cX12_act 39 = .ok (.ifCond .ne 5, 3) := by decide +kernel
theorem dX12_act_42 : decode cX12_act 42 = .ok (.iconst 0, 1) := by decide +kernel
theorem dX12_act_43 : decode cX12_act 43 = .ok (.ireturn, 1) := by decide +kernel
theorem dX12_act_44 : decode cX12_act 44 = .ok (.aload_n 0, 1) := by decide +kernel
theorem dX12_act_45 : decode cX12_act 45 = .ok (.iload 4, 2) := by decide +kernel
theorem dX12_act_47 : decode cX12_act 47 = .ok (.putfield 300, 3) := by decide +kernel
theorem dX12_act_50 : decode cX12_act 50 = .ok (.aload_n 0, 1) := by decide +kernel
theorem dX12_act_51 : decode cX12_act 51 = .ok (.aload_n 0, 1) := by decide +kernel
theorem dX12_act_52 : decode cX12_act 52 = .ok (.getfield 57, 3) := by decide +kernel
theorem dX12_act_55 : decode cX12_act 55 = .ok (.iload_n 1, 1) := by decide +kernel
theorem dX12_act_56 : decode cX12_act 56 = .ok (.iaload, 1) := by decide +kernel
theorem dX12_act_57 : decode cX12_act 57 = .ok (.putfield 294, 3) := by decide +kernel
theorem dX12_act_60 : decode cX12_act 60 = .ok (.aload_n 0, 1) := by decide +kernel
theorem dX12_act_61 : decode cX12_act 61 = .ok (.aload_n 0, 1) := by decide +kernel
theorem dX12_act_62 : decode cX12_act 62 = .ok (.aload_n 0, 1) := by decide +kernel
theorem dX12_act_63 : decode cX12_act 63 = .ok (.getfield 294, 3) := by decide +kernel
theorem dX12_act_66 : decode cX12_act 66 = .ok (.iconst 1, 1) := by decide +kernel
theorem dX12_act_67 : decode cX12_act 67 = .ok (.invokevirtual 207, 3) := by decide +kernel
theorem dX12_act_70 : decode cX12_act 70 = .ok (.putfield 312, 3) := by decide +kernel
theorem dX12_act_73 : decode cX12_act 73 = .ok (.aload_n 0, 1) := by decide +kernel
theorem dX12_act_74 : decode cX12_act 74 = .ok (.iconst 0, 1) := by decide +kernel
theorem dX12_act_75 : decode cX12_act 75 = .ok (.putfield 315, 3) := by decide +kernel
theorem dX12_act_78 : decode cX12_act 78 = .ok (.iload_n 2, 1) := by decide +kernel
theorem dX12_act_79 : decode cX12_act 79 = .ok (.ifCond .ne 11, 3) := by decide +kernel
theorem dX12_act_82 : decode cX12_act 82 = .ok (.aload_n 0, 1) := by decide +kernel
theorem dX12_act_83 : decode cX12_act 83 = .ok (.iload_n 3, 1) := by decide +kernel
theorem dX12_act_84 : decode cX12_act 84 = .ok (.invokevirtual 306, 3) := by decide +kernel
theorem dX12_act_87 : decode cX12_act 87 = .ok (.goto 34, 3) := by decide +kernel
theorem dX12_act_90 : decode cX12_act 90 = .ok (.iload_n 2, 1) := by decide +kernel
theorem dX12_act_91 : decode cX12_act 91 = .ok (.iconst 1, 1) := by decide +kernel
theorem dX12_act_92 : decode cX12_act 92 = .ok (.if_icmp .ne 11, 3) := by decide +kernel
theorem dX12_act_95 : decode cX12_act 95 = .ok (.aload_n 0, 1) := by decide +kernel
theorem dX12_act_96 : decode cX12_act 96 = .ok (.iload_n 3, 1) := by decide +kernel
theorem dX12_act_97 : decode cX12_act 97 = .ok (.invokevirtual 321, 3) := by decide +kernel
theorem dX12_act_100 : decode cX12_act 100 = .ok (.goto 21, 3) := by decide +kernel
theorem dX12_act_103 : decode cX12_act 103 = .ok (.iload_n 2, 1) := by decide +kernel
theorem dX12_act_104 : decode cX12_act 104 = .ok (.iconst 2, 1) := by decide +kernel
theorem dX12_act_105 : decode cX12_act 105 = .ok (.if_icmp .ne 11, 3) := by decide +kernel
theorem dX12_act_108 : decode cX12_act 108 = .ok (.aload_n 0, 1) := by decide +kernel
theorem dX12_act_109 : decode cX12_act 109 = .ok (.iload_n 3, 1) := by decide +kernel
theorem dX12_act_110 : decode cX12_act 110 = .ok (.invokevirtual 327, 3) := by decide +kernel
theorem dX12_act_113 : decode cX12_act 113 = .ok (.goto 8, 3) := by decide +kernel
theorem dX12_act_116 : decode cX12_act 116 = .ok (.aload_n 0, 1) := by decide +kernel
theorem dX12_act_117 : decode cX12_act 117 = .ok (.iload_n 3, 1) := by decide +kernel
theorem dX12_act_118 : decode cX12_act 118 = .ok (.invokevirtual 330, 3) := by decide +kernel
theorem dX12_act_121 : decode cX12_act 121 = .ok (.istore 5, 2) := by decide +kernel
theorem dX12_act_123 : decode cX12_act 123 = .ok (.aload_n 0, 1) := by decide +kernel
theorem dX12_act_124 : decode cX12_act 124 = .ok (.getfield 315, 3) := by decide +kernel
theorem dX12_act_127 : decode cX12_act 127 = .ok (.ifCond .eq 8, 3) := by decide +kernel
theorem dX12_act_130 : decode cX12_act 130 = .ok (.bipush (-15), 2) := by decide +kernel
theorem dX12_act_132 : decode cX12_act 132 = .ok (.goto 5, 3) := by decide +kernel
theorem dX12_act_135 : decode cX12_act 135 = .ok (.iload 5, 2) := by decide +kernel
theorem dX12_act_137 : decode cX12_act 137 = .ok (.ireturn, 1) := by decide +kernel
set_option maxRecDepth 20000 in
theorem ggX12_trace_X12_in : GoodIn wsX12_trace wsX12_in := goodIn_r _ [6] (by decide +kernel) (by decide +kernel)
set_option maxRecDepth 20000 in
theorem gX12_trace_X12_in : GoodIn wsX12_trace (va_wsS RX12 72 yX12_in wsX12_in) := goodIn_app (goodIn_of _ (by decide +kernel)) ggX12_trace_X12_in
theorem dX12_trace_0 : decode cX12_trace 0 = .ok (.iload_n 1, 1) := by decide +kernel
theorem dX12_trace_1 : decode cX12_trace 1 = .ok (.iconst 0, 1) := by decide +kernel
theorem dX12_trace_2 : decode cX12_trace 2 = .ok (.aload_n 0, 1) := by decide +kernel
theorem dX12_trace_3 : decode cX12_trace 3 = .ok (.getfield 288, 3) := by decide +kernel
theorem dX12_trace_6 : decode cX12_trace 6 = .ok (.iconst 1, 1) := by decide +kernel
theorem dX12_trace_7 : decode cX12_trace 7 = .ok (.isub, 1) := by decide +kernel
theorem dX12_trace_8 : decode cX12_trace 8 = .ok (.invokestatic 72, 3) := by decide +kernel
theorem dX12_trace_11 : decode cX12_trace 11 = .ok (.ifCond .eq 12, 3) := by decide +kernel
theorem dX12_trace_14 : decode cX12_trace 14 = .ok (.aload_n 0, 1) := by decide +kernel
theorem dX12_trace_15 : decode cX12_trace 15 = .ok (.getfield 63, 3) := by decide +kernel
theorem dX12_trace_18 : decode cX12_trace 18 = .ok (.iload_n 1, 1) := by decide +kernel
theorem dX12_trace_19 : decode cX12_trace 19 = .ok (.iaload, 1) := by decide +kernel
theorem dX12_trace_20 : decode cX12_trace 20 = .ok (.goto 5, 3) := by decide +kernel
theorem dX12_trace_23 : decode cX12_trace 23 = .ok (.bipush (-3), 2) := by decide +kernel
theorem dX12_trace_25 : decode cX12_trace 25 = .ok (.ireturn, 1) := by decide +kernel
set_option maxRecDepth 20000 in
theorem ggX12_many_X12_its : GoodIn wsX12_many wsX12_its := goodIn_r _ [9, 1, 10, 11, 12, 13, 14, 15, 16, 17, 18, 19, 20, 21, 22, 23, 24, 25, 26, 27, 28, 29, 30, 31, 32, 33, 34, 35, 36, 37, 38, 39, 40, 41, 42, 43, 44, 45, 46, 47, 48, 49] (by decide +kernel) (by decide +kernel)
set_option maxRecDepth 20000 in
theorem gX12_many_X12_its : GoodIn wsX12_many (wsV RX12 207 RX12 yX12_its wsX12_its) := goodIn_app (goodIn_of _ (by decide +kernel)) ggX12_many_X12_its
theorem dX12_many_0 : decode cX12_many 0 = .ok (.iconst 0, 1) := by decide +kernel
theorem dX12_many_1 : decode cX12_many 1 = .ok (.istore_n 2, 1) := by decide +kernel
theorem dX12_many_2 : decode cX12_many 2 = .ok (.iload_n 1, 1) := by decide +kernel
theorem dX12_many_3 : decode cX12_many 3 = .ok (.tableswitch 115 0 4 #[33, 40, 100, 105, 110], 33) := by decide +kernel
theorem dX12_many_36 : decode cX12_many 36 = .ok (.aload_n 0, 1) := by decide +kernel
theorem dX12_many_37 : decode cX12_many 37 = .ok (.getfield 16, 3) := by decide +kernel
theorem dX12_many_40 : decode cX12_many 40 = .ok (.iconst 1, 1) := by decide +kernel
theorem dX12_many_41 : decode cX12_many 41 = .ok (.iaload, 1) := by decide +kernel
theorem dX12_many_42 : decode cX12_many 42 = .ok (.ireturn, 1) := by decide +kernel
theorem dX12_many_43 : decode cX12_many 43 = .ok (.iconst 0, 1) := by decide +kernel
theorem dX12_many_44 : decode cX12_many 44 = .ok (.istore_n 3, 1) := by decide +kernel
theorem dX12_many_45 : decode cX12_many 45 = .ok (.iload_n 3, 1) := by decide +kernel
theorem dX12_many_46 : decode cX12_many 46 = .ok (.aload_n 0, 1) := by decide +kernel
theorem dX12_many_47 : decode cX12_many 47 = .ok (.getfield 16, 3) := by decide +kernel
theorem dX12_many_50 : decode cX12_many 50 = .ok (.iconst 1, 1) := by decide +kernel
theorem dX12_many_51 : decode cX12_many 51 = .ok (.iaload, 1) := by decide +kernel
theorem dX12_many_52 : decode cX12_many 52 = .ok (.if_icmp .ge 49, 3) := by decide +kernel
theorem dX12_many_55 : decode cX12_many 55 = .ok (.iconst 0, 1) := by decide +kernel
theorem dX12_many_56 : decode cX12_many 56 = .ok (.istore 4, 2) := by decide +kernel
theorem dX12_many_58 : decode cX12_many 58 = .ok (.iload 4, 2) := by decide +kernel
theorem dX12_many_60 : decode cX12_many 60 = .ok (.aload_n 0, 1) := by decide +kernel
theorem dX12_many_61 : decode cX12_many 61 = .ok (.iload_n 3, 1) := by decide +kernel
theorem dX12_many_62 : decode cX12_many 62 = .ok (.iconst 1, 1) := by decide +kernel
theorem dX12_many_63 : decode cX12_many 63 = .ok (.invokevirtual 207, 3) := by decide +kernel
theorem dX12_many_66 : decode cX12_many 66 = .ok (.if_icmp .ge 29, 3) := by decide +kernel
theorem dX12_many_69 : decode cX12_many 69 = .ok (.iload_n 2, 1) := by decide +kernel
theorem dX12_many_70 : decode cX12_many 70 = .ok (.aload_n 0, 1) := by decide +kernel
theorem dX12_many_71 : decode cX12_many 71 = .ok (.iload_n 3, 1) := by decide +kernel
theorem dX12_many_72 : decode cX12_many 72 = .ok (.iconst 3, 1) := by decide +kernel
theorem dX12_many_73 : decode cX12_many 73 = .ok (.iload 4, 2) := by decide +kernel
theorem dX12_many_75 : decode cX12_many 75 = .ok (.iadd, 1) := by decide +kernel
theorem dX12_many_76 : decode cX12_many 76 = .ok (.invokevirtual 207, 3) := by decide +kernel
theorem dX12_many_79 : decode cX12_many 79 = .ok (.ifCond .ge 7, 3) := by decide +kernel
theorem dX12_many_82 : decode cX12_many 82 = .ok (.iconst 0, 1) := by decide +kernel
theorem dX12_many_83 : decode cX12_many 83 = .ok (.goto 4, 3) := by decide +kernel
theorem dX12_many_86 : decode cX12_many 86 = .ok (.iconst 1, 1) := by decide +kernel
theorem dX12_many_87 : decode cX12_many 87 = .ok (.iadd, 1) := by decide +kernel
theorem dX12_many_88 : decode cX12_many 88 = .ok (.istore_n 2, 1) := by decide +kernel
theorem dX12_many_89 : decode cX12_many 89 = .ok (.iinc 4 1, 3) := by decide +kernel
theorem dX12_many_92 : decode cX12_many 92 = .ok (.goto (-34), 3) := by decide +kernel
theorem dX12_many_95 : decode cX12_many 95 = .ok (.iinc 3 1, 3) := by decide +kernel
theorem dX12_many_98 : decode cX12_many 98 = .ok (.goto (-53), 3) := by decide +kernel
theorem dX12_many_101 : decode cX12_many 101 = .ok (.iload_n 2, 1) := by decide +kernel
theorem dX12_many_102 : decode cX12_many 102 = .ok (.ireturn, 1) := by decide +kernel
theorem dX12_many_103 : decode cX12_many 103 = .ok (.aload_n 0, 1) := by decide +kernel
theorem dX12_many_104 : decode cX12_many 104 = .ok (.getfield 191, 3) := by decide +kernel
theorem dX12_many_107 : decode cX12_many 107 = .ok (.ireturn, 1) := by decide +kernel
theorem dX12_many_108 : decode cX12_many 108 = .ok (.aload_n 0, 1) := by decide +kernel
theorem dX12_many_109 : decode cX12_many 109 = .ok (.getfield 79, 3) := by decide +kernel
theorem dX12_many_112 : decode cX12_many 112 = .ok (.ireturn, 1) := by decide +kernel
theorem dX12_many_113 : decode cX12_many 113 = .ok (.aload_n 0, 1) := by decide +kernel
theorem dX12_many_114 : decode cX12_many 114 = .ok (.getfield 288, 3) := by decide +kernel
theorem dX12_many_117 : decode cX12_many 117 = .ok (.ireturn, 1) := by decide +kernel
theorem dX12_many_118 : decode cX12_many 118 = .ok (.iconst (-1), 1) := by decide +kernel
theorem dX12_many_119 : decode cX12_many 119 = .ok (.ireturn, 1) := by decide +kernel
theorem dX12_moveRow_0 : decode cX12_moveRow 0 = .ok (.iconst 0, 1) := by decide +kernel
theorem dX12_moveRow_1 : decode cX12_moveRow 1 = .ok (.istore 4, 2) := by decide +kernel
theorem dX12_moveRow_3 : decode cX12_moveRow 3 = .ok (.iload 4, 2) := by decide +kernel
theorem dX12_moveRow_5 : decode cX12_moveRow 5 = .ok (.iload_n 2, 1) := by decide +kernel
theorem dX12_moveRow_6 : decode cX12_moveRow 6 = .ok (.if_icmp .ge 52, 3) := by decide +kernel
theorem dX12_moveRow_9 : decode cX12_moveRow 9 = .ok (.iload_n 3, 1) := by decide +kernel
theorem dX12_moveRow_10 : decode cX12_moveRow 10 = .ok (.ifCond .eq 19, 3) := by decide +kernel
theorem dX12_moveRow_13 : decode cX12_moveRow 13 = .ok (.aload_n 0, 1) := by decide +kernel
theorem dX12_moveRow_14 : decode cX12_moveRow 14 = .ok (.getfield 66, 3) := by decide +kernel
theorem dX12_moveRow_17 : decode cX12_moveRow 17 = .ok (.aload_n 0, 1) := by decide +kernel
theorem dX12_moveRow_18 : decode cX12_moveRow 18 = .ok (.getfield 333, 3) := by decide +kernel
theorem dX12_moveRow_21 : decode cX12_moveRow 21 = .ok (.aload_n 1, 1) := by decide +kernel
theorem dX12_moveRow_22 : decode cX12_moveRow 22 = .ok (.iload 4, 2) := by decide +kernel
theorem dX12_moveRow_24 : decode cX12_moveRow 24 = .ok (.iaload, 1) := by decide +kernel
theorem dX12_moveRow_25 : decode cX12_moveRow 25 = .ok (.iastore, 1) := by decide +kernel
theorem dX12_moveRow_26 : decode cX12_moveRow 26 = .ok (.goto 16, 3) := by decide +kernel
theorem dX12_moveRow_29 : decode cX12_moveRow 29 = .ok (.aload_n 1, 1) := by decide +kernel
theorem dX12_moveRow_30 : decode cX12_moveRow 30 = .ok (.iload 4, 2) := by decide +kernel
theorem dX12_moveRow_32 : decode cX12_moveRow 32 = .ok (.aload_n 0, 1) := by decide +kernel
theorem dX12_moveRow_33 : decode cX12_moveRow 33 = .ok (.getfield 66, 3) := by decide +kernel
theorem dX12_moveRow_36 : decode cX12_moveRow 36 = .ok (.aload_n 0, 1) := by decide +kernel
theorem dX12_moveRow_37 : decode cX12_moveRow 37 = .ok (.getfield 333, 3) := by decide +kernel
theorem dX12_moveRow_40 : decode cX12_moveRow 40 = .ok (.iaload, 1) := by decide +kernel
theorem dX12_moveRow_41 : decode cX12_moveRow 41 = .ok (.iastore, 1) := by decide +kernel
theorem dX12_moveRow_42 : decode cX12_moveRow 42 = .ok (.aload_n 0, 1) := by decide +kernel
theorem dX12_moveRow_43 : decode cX12_moveRow 43 = .ok (.dup, 1) := by decide +kernel
theorem dX12_moveRow_44 : decode cX12_moveRow 44 = .ok (.getfield 333, 3) := by decide +kernel
theorem dX12_moveRow_47 : decode cX12_moveRow 47 = .ok (.iconst 1, 1) := by decide +kernel
theorem dX12_moveRow_48 : decode cX12_moveRow 48 = .ok (.iadd, 1) := by decide +kernel
theorem dX12_moveRow_49 : decode cX12_moveRow 49 = .ok (.putfield 333, 3) := by decide +kernel
theorem dX12_moveRow_52 : decode cX12_moveRow 52 = .ok (.iinc 4 1, 3) := by decide +kernel
theorem dX12_moveRow_55 : decode cX12_moveRow 55 = .ok (.goto (-52), 3) := by decide +kernel
theorem dX12_moveRow_58 : decode cX12_moveRow 58 = .ok (.return_, 1) := by decide +kernel
set_option maxRecDepth 20000 in
theorem ggX12_moveAll_X12_moveRow : GoodIn wsX12_moveAll wsX12_moveRow := goodIn_r _ [11, 12, 1, 13, 14, 15, 16, 17, 18, 19, 20, 21, 22, 23, 24, 25, 26, 27, 28, 29, 30, 31, 32, 33, 34, 35, 36, 37, 38, 39, 40, 41, 42, 43, 44, 45, 46, 47, 48, 49, 50, 51] (by decide +kernel) (by decide +kernel)
set_option maxRecDepth 20000 in
theorem gX12_moveAll_X12_moveRow : GoodIn wsX12_moveAll (wsV RX12 336 RX12 yX12_moveRow wsX12_moveRow) := goodIn_app (goodIn_of _ (by decide +kernel)) ggX12_moveAll_X12_moveRow
theorem dX12_moveAll_0 : decode cX12_moveAll 0 = .ok (.aload_n 0, 1) := by decide +kernel
theorem dX12_moveAll_1 : decode cX12_moveAll 1 = .ok (.iconst 0, 1) := by decide +kernel
theorem dX12_moveAll_2 : decode cX12_moveAll 2 = .ok (.putfield 333, 3) := by decide +kernel
theorem dX12_moveAll_5 : decode cX12_moveAll 5 = .ok (.aload_n 0, 1) := by decide +kernel
theorem dX12_moveAll_6 : decode cX12_moveAll 6 = .ok (.getfield 69, 3) := by decide +kernel
theorem dX12_moveAll_9 : decode cX12_moveAll 9 = .ok (.iconst 0, 1) := by decide +kernel
theorem dX12_moveAll_10 : decode cX12_moveAll 10 = .ok (.aload_n 0, 1) := by decide +kernel
theorem dX12_moveAll_11 : decode cX12_moveAll 11 = .ok (.getfield 19, 3) := by decide +kernel
theorem dX12_moveAll_14 : decode cX12_moveAll 14 = .ok (.iastore, 1) := by decide +kernel
theorem dX12_moveAll_15 : decode cX12_moveAll 15 = .ok (.aload_n 0, 1) := by decide +kernel
theorem dX12_moveAll_16 : decode cX12_moveAll 16 = .ok (.aload_n 0, 1) := by decide +kernel
theorem dX12_moveAll_17 : decode cX12_moveAll 17 = .ok (.getfield 69, 3) := by decide +kernel
theorem dX12_moveAll_20 : decode cX12_moveAll 20 = .ok (.iconst 1, 1) := by decide +kernel
theorem dX12_moveAll_21 : decode cX12_moveAll 21 = .ok (.iload_n 1, 1) := by decide +kernel
theorem dX12_moveAll_22 : decode cX12_moveAll 22 = .ok (.invokevirtual 336, 3) := by decide +kernel
theorem dX12_moveAll_25 : decode cX12_moveAll 25 = .ok (.aload_n 0, 1) := by decide +kernel
theorem dX12_moveAll_26 : decode cX12_moveAll 26 = .ok (.aload_n 0, 1) := by decide +kernel
theorem dX12_moveAll_27 : decode cX12_moveAll 27 = .ok (.getfield 7, 3) := by decide +kernel
theorem dX12_moveAll_30 : decode cX12_moveAll 30 = .ok (.sipush 200, 3) := by decide +kernel
theorem dX12_moveAll_33 : decode cX12_moveAll 33 = .ok (.iload_n 1, 1) := by decide +kernel
theorem dX12_moveAll_34 : decode cX12_moveAll 34 = .ok (.invokevirtual 336, 3) := by decide +kernel
theorem dX12_moveAll_37 : decode cX12_moveAll 37 = .ok (.aload_n 0, 1) := by decide +kernel
theorem dX12_moveAll_38 : decode cX12_moveAll 38 = .ok (.aload_n 0, 1) := by decide +kernel
theorem dX12_moveAll_39 : decode cX12_moveAll 39 = .ok (.getfield 13, 3) := by decide +kernel
theorem dX12_moveAll_42 : decode cX12_moveAll 42 = .ok (.bipush 12, 2) := by decide +kernel
theorem dX12_moveAll_44 : decode cX12_moveAll 44 = .ok (.iload_n 1, 1) := by decide +kernel
theorem dX12_moveAll_45 : decode cX12_moveAll 45 = .ok (.invokevirtual 336, 3) := by decide +kernel
theorem dX12_moveAll_48 : decode cX12_moveAll 48 = .ok (.aload_n 0, 1) := by decide +kernel
theorem dX12_moveAll_49 : decode cX12_moveAll 49 = .ok (.aload_n 0, 1) := by decide +kernel
theorem dX12_moveAll_50 : decode cX12_moveAll 50 = .ok (.getfield 16, 3) := by decide +kernel
theorem dX12_moveAll_53 : decode cX12_moveAll 53 = .ok (.bipush 116, 2) := by decide +kernel
theorem dX12_moveAll_55 : decode cX12_moveAll 55 = .ok (.iload_n 1, 1) := by decide +kernel
theorem dX12_moveAll_56 : decode cX12_moveAll 56 = .ok (.invokevirtual 336, 3) := by decide +kernel
theorem dX12_moveAll_59 : decode cX12_moveAll 59 = .ok (.return_, 1) := by decide +kernel
set_option maxRecDepth 20000 in
theorem ggX12_keep_X12_moveAll : GoodIn wsX12_keep wsX12_moveAll := goodIn_r _ [6, 7, 8, 9, 10, 11, 12, 13, 14, 15, 5, 16, 17, 18, 19, 20, 21, 22, 23, 24, 25, 26, 27, 28, 29, 30, 31, 32, 33, 34, 35, 36, 37, 38, 39, 40, 41, 42, 43, 44, 45, 46, 47, 48, 49, 50, 51, 52, 53, 54, 55, 56] (by decide +kernel) (by decide +kernel)
set_option maxRecDepth 20000 in
theorem gX12_keep_X12_moveAll : GoodIn wsX12_keep (wsV RX12 340 RX12 yX12_moveAll wsX12_moveAll) := goodIn_app (goodIn_of _ (by decide +kernel)) ggX12_keep_X12_moveAll
theorem dX12_keep_0 : decode cX12_keep 0 = .ok (.aload_n 0, 1) := by decide +kernel
theorem dX12_keep_1 : decode cX12_keep 1 = .ok (.iconst 1, 1) := by decide +kernel
theorem dX12_keep_2 : decode cX12_keep 2 = .ok (.invokevirtual 340, 3) := by decide +kernel
theorem dX12_keep_5 : decode cX12_keep 5 = .ok (.aload_n 0, 1) := by decide +kernel
theorem dX12_keep_6 : decode cX12_keep 6 = .ok (.iconst 1, 1) := by decide +kernel
theorem dX12_keep_7 : decode cX12_keep 7 = .ok (.putfield 344, 3) := by decide +kernel
theorem dX12_keep_10 : decode cX12_keep 10 = .ok (.iconst 1, 1) := by decide +kernel
theorem dX12_keep_11 : decode cX12_keep 11 = .ok (.ireturn, 1) := by decide +kernel
set_option maxRecDepth 20000 in
theorem ggX12_again_X12_moveAll : GoodIn wsX12_again wsX12_moveAll := goodIn_r _ [9, 10, 2, 3, 11, 12, 4, 13, 14, 15, 8, 16, 17, 18, 19, 20, 21, 22, 23, 24, 25, 26, 27, 28, 29, 30, 31, 32, 33, 34, 35, 36, 37, 38, 39, 40, 41, 42, 43, 44, 45, 46, 47, 48, 49, 50, 51, 52, 53, 54, 55, 56] (by decide +kernel) (by decide +kernel)
set_option maxRecDepth 20000 in
theorem gX12_again_X12_moveAll : GoodIn wsX12_again (wsV RX12 340 RX12 yX12_moveAll wsX12_moveAll) := goodIn_app (goodIn_of _ (by decide +kernel)) ggX12_again_X12_moveAll
theorem dX12_again_0 : decode cX12_again 0 = .ok (.aload_n 0, 1) := by decide +kernel
theorem dX12_again_1 : decode cX12_again 1 = .ok (.getfield 344, 3) := by decide +kernel
theorem dX12_again_4 : decode cX12_again 4 = .ok (.ifCond .ne 6, 3) := by decide +kernel
theorem dX12_again_7 : decode cX12_again 7 = .ok (.bipush (-3), 2) := by decide +kernel
theorem dX12_again_9 : decode cX12_again 9 = .ok (.ireturn, 1) := by decide +kernel
theorem dX12_again_10 : decode cX12_again 10 = .ok (.aload_n 0, 1) := by decide +kernel
theorem dX12_again_11 : decode cX12_again 11 = .ok (.iconst 0, 1) := by decide +kernel
theorem dX12_again_12 : decode cX12_again 12 = .ok (.invokevirtual 340, 3) := by decide +kernel
theorem dX12_again_15 : decode cX12_again 15 = .ok (.aload_n 0, 1) := by decide +kernel
theorem dX12_again_16 : decode cX12_again 16 = .ok (.aload_n 0, 1) := by decide +kernel
theorem dX12_again_17 : decode cX12_again 17 = .ok (.getfield 69, 3) := by decide +kernel
theorem dX12_again_20 : decode cX12_again 20 = .ok (.iconst 0, 1) := by decide +kernel
theorem dX12_again_21 : decode cX12_again 21 = .ok (.iaload, 1) := by decide +kernel
theorem dX12_again_22 : decode cX12_again 22 = .ok (.putfield 19, 3) := by decide +kernel
theorem dX12_again_25 : decode cX12_again 25 = .ok (.aload_n 0, 1) := by decide +kernel
theorem dX12_again_26 : decode cX12_again 26 = .ok (.getfield 16, 3) := by decide +kernel
theorem dX12_again_29 : decode cX12_again 29 = .ok (.iconst 1, 1) := by decide +kernel
theorem dX12_again_30 : decode cX12_again 30 = .ok (.iaload, 1) := by decide +kernel
theorem dX12_again_31 : decode cX12_again 31 = .ok (.ireturn, 1) := by decide +kernel
theorem dJ9_max_7cf53_0 : decode cJ9_max_7cf53 0 = .ok (.iload_n 0, 1) := by decide +kernel
theorem dJ9_max_7cf53_1 : decode cJ9_max_7cf53 1 = .ok (.iload_n 1, 1) := by decide +kernel
theorem dJ9_max_7cf53_2 : decode cJ9_max_7cf53 2 = .ok (.if_icmp .lt 7, 3) := by decide +kernel
theorem dJ9_max_7cf53_5 : decode cJ9_max_7cf53 5 = .ok (.iload_n 0, 1) := by decide +kernel
theorem dJ9_max_7cf53_6 : decode cJ9_max_7cf53 6 = .ok (.goto 4, 3) := by decide +kernel
theorem dJ9_max_7cf53_9 : decode cJ9_max_7cf53 9 = .ok (.iload_n 1, 1) := by decide +kernel
theorem dJ9_max_7cf53_10 : decode cJ9_max_7cf53 10 = .ok (.ireturn, 1) := by decide +kernel
theorem dJ9_min_7cf53_0 : decode cJ9_min_7cf53 0 = .ok (.iload_n 0, 1) := by decide +kernel
theorem dJ9_min_7cf53_1 : decode cJ9_min_7cf53 1 = .ok (.iload_n 1, 1) := by decide +kernel
theorem dJ9_min_7cf53_2 : decode cJ9_min_7cf53 2 = .ok (.if_icmp .gt 7, 3) := by decide +kernel
theorem dJ9_min_7cf53_5 : decode cJ9_min_7cf53 5 = .ok (.iload_n 0, 1) := by decide +kernel
theorem dJ9_min_7cf53_6 : decode cJ9_min_7cf53 6 = .ok (.goto 4, 3) := by decide +kernel
theorem dJ9_min_7cf53_9 : decode cJ9_min_7cf53 9 = .ok (.iload_n 1, 1) := by decide +kernel
theorem dJ9_min_7cf53_10 : decode cJ9_min_7cf53 10 = .ok (.ireturn, 1) := by decide +kernel
set_option maxRecDepth 20000 in
theorem ggJ0_length_8abf5_J0_coder_7d493 : GoodIn wsJ0_length_8abf5 wsJ0_coder_7d493 := goodIn_r _ [6, 7, 8] (by decide +kernel) (by decide +kernel)
set_option maxRecDepth 20000 in
theorem gJ0_length_8abf5_J0_coder_7d493 : GoodIn wsJ0_length_8abf5 (wsV RJ0 335 RJ0 yJ0_coder_7d493 wsJ0_coder_7d493) := goodIn_app (goodIn_of _ (by decide +kernel)) ggJ0_length_8abf5_J0_coder_7d493
theorem dJ0_length_8abf5_0 : decode cJ0_length_8abf5 0 = .ok (.aload_n 0, 1) := by decide +kernel
theorem dJ0_length_8abf5_1 : decode cJ0_length_8abf5 1 = .ok (.getfield 9, 3) := by decide +kernel
theorem dJ0_length_8abf5_4 : decode cJ0_length_8abf5 4 = .ok (.arraylength, 1) := by decide +kernel
theorem dJ0_length_8abf5_5 : decode cJ0_length_8abf5 5 = .ok (.aload_n 0, 1) := by decide +kernel
theorem dJ0_length_8abf5_6 : decode cJ0_length_8abf5 6 = .ok (.invokevirtual 335, 3) := by decide +kernel
theorem dJ0_length_8abf5_9 : decode cJ0_length_8abf5 9 = .ok (.ishr, 1) := by decide +kernel
theorem dJ0_length_8abf5_10 : decode cJ0_length_8abf5 10 = .ok (.ireturn, 1) := by decide +kernel
set_option maxRecDepth 20000 in
theorem ggJ0_charAt_5068e_J0_isLatin1_aae02 : GoodIn wsJ0_charAt_5068e wsJ0_isLatin1_aae02 := goodIn_r _ [6, 7, 8] (by decide +kernel) (by decide +kernel)
set_option maxRecDepth 20000 in
theorem gJ0_charAt_5068e_J0_isLatin1_aae02 : GoodIn wsJ0_charAt_5068e (wsV RJ0 492 RJ0 yJ0_isLatin1_aae02 wsJ0_isLatin1_aae02) := goodIn_app (goodIn_of _ (by decide +kernel)) ggJ0_charAt_5068e_J0_isLatin1_aae02
set_option maxRecDepth 20000 in
theorem ggJ0_charAt_5068e_J1_charAt_3b067 : GoodIn wsJ0_charAt_5068e wsJ1_charAt_3b067 := goodIn_r _ [12, 13, 14, 5, 15, 16, 17, 18, 19, 20] (by decide +kernel) (by decide +kernel)
set_option maxRecDepth 20000 in
theorem gJ0_charAt_5068e_J1_charAt_3b067 : GoodIn wsJ0_charAt_5068e (va_wsS RJ0 495 yJ1_charAt_3b067 wsJ1_charAt_3b067) := goodIn_app (goodIn_of _ (by decide +kernel)) ggJ0_charAt_5068e_J1_charAt_3b067
set_option maxRecDepth 20000 in
theorem ggJ0_charAt_5068e_J2_charAt_3b067 : GoodIn wsJ0_charAt_5068e wsJ2_charAt_3b067 := goodIn_r _ [24, 25, 26, 23, 27, 28, 29, 30, 31, 14, 5, 15, 16, 17, 18, 19, 20, 32, 33, 34, 35, 36, 37] (by decide +kernel) (by decide +kernel)
set_option maxRecDepth 20000 in
theorem gJ0_charAt_5068e_J2_charAt_3b067 : GoodIn wsJ0_charAt_5068e (va_wsS RJ0 498 yJ2_charAt_3b067 wsJ2_charAt_3b067) := goodIn_app (goodIn_of _ (by decide +kernel)) ggJ0_charAt_5068e_J2_charAt_3b067
theorem dJ0_charAt_5068e_0 : decode cJ0_charAt_5068e 0 = .ok (.aload_n 0, 1) := by decide +kernel
theorem dJ0_charAt_5068e_1 : decode cJ0_charAt_5068e 1 = .ok (.invokevirtual 492, 3) := by decide +kernel
theorem dJ0_charAt_5068e_4 : decode cJ0_charAt_5068e 4 = .ok (.ifCond .eq 12, 3) := by decide +kernel
theorem dJ0_charAt_5068e_7 : decode cJ0_charAt_5068e 7 = .ok (.aload_n 0, 1) := by decide +kernel
theorem dJ0_charAt_5068e_8 : decode cJ0_charAt_5068e 8 = .ok (.getfield 9, 3) := by decide +kernel
theorem dJ0_charAt_5068e_11 : decode cJ0_charAt_5068e 11 = .ok (.iload_n 1, 1) := by decide +kernel
theorem dJ0_charAt_5068e_12 : decode cJ0_charAt_5068e 12 = .ok (.invokestatic 495, 3) := by decide +kernel
theorem dJ0_charAt_5068e_15 : decode cJ0_charAt_5068e 15 = .ok (.ireturn, 1) := by decide +kernel
theorem dJ0_charAt_5068e_16 : decode cJ0_charAt_5068e 16 = .ok (.aload_n 0, 1) := by decide +kernel
theorem dJ0_charAt_5068e_17 : decode cJ0_charAt_5068e 17 = .ok (.getfield 9, 3) := by decide +kernel
theorem dJ0_charAt_5068e_20 : decode cJ0_charAt_5068e 20 = .ok (.iload_n 1, 1) := by decide +kernel
theorem dJ0_charAt_5068e_21 : decode cJ0_charAt_5068e 21 = .ok (.invokestatic 498, 3) := by decide +kernel
theorem dJ0_charAt_5068e_24 : decode cJ0_charAt_5068e 24 = .ok (.ireturn, 1) := by decide +kernel
theorem dJ0_coder_7d493_0 : decode cJ0_coder_7d493 0 = .ok (.getstatic 38, 3) := by decide +kernel
theorem dJ0_coder_7d493_3 : decode cJ0_coder_7d493 3 = .ok (.ifCond .eq 10, 3) := by decide +kernel
theorem dJ0_coder_7d493_6 : decode cJ0_coder_7d493 6 = .ok (.aload_n 0, 1) := by decide +kernel
theorem dJ0_coder_7d493_7 : decode cJ0_coder_7d493 7 = .ok (.getfield 15, 3) := by decide +kernel
theorem dJ0_coder_7d493_10 : decode cJ0_coder_7d493 10 = .ok (.goto 4, 3) := by decide +kernel
theorem dJ0_coder_7d493_13 : decode cJ0_coder_7d493 13 = .ok (.iconst 1, 1) := by decide +kernel
theorem dJ0_coder_7d493_14 : decode cJ0_coder_7d493 14 = .ok (.ireturn, 1) := by decide +kernel
theorem dJ0_isLatin1_aae02_0 : decode cJ0_isLatin1_aae02 0 = .ok (.getstatic 38, 3) := by decide +kernel
theorem dJ0_isLatin1_aae02_3 : decode cJ0_isLatin1_aae02 3 = .ok (.ifCond .eq 14, 3) := by decide +kernel
theorem dJ0_isLatin1_aae02_6 : decode cJ0_isLatin1_aae02 6 = .ok (.aload_n 0, 1) := by decide +kernel
theorem dJ0_isLatin1_aae02_7 : decode cJ0_isLatin1_aae02 7 = .ok (.getfield 15, 3) := by decide +kernel
theorem dJ0_isLatin1_aae02_10 : decode cJ0_isLatin1_aae02 10 = .ok (.ifCond .ne 7, 3) := by decide +kernel
theorem dJ0_isLatin1_aae02_13 : decode cJ0_isLatin1_aae02 13 = .ok (.iconst 1, 1) := by decide +kernel
theorem dJ0_isLatin1_aae02_14 : decode cJ0_isLatin1_aae02 14 = .ok (.goto 4, 3) := by decide +kernel
theorem dJ0_isLatin1_aae02_17 : decode cJ0_isLatin1_aae02 17 = .ok (.iconst 0, 1) := by decide +kernel
theorem dJ0_isLatin1_aae02_18 : decode cJ0_isLatin1_aae02 18 = .ok (.ireturn, 1) := by decide +kernel
set_option maxRecDepth 20000 in
theorem ggJ0_checkIndex_df160_J3_checkIndex_8e157 : GoodIn wsJ0_checkIndex_df160 wsJ3_checkIndex_8e157 := goodIn_r _ [5] (by decide +kernel) (by decide +kernel)
set_option maxRecDepth 20000 in
theorem gJ0_checkIndex_df160_J3_checkIndex_8e157 : GoodIn wsJ0_checkIndex_df160 (va_wsS RJ0 1059 yJ3_checkIndex_8e157 wsJ3_checkIndex_8e157) := goodIn_app (goodIn_of _ (by decide +kernel)) ggJ0_checkIndex_df160_J3_checkIndex_8e157
theorem dJ0_checkIndex_df160_0 : decode cJ0_checkIndex_df160 0 = .ok (.iload_n 0, 1) := by decide +kernel
theorem dJ0_checkIndex_df160_1 : decode cJ0_checkIndex_df160 1 = .ok (.iload_n 1, 1) := by decide +kernel
theorem dJ0_checkIndex_df160_2 : decode cJ0_checkIndex_df160 2 = .ok (.getstatic 1053, 3) := by decide +kernel
theorem dJ0_checkIndex_df160_5 : decode cJ0_checkIndex_df160 5 = .ok (.invokestatic 1059, 3) := by decide +kernel
theorem dJ0_checkIndex_df160_8 : decode cJ0_checkIndex_df160 8 = .ok (.pop, 1) := by decide +kernel
theorem dJ0_checkIndex_df160_9 : decode cJ0_checkIndex_df160 9 = .ok (.return_, 1) := by decide +kernel
set_option maxRecDepth 20000 in
theorem ggJ1_charAt_3b067_J0_checkIndex_df160 : GoodIn wsJ1_charAt_3b067 wsJ0_checkIndex_df160 := goodIn_r _ [4, 5, 6, 7, 8, 9] (by decide +kernel) (by decide +kernel)
set_option maxRecDepth 20000 in
theorem gJ1_charAt_3b067_J0_checkIndex_df160 : GoodIn wsJ1_charAt_3b067 (va_wsS RJ1 9 yJ0_checkIndex_df160 wsJ0_checkIndex_df160) := goodIn_app (goodIn_of _ (by decide +kernel)) ggJ1_charAt_3b067_J0_checkIndex_df160
theorem dJ1_charAt_3b067_0 : decode cJ1_charAt_3b067 0 = .ok (.iload_n 1, 1) := by decide +kernel
theorem dJ1_charAt_3b067_1 : decode cJ1_charAt_3b067 1 = .ok (.aload_n 0, 1) := by decide +kernel
theorem dJ1_charAt_3b067_2 : decode cJ1_charAt_3b067 2 = .ok (.arraylength, 1) := by decide +kernel
theorem dJ1_charAt_3b067_3 : decode cJ1_charAt_3b067 3 = .ok (.invokestatic 9, 3) := by decide +kernel
theorem dJ1_charAt_3b067_6 : decode cJ1_charAt_3b067 6 = .ok (.aload_n 0, 1) := by decide +kernel
theorem dJ1_charAt_3b067_7 : decode cJ1_charAt_3b067 7 = .ok (.iload_n 1, 1) := by decide +kernel
theorem dJ1_charAt_3b067_8 : decode cJ1_charAt_3b067 8 = .ok (.baload, 1) := by decide +kernel
theorem dJ1_charAt_3b067_9 : decode cJ1_charAt_3b067 9 = .ok (.sipush 255, 3) := by decide +kernel
theorem dJ1_charAt_3b067_12 : decode cJ1_charAt_3b067 12 = .ok (.iand, 1) := by decide +kernel
theorem dJ1_charAt_3b067_13 : decode cJ1_charAt_3b067 13 = .ok (.i2c, 1) := by decide +kernel
theorem dJ1_charAt_3b067_14 : decode cJ1_charAt_3b067 14 = .ok (.ireturn, 1) := by decide +kernel
set_option maxRecDepth 20000 in
theorem ggJ2_getChar_3b067_J2_length_9d52b : GoodIn wsJ2_getChar_3b067 wsJ2_length_9d52b := goodIn_r _ [7] (by decide +kernel) (by decide +kernel)
set_option maxRecDepth 20000 in
theorem gJ2_getChar_3b067_J2_length_9d52b : GoodIn wsJ2_getChar_3b067 (va_wsS RJ2 48 yJ2_length_9d52b wsJ2_length_9d52b) := goodIn_app (goodIn_of _ (by decide +kernel)) ggJ2_getChar_3b067_J2_length_9d52b
theorem dJ2_getChar_3b067_0 : decode cJ2_getChar_3b067 0 = .ok (.getstatic 44, 3) := by decide +kernel
theorem dJ2_getChar_3b067_3 : decode cJ2_getChar_3b067 3 = .ok (.ifCond .ne 25, 3) := by decide +kernel
theorem dJ2_getChar_3b067_6 : decode cJ2_getChar_3b067 6 = .ok (.iload_n 1, 1) := by decide +kernel
theorem dJ2_getChar_3b067_7 : decode cJ2_getChar_3b067 7 = .ok (.ifCond .lt 11, 3) := by decide +kernel
theorem dJ2_getChar_3b067_10 : decode cJ2_getChar_3b067 10 = .ok (.iload_n 1, 1) := by decide +kernel
theorem dJ2_getChar_3b067_11 : decode cJ2_getChar_3b067 11 = .ok (.aload_n 0, 1) := by decide +kernel
theorem dJ2_getChar_3b067_12 : decode cJ2_getChar_3b067 12 = .ok (.invokestatic 48, 3) := by decide +kernel
theorem dJ2_getChar_3b067_15 : decode cJ2_getChar_3b067 15 = .ok (.if_icmp .lt 13, 3) := by decide +kernel
theorem dJ2_getChar_3b067_18 : decode cJ2_getChar_3b067 18 = .ok (.new 52, 3) := by decide +kernel
theorem dJ2_getChar_3b067_21 : decode cJ2_getChar_3b067 21 = .ok (.dup, 1) := by decide +kernel
theorem dJ2_getChar_3b067_22 : decode cJ2_getChar_3b067 22 = .ok (.ldc 54, 2) := by decide +kernel
theorem dJ2_getChar_3b067_24 : decode cJ2_getChar_3b067 24 = .ok (.invokespecial 56, 3) := by decide +kernel
theorem dJ2_getChar_3b067_27 : decode cJ2_getChar_3b067 27 = .ok (.athrow, 1) := by decide +kernel
theorem dJ2_getChar_3b067_28 : decode cJ2_getChar_3b067 28 = .ok (.iload_n 1, 1) := by decide +kernel
theorem dJ2_getChar_3b067_29 : decode cJ2_getChar_3b067 29 = .ok (.iconst 1, 1) := by decide +kernel
theorem dJ2_getChar_3b067_30 : decode cJ2_getChar_3b067 30 = .ok (.ishl, 1) := by decide +kernel
theorem dJ2_getChar_3b067_31 : decode cJ2_getChar_3b067 31 = .ok (.istore_n 1, 1) := by decide +kernel
theorem dJ2_getChar_3b067_32 : decode cJ2_getChar_3b067 32 = .ok (.aload_n 0, 1) := by decide +kernel
theorem dJ2_getChar_3b067_33 : decode cJ2_getChar_3b067 33 = .ok (.iload_n 1, 1) := by decide +kernel
theorem dJ2_getChar_3b067_34 : decode cJ2_getChar_3b067 34 = .ok (.iinc 1 1, 3) := by decide +kernel
theorem dJ2_getChar_3b067_37 : decode cJ2_getChar_3b067 37 = .ok (.baload, 1) := by decide +kernel
theorem dJ2_getChar_3b067_38 : decode cJ2_getChar_3b067 38 = .ok (.sipush 255, 3) := by decide +kernel
theorem dJ2_getChar_3b067_41 : decode cJ2_getChar_3b067 41 = .ok (.iand, 1) := by decide +kernel
theorem dJ2_getChar_3b067_42 : decode cJ2_getChar_3b067 42 = .ok (.getstatic 59, 3) := by decide +kernel
theorem dJ2_getChar_3b067_45 : decode cJ2_getChar_3b067 45 = .ok (.ishl, 1) := by decide +kernel
theorem dJ2_getChar_3b067_46 : decode cJ2_getChar_3b067 46 = .ok (.aload_n 0, 1) := by decide +kernel
theorem dJ2_getChar_3b067_47 : decode cJ2_getChar_3b067 47 = .ok (.iload_n 1, 1) := by decide +kernel
theorem dJ2_getChar_3b067_48 : decode cJ2_getChar_3b067 48 = .ok (.baload, 1) := by decide +kernel
theorem dJ2_getChar_3b067_49 : decode cJ2_getChar_3b067 49 = .ok (.sipush 255, 3) := by decide +kernel
theorem dJ2_getChar_3b067_52 : decode cJ2_getChar_3b067 52 = .ok (.iand, 1) := by decide +kernel
theorem dJ2_getChar_3b067_53 : decode cJ2_getChar_3b067 53 = .ok (.getstatic 63, 3) := by decide +kernel
theorem dJ2_getChar_3b067_56 : decode cJ2_getChar_3b067 56 = .ok (.ishl, 1) := by decide +kernel
theorem dJ2_getChar_3b067_57 : decode cJ2_getChar_3b067 57 = .ok (.ior, 1) := by decide +kernel
theorem dJ2_getChar_3b067_58 : decode cJ2_getChar_3b067 58 = .ok (.i2c, 1) := by decide +kernel
theorem dJ2_getChar_3b067_59 : decode cJ2_getChar_3b067 59 = .ok (.ireturn, 1) := by decide +kernel
theorem dJ2_length_9d52b_0 : decode cJ2_length_9d52b 0 = .ok (.aload_n 0, 1) := by decide +kernel
theorem dJ2_length_9d52b_1 : decode cJ2_length_9d52b 1 = .ok (.arraylength, 1) := by decide +kernel
theorem dJ2_length_9d52b_2 : decode cJ2_length_9d52b 2 = .ok (.iconst 1, 1) := by decide +kernel
theorem dJ2_length_9d52b_3 : decode cJ2_length_9d52b 3 = .ok (.ishr, 1) := by decide +kernel
theorem dJ2_length_9d52b_4 : decode cJ2_length_9d52b 4 = .ok (.ireturn, 1) := by decide +kernel
set_option maxRecDepth 20000 in
theorem ggJ2_charAt_3b067_J2_checkIndex_2214a : GoodIn wsJ2_charAt_3b067 wsJ2_checkIndex_2214a := goodIn_r _ [4, 5, 6, 3, 7, 8, 9, 10, 11, 12, 13, 14, 15, 16] (by decide +kernel) (by decide +kernel)
set_option maxRecDepth 20000 in
theorem gJ2_charAt_3b067_J2_checkIndex_2214a : GoodIn wsJ2_charAt_3b067 (va_wsS RJ2 67 yJ2_checkIndex_2214a wsJ2_checkIndex_2214a) := goodIn_app (goodIn_of _ (by decide +kernel)) ggJ2_charAt_3b067_J2_checkIndex_2214a
set_option maxRecDepth 20000 in
theorem ggJ2_charAt_3b067_J2_getChar_3b067 : GoodIn wsJ2_charAt_3b067 wsJ2_getChar_3b067 := goodIn_r _ [19, 20, 21, 22, 5, 6, 3, 7] (by decide +kernel) (by decide +kernel)
set_option maxRecDepth 20000 in
theorem gJ2_charAt_3b067_J2_getChar_3b067 : GoodIn wsJ2_charAt_3b067 (va_wsS RJ2 71 yJ2_getChar_3b067 wsJ2_getChar_3b067) := goodIn_app (goodIn_of _ (by decide +kernel)) ggJ2_charAt_3b067_J2_getChar_3b067
theorem dJ2_charAt_3b067_0 : decode cJ2_charAt_3b067 0 = .ok (.iload_n 1, 1) := by decide +kernel
theorem dJ2_charAt_3b067_1 : decode cJ2_charAt_3b067 1 = .ok (.aload_n 0, 1) := by decide +kernel
theorem dJ2_charAt_3b067_2 : decode cJ2_charAt_3b067 2 = .ok (.invokestatic 67, 3) := by decide +kernel
theorem dJ2_charAt_3b067_5 : decode cJ2_charAt_3b067 5 = .ok (.aload_n 0, 1) := by decide +kernel
theorem dJ2_charAt_3b067_6 : decode cJ2_charAt_3b067 6 = .ok (.iload_n 1, 1) := by decide +kernel
theorem dJ2_charAt_3b067_7 : decode cJ2_charAt_3b067 7 = .ok (.invokestatic 71, 3) := by decide +kernel
theorem dJ2_charAt_3b067_10 : decode cJ2_charAt_3b067 10 = .ok (.ireturn, 1) := by decide +kernel
set_option maxRecDepth 20000 in
theorem ggJ2_checkIndex_2214a_J2_length_9d52b : GoodIn wsJ2_checkIndex_2214a wsJ2_length_9d52b := goodIn_r _ [4] (by decide +kernel) (by decide +kernel)
set_option maxRecDepth 20000 in
theorem gJ2_checkIndex_2214a_J2_length_9d52b : GoodIn wsJ2_checkIndex_2214a (va_wsS RJ2 48 yJ2_length_9d52b wsJ2_length_9d52b) := goodIn_app (goodIn_of _ (by decide +kernel)) ggJ2_checkIndex_2214a_J2_length_9d52b
set_option maxRecDepth 20000 in
theorem ggJ2_checkIndex_2214a_J0_checkIndex_df160 : GoodIn wsJ2_checkIndex_2214a wsJ0_checkIndex_df160 := goodIn_r _ [8, 9, 10, 11, 12, 13] (by decide +kernel) (by decide +kernel)
set_option maxRecDepth 20000 in
theorem gJ2_checkIndex_2214a_J0_checkIndex_df160 : GoodIn wsJ2_checkIndex_2214a (va_wsS RJ2 414 yJ0_checkIndex_df160 wsJ0_checkIndex_df160) := goodIn_app (goodIn_of _ (by decide +kernel)) ggJ2_checkIndex_2214a_J0_checkIndex_df160
theorem dJ2_checkIndex_2214a_0 : decode cJ2_checkIndex_2214a 0 = .ok (.iload_n 0, 1) := by decide +kernel
theorem dJ2_checkIndex_2214a_1 : decode cJ2_checkIndex_2214a 1 = .ok (.aload_n 1, 1) := by decide +kernel
theorem dJ2_checkIndex_2214a_2 : decode cJ2_checkIndex_2214a 2 = .ok (.invokestatic 48, 3) := by decide +kernel
theorem dJ2_checkIndex_2214a_5 : decode cJ2_checkIndex_2214a 5 = .ok (.invokestatic 414, 3) := by decide +kernel
theorem dJ2_checkIndex_2214a_8 : decode cJ2_checkIndex_2214a 8 = .ok (.return_, 1) := by decide +kernel
theorem dJ3_checkIndex_8e157_0 : decode cJ3_checkIndex_8e157 0 = .ok (.iload_n 0, 1) := by decide +kernel
theorem dJ3_checkIndex_8e157_1 : decode cJ3_checkIndex_8e157 1 = .ok (.ifCond .lt 8, 3) := by decide +kernel
theorem dJ3_checkIndex_8e157_4 : decode cJ3_checkIndex_8e157 4 = .ok (.iload_n 0, 1) := by decide +kernel
theorem dJ3_checkIndex_8e157_5 : decode cJ3_checkIndex_8e157 5 = .ok (.iload_n 1, 1) := by decide +kernel
theorem dJ3_checkIndex_8e157_6 : decode cJ3_checkIndex_8e157 6 = .ok (.if_icmp .lt 10, 3) := by decide +kernel
theorem dJ3_checkIndex_8e157_9 : decode cJ3_checkIndex_8e157 9 = .ok (.aload_n 2, 1) := by decide +kernel
theorem dJ3_checkIndex_8e157_10 : decode cJ3_checkIndex_8e157 10 = .ok (.iload_n 0, 1) := by decide +kernel
theorem dJ3_checkIndex_8e157_11 : decode cJ3_checkIndex_8e157 11 = .ok (.iload_n 1, 1) := by decide +kernel
theorem dJ3_checkIndex_8e157_12 : decode cJ3_checkIndex_8e157 12 = .ok (.invokestatic 95, 3) := by decide +kernel
theorem dJ3_checkIndex_8e157_15 : decode cJ3_checkIndex_8e157 15 = .ok (.athrow, 1) := by decide +kernel
theorem dJ3_checkIndex_8e157_16 : decode cJ3_checkIndex_8e157 16 = .ok (.iload_n 0, 1) := by decide +kernel
theorem dJ3_checkIndex_8e157_17 : decode cJ3_checkIndex_8e157 17 = .ok (.ireturn, 1) := by decide +kernel
abbrev vwCl : List vw_C := [(RX0, TX0, 3), (RX1, TX1, 3), (RX2, TX2, 3), (RX3, TX3, 5), (RX4, TX4, 5), (RX5, TX5, 3), (RX6, TX6, 2), (RX7, TX7, 3), (RX8, TX8, 3), (RX9, TX9, 3), (RX10, TX10, 6), (RX11, TX11, 12), (RX12, TX12, 39)]
